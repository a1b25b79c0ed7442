def po_X9_item (g : gE) (f : gF) (h : Nat) (Z M : Nat → Int) (aa : Nat) (P : Nat → Int) (a b x y fl v0 : Int) : Int32 → gF → Prop := fun r f1 => mdO f1 h (pu Z 15 (dRf P 7 a b x y fl)) ∧ r = zI (dA P 7 a b x y fl) ∧ mpAt g f1 h M aa (dP P 7 a b x y fl) ∧ ∀ q, (q ≠ h ∧ q ≠ h + 1) → f1 q = f q
set_option maxRecDepth 100000 in
set_option maxHeartbeats 1000000 in
/-- item -/
theorem c_X9_item (l : Launch) (g : gE) (b0 n : Nat) (f : gF) (h : Nat) (Z M : Nat → Int) (aa : Nat) (P : Nat → Int) (a b x y fl v0 : Int) (hO : mdO f h Z) (hP : mpAt g f h M aa P) (hrg : b0 ≤ h ∧ h + 13 ≤ b0 + n) (hat : Z 11 = ↑aa) (haa : aa + 147 ≤ 2058) (hz : Z 15 = 0) (hfl : fl = 0 ∨ fl = 1) (hra : rI a) (hrb : rI b) (hrx : rI x) (hry : rI y) (hok : pOk P v0) (hv1 : 0 ≤ v0) (hv0 : v0 + 541 ≤ 800000000) : cI l yX9_item cX9_item 8 (some .int) 2 52 [.ref h, .int (zI a), .int (zI b), .int (zI x), .int (zI y), .int (zI fl)] g b0 n f (po_X9_item g f h Z M aa P a b x y fl v0) := by
  refine gs_i (cc := cX9_item) (maxL := 8) (ret := (some .int)) (by decide) (Nat.le_of_ble_eq_true rfl) ?_
  intro p e0 s m args below meth c ls hx hb hr hml hown hts hlk hK hM hl
  have hl : lv_has ls 8 [(0, .ref h), (1, .int (zI a)), (2, .int (zI b)), (3, .int (zI x)), (4, .int (zI y)), (5, .int (zI fl))] := hl
  have hcn7 := hok.1.1
  have hcn8 := hok.2.1.1
  have hcn9 := hok.2.2.1.1
  have hcn10 := hok.2.2.2.2.2.2.2.1
  have hcp7 := hcn7
  have hcp8 := hcn8
  have hcp9 := hcn9
  have hcp10 := hcn10
  refine lv_iload_n hx hb dX9_item_0 rfl (lv_at hl 1 rfl) ?_
  refine g_i2l hx hb dX9_item_1 hra ?_
  refine g_lconst (z := 0) hx hb dX9_item_2 (by decide) ?_
  refine g_lconst (z := 1) hx hb dX9_item_3 (by decide) ?_
  have hC1 := c_X9_in l g b0 n f a 0 1 (rI_L hra) (by decide) (by decide)
  refine g_callSi (As := [.long (zL a), .long (zL 0), .long (zL 1)]) (rest := []) ⟨hx, hb, hml, hown, hts⟩ hK hM hC1 (cuS (n := 3) hts u_1240 u_1238 u_10 (by decide) u_1239 ⟨Nat.le_of_ble_eq_true rfl, Nat.le_of_ble_eq_true rfl⟩) rfl hl.1 rfl (Nat.le_of_ble_eq_true rfl) dX9_item_4 ⟨Nat.zero_le _, Nat.zero_le _⟩ (fun r4 f2 H locs hM hp3 => ?_)
  obtain ⟨rfl, rfl⟩ := hp3
  refine g_ifb_eq (tgt := 43) hx hb dX9_item_7 (by decide) (fun c7 => ?_) (fun c7 => ?_)
  · skip
    refine g_iconst hx hb dX9_item_43 ?_
    refine lv_goto (tgt := 48) hx hb dX9_item_44 (by decide) ?_
    refine lv_istore (lv' := [(6, .int (zI 1)), (0, .ref h), (1, .int (zI a)), (2, .int (zI b)), (3, .int (zI x)), (4, .int (zI y)), (5, .int (zI fl))]) hx hb dX9_item_48 hl (by decide) rfl (fun ls hl => ?_)
    refine lv_aload_n hx hb dX9_item_50 rfl (lv_at hl 1 rfl) ?_
    refine lv_iload_n hx hb dX9_item_51 rfl (lv_at hl 2 rfl) ?_
    refine g_iconst hx hb dX9_item_52 ?_
    refine g_icmp_ne (tgt := 68) hx hb dX9_item_53 (by decide) hra (by decide) (fun c53 => ?_) (fun c53 => ?_)
    · skip
      refine g_iconst hx hb dX9_item_68 ?_
      refine g_iconst hx hb dX9_item_69 ?_
      have hC4 := c_X9_refuses l g b0 n f h Z 0 1 hO hrg hz (Or.inl rfl) (by decide)
      refine g_callVi (ci := 11) (C := RX9) (T := TX9) (N := 24) (As := [.int (zI 0), .int (zI 1)]) (rest := []) ⟨hx, hb, hml, hown, hts⟩ hK hM hC4 (cuV (n := 2) hts u_1245 u_1242 u_10 (by decide) u_1244 us_29 ⟨Nat.le_of_ble_eq_true rfl, Nat.le_of_ble_eq_true rfl⟩) ⟨by omega, by omega⟩ hO rfl rfl hl.1 rfl (Nat.le_of_ble_eq_true rfl) dX9_item_70 ⟨Nat.zero_le _, Nat.zero_le _⟩ (fun r70 f5 H locs hM hp6 => ?_)
      have hd7 := rf_alt hp6 (Or.inl rfl)
      obtain ⟨rfl, hm11, o9⟩ := hd7.elim (fun q9 => absurd q9.1 (by decide)) (fun q9 => q9.2)
      have ho13 : f5 h = .inr (11, [.int (zI (Z 0)), .ref (h + 1), .ref (h + 2), .ref (h + 3), .ref (h + 4), .ref (h + 5), .ref (h + 6), .ref (h + 7), .ref (h + 8), .int (zI (Z 9)), .int (zI (Z 10)), .int (zI (Z 11)), .int (zI (Z 12)), .int (zI (Z 13)), .int (zI (Z 14)), .int (zI 0), .int (zI (Z 16)), .ref (h + 9), .ref (h + 10), .ref (h + 11), .int (zI (Z 20)), .int (zI (Z 21)), .int (zI (Z 22)), .ref (h + 12)]) := hm11
      refine g_if_ne (tgt := 115) hx hb dX9_item_73 (by decide) (by decide) (fun c73 => ?_) (fun c73 => ?_)
      · exact absurd c73 (by decide)
      · skip
        refine lv_aload_n hx hb dX9_item_76 rfl (lv_at hl 1 rfl) ?_
        refine lv_iload hx hb dX9_item_77 (lv_at hl 0 rfl) ?_
        refine g_iconst hx hb dX9_item_79 ?_
        have hC14 := c_X9_refuses l g b0 n f5 h (pu Z 15 0) 1 2 ho13 hrg (pu_s _ _ _) (Or.inr rfl) (by decide)
        refine g_callVi (ci := 11) (C := RX9) (T := TX9) (N := 24) (As := [.int (zI 1), .int (zI 2)]) (rest := []) ⟨hx, hb, hml, hown, hts⟩ hK hM hC14 (cuV (n := 2) hts u_1245 u_1242 u_10 (by decide) u_1244 us_29 ⟨Nat.le_of_ble_eq_true rfl, Nat.le_of_ble_eq_true rfl⟩) ⟨by omega, by omega⟩ ho13 rfl rfl hl.1 rfl (Nat.le_of_ble_eq_true rfl) dX9_item_80 ⟨Nat.zero_le _, Nat.zero_le _⟩ (fun r80 f15 H locs hM hp16 => ?_)
        have hd17 := rf_alt hp16 (Or.inr rfl)
        obtain ⟨rfl, hm20, o18⟩ := hd17.elim (fun q9 => q9.2) (fun q9 => absurd q9.1 (by decide))
        have ho23 : f15 h = .inr (11, [.int (zI (Z 0)), .ref (h + 1), .ref (h + 2), .ref (h + 3), .ref (h + 4), .ref (h + 5), .ref (h + 6), .ref (h + 7), .ref (h + 8), .int (zI (Z 9)), .int (zI (Z 10)), .int (zI (Z 11)), .int (zI (Z 12)), .int (zI (Z 13)), .int (zI (Z 14)), .int (zI 2), .int (zI (Z 16)), .ref (h + 9), .ref (h + 10), .ref (h + 11), .int (zI (Z 20)), .int (zI (Z 21)), .int (zI (Z 22)), .ref (h + 12)]) := hm20
        refine g_if_ne (tgt := 115) hx hb dX9_item_83 (by decide) (by decide) (fun c83 => ?_) (fun c83 => ?_)
        · skip
          refine g_iconst hx hb dX9_item_115 ?_
          have hf24 := hP.kept (fun q h1 h2 => ((o18 (q) (by omega)).trans (o9 (q) (by omega))))
          refine g_iret hx hb hr hlk hK hM dX9_item_116 ?_
          have hS : sRef P 7 a b x y (fl = 1) = 2 := by
            rw [rf_7]
            (repeat' split) <;> first | rfl | omega
          obtain ⟨e1, e2, e3⟩ := d_no hS (by decide)
          exact ⟨by rw [e1]; exact ho23, by rw [e2], by rw [e3]; exact hf24, (fun q hq => ((o18 (q) (by omega)).trans (o9 (q) (by omega))))⟩
        · exact absurd c83 (by decide)
    · skip
      refine lv_aload_n hx hb dX9_item_56 rfl (lv_at hl 1 rfl) ?_
      refine lv_iload_n hx hb dX9_item_57 rfl (lv_at hl 3 rfl) ?_
      have hC25 := c_X9_isEnvelope l g b0 n f h Z M aa P b hO hP hrg hat haa hcn7 hrb
      refine g_callVi (ci := 11) (C := RX9) (T := TX9) (N := 24) (As := [.int (zI b)]) (rest := [.ref h]) ⟨hx, hb, hml, hown, hts⟩ hK hM hC25 (cuV (n := 1) hts u_1265 u_1262 u_10 (by decide) u_1264 us_34 ⟨Nat.le_of_ble_eq_true rfl, Nat.le_of_ble_eq_true rfl⟩) ⟨by omega, by omega⟩ hO rfl rfl hl.1 rfl (Nat.le_of_ble_eq_true rfl) dX9_item_58 ⟨Nat.zero_le _, Nat.zero_le _⟩ (fun r58 f26 H locs hM hp27 => ?_)
      obtain ⟨rfl, rfl⟩ := hp27
      refine g_ifb_ne (tgt := 68) hx hb dX9_item_61 (by decide) (fun c61 => ?_) (fun c61 => ?_)
      · skip
        refine g_iconst hx hb dX9_item_68 ?_
        refine g_iconst hx hb dX9_item_69 ?_
        have hC28 := c_X9_refuses l g b0 n f h Z 0 1 hO hrg hz (Or.inl rfl) (by decide)
        refine g_callVi (ci := 11) (C := RX9) (T := TX9) (N := 24) (As := [.int (zI 0), .int (zI 1)]) (rest := []) ⟨hx, hb, hml, hown, hts⟩ hK hM hC28 (cuV (n := 2) hts u_1245 u_1242 u_10 (by decide) u_1244 us_29 ⟨Nat.le_of_ble_eq_true rfl, Nat.le_of_ble_eq_true rfl⟩) ⟨by omega, by omega⟩ hO rfl rfl hl.1 rfl (Nat.le_of_ble_eq_true rfl) dX9_item_70 ⟨Nat.zero_le _, Nat.zero_le _⟩ (fun r70 f29 H locs hM hp30 => ?_)
        have hd31 := rf_alt hp30 (Or.inl rfl)
        obtain ⟨rfl, hm35, o33⟩ := hd31.elim (fun q9 => absurd q9.1 (by decide)) (fun q9 => q9.2)
        have ho37 : f29 h = .inr (11, [.int (zI (Z 0)), .ref (h + 1), .ref (h + 2), .ref (h + 3), .ref (h + 4), .ref (h + 5), .ref (h + 6), .ref (h + 7), .ref (h + 8), .int (zI (Z 9)), .int (zI (Z 10)), .int (zI (Z 11)), .int (zI (Z 12)), .int (zI (Z 13)), .int (zI (Z 14)), .int (zI 0), .int (zI (Z 16)), .ref (h + 9), .ref (h + 10), .ref (h + 11), .int (zI (Z 20)), .int (zI (Z 21)), .int (zI (Z 22)), .ref (h + 12)]) := hm35
        refine g_if_ne (tgt := 115) hx hb dX9_item_73 (by decide) (by decide) (fun c73 => ?_) (fun c73 => ?_)
        · exact absurd c73 (by decide)
        · skip
          refine lv_aload_n hx hb dX9_item_76 rfl (lv_at hl 1 rfl) ?_
          refine lv_iload hx hb dX9_item_77 (lv_at hl 0 rfl) ?_
          refine g_iconst hx hb dX9_item_79 ?_
          have hC38 := c_X9_refuses l g b0 n f29 h (pu Z 15 0) 1 2 ho37 hrg (pu_s _ _ _) (Or.inr rfl) (by decide)
          refine g_callVi (ci := 11) (C := RX9) (T := TX9) (N := 24) (As := [.int (zI 1), .int (zI 2)]) (rest := []) ⟨hx, hb, hml, hown, hts⟩ hK hM hC38 (cuV (n := 2) hts u_1245 u_1242 u_10 (by decide) u_1244 us_29 ⟨Nat.le_of_ble_eq_true rfl, Nat.le_of_ble_eq_true rfl⟩) ⟨by omega, by omega⟩ ho37 rfl rfl hl.1 rfl (Nat.le_of_ble_eq_true rfl) dX9_item_80 ⟨Nat.zero_le _, Nat.zero_le _⟩ (fun r80 f39 H locs hM hp40 => ?_)
          have hd41 := rf_alt hp40 (Or.inr rfl)
          obtain ⟨rfl, hm44, o42⟩ := hd41.elim (fun q9 => q9.2) (fun q9 => absurd q9.1 (by decide))
          have ho47 : f39 h = .inr (11, [.int (zI (Z 0)), .ref (h + 1), .ref (h + 2), .ref (h + 3), .ref (h + 4), .ref (h + 5), .ref (h + 6), .ref (h + 7), .ref (h + 8), .int (zI (Z 9)), .int (zI (Z 10)), .int (zI (Z 11)), .int (zI (Z 12)), .int (zI (Z 13)), .int (zI (Z 14)), .int (zI 2), .int (zI (Z 16)), .ref (h + 9), .ref (h + 10), .ref (h + 11), .int (zI (Z 20)), .int (zI (Z 21)), .int (zI (Z 22)), .ref (h + 12)]) := hm44
          refine g_if_ne (tgt := 115) hx hb dX9_item_83 (by decide) (by decide) (fun c83 => ?_) (fun c83 => ?_)
          · skip
            refine g_iconst hx hb dX9_item_115 ?_
            have hf48 := hP.kept (fun q h1 h2 => ((o42 (q) (by omega)).trans (o33 (q) (by omega))))
            refine g_iret hx hb hr hlk hK hM dX9_item_116 ?_
            have hS : sRef P 7 a b x y (fl = 1) = 2 := by
              rw [rf_7]
              (repeat' split) <;> first | rfl | omega
            obtain ⟨e1, e2, e3⟩ := d_no hS (by decide)
            exact ⟨by rw [e1]; exact ho47, by rw [e2], by rw [e3]; exact hf48, (fun q hq => ((o42 (q) (by omega)).trans (o33 (q) (by omega))))⟩
          · exact absurd c83 (by decide)
      · skip
        refine g_iconst hx hb dX9_item_64 ?_
        refine lv_goto (tgt := 69) hx hb dX9_item_65 (by decide) ?_
        refine g_iconst hx hb dX9_item_69 ?_
        have hC49 := c_X9_refuses l g b0 n f h Z 1 1 hO hrg hz (Or.inr rfl) (by decide)
        refine g_callVi (ci := 11) (C := RX9) (T := TX9) (N := 24) (As := [.int (zI 1), .int (zI 1)]) (rest := []) ⟨hx, hb, hml, hown, hts⟩ hK hM hC49 (cuV (n := 2) hts u_1245 u_1242 u_10 (by decide) u_1244 us_29 ⟨Nat.le_of_ble_eq_true rfl, Nat.le_of_ble_eq_true rfl⟩) ⟨by omega, by omega⟩ hO rfl rfl hl.1 rfl (Nat.le_of_ble_eq_true rfl) dX9_item_70 ⟨Nat.zero_le _, Nat.zero_le _⟩ (fun r70 f50 H locs hM hp51 => ?_)
        have hd52 := rf_alt hp51 (Or.inr rfl)
        obtain ⟨rfl, hm55, o53⟩ := hd52.elim (fun q9 => q9.2) (fun q9 => absurd q9.1 (by decide))
        have ho58 : f50 h = .inr (11, [.int (zI (Z 0)), .ref (h + 1), .ref (h + 2), .ref (h + 3), .ref (h + 4), .ref (h + 5), .ref (h + 6), .ref (h + 7), .ref (h + 8), .int (zI (Z 9)), .int (zI (Z 10)), .int (zI (Z 11)), .int (zI (Z 12)), .int (zI (Z 13)), .int (zI (Z 14)), .int (zI 1), .int (zI (Z 16)), .ref (h + 9), .ref (h + 10), .ref (h + 11), .int (zI (Z 20)), .int (zI (Z 21)), .int (zI (Z 22)), .ref (h + 12)]) := hm55
        refine g_if_ne (tgt := 115) hx hb dX9_item_73 (by decide) (by decide) (fun c73 => ?_) (fun c73 => ?_)
        · skip
          refine g_iconst hx hb dX9_item_115 ?_
          have hf59 := hP.kept (fun q h1 h2 => (o53 (q) (by omega)))
          refine g_iret hx hb hr hlk hK hM dX9_item_116 ?_
          have hS : sRef P 7 a b x y (fl = 1) = 1 := by
            rw [rf_7]
            (repeat' split) <;> first | rfl | omega
          obtain ⟨e1, e2, e3⟩ := d_no hS (by decide)
          exact ⟨by rw [e1]; exact ho58, by rw [e2], by rw [e3]; exact hf59, (fun q hq => (o53 (q) (by omega)))⟩
        · exact absurd c73 (by decide)
  · skip
    refine lv_iload_n hx hb dX9_item_10 rfl (lv_at hl 3 rfl) ?_
    refine g_i2l hx hb dX9_item_11 hrx ?_
    refine g_lconst (z := 1) hx hb dX9_item_12 (by decide) ?_
    refine g_ldc2 (z := 1000000) hx hb hown (hts _ u_1273) dX9_item_13 (by decide) ?_
    have hC60 := c_X9_in l g b0 n f x 1 1000000 (rI_L hrx) (by decide) (by decide)
    refine g_callSi (As := [.long (zL x), .long (zL 1), .long (zL 1000000)]) (rest := []) ⟨hx, hb, hml, hown, hts⟩ hK hM hC60 (cuS (n := 3) hts u_1240 u_1238 u_10 (by decide) u_1239 ⟨Nat.le_of_ble_eq_true rfl, Nat.le_of_ble_eq_true rfl⟩) rfl hl.1 rfl (Nat.le_of_ble_eq_true rfl) dX9_item_16 ⟨Nat.zero_le _, Nat.zero_le _⟩ (fun r16 f61 H locs hM hp62 => ?_)
    obtain ⟨rfl, rfl⟩ := hp62
    refine g_ifb_eq (tgt := 43) hx hb dX9_item_19 (by decide) (fun c19 => ?_) (fun c19 => ?_)
    · skip
      refine g_iconst hx hb dX9_item_43 ?_
      refine lv_goto (tgt := 48) hx hb dX9_item_44 (by decide) ?_
      refine lv_istore (lv' := [(6, .int (zI 1)), (0, .ref h), (1, .int (zI a)), (2, .int (zI b)), (3, .int (zI x)), (4, .int (zI y)), (5, .int (zI fl))]) hx hb dX9_item_48 hl (by decide) rfl (fun ls hl => ?_)
      refine lv_aload_n hx hb dX9_item_50 rfl (lv_at hl 1 rfl) ?_
      refine lv_iload_n hx hb dX9_item_51 rfl (lv_at hl 2 rfl) ?_
      refine g_iconst hx hb dX9_item_52 ?_
      refine g_icmp_ne (tgt := 68) hx hb dX9_item_53 (by decide) hra (by decide) (fun c53 => ?_) (fun c53 => ?_)
      · skip
        refine g_iconst hx hb dX9_item_68 ?_
        refine g_iconst hx hb dX9_item_69 ?_
        have hC63 := c_X9_refuses l g b0 n f h Z 0 1 hO hrg hz (Or.inl rfl) (by decide)
        refine g_callVi (ci := 11) (C := RX9) (T := TX9) (N := 24) (As := [.int (zI 0), .int (zI 1)]) (rest := []) ⟨hx, hb, hml, hown, hts⟩ hK hM hC63 (cuV (n := 2) hts u_1245 u_1242 u_10 (by decide) u_1244 us_29 ⟨Nat.le_of_ble_eq_true rfl, Nat.le_of_ble_eq_true rfl⟩) ⟨by omega, by omega⟩ hO rfl rfl hl.1 rfl (Nat.le_of_ble_eq_true rfl) dX9_item_70 ⟨Nat.zero_le _, Nat.zero_le _⟩ (fun r70 f64 H locs hM hp65 => ?_)
        have hd66 := rf_alt hp65 (Or.inl rfl)
        obtain ⟨rfl, hm70, o68⟩ := hd66.elim (fun q9 => absurd q9.1 (by decide)) (fun q9 => q9.2)
        have ho72 : f64 h = .inr (11, [.int (zI (Z 0)), .ref (h + 1), .ref (h + 2), .ref (h + 3), .ref (h + 4), .ref (h + 5), .ref (h + 6), .ref (h + 7), .ref (h + 8), .int (zI (Z 9)), .int (zI (Z 10)), .int (zI (Z 11)), .int (zI (Z 12)), .int (zI (Z 13)), .int (zI (Z 14)), .int (zI 0), .int (zI (Z 16)), .ref (h + 9), .ref (h + 10), .ref (h + 11), .int (zI (Z 20)), .int (zI (Z 21)), .int (zI (Z 22)), .ref (h + 12)]) := hm70
        refine g_if_ne (tgt := 115) hx hb dX9_item_73 (by decide) (by decide) (fun c73 => ?_) (fun c73 => ?_)
        · exact absurd c73 (by decide)
        · skip
          refine lv_aload_n hx hb dX9_item_76 rfl (lv_at hl 1 rfl) ?_
          refine lv_iload hx hb dX9_item_77 (lv_at hl 0 rfl) ?_
          refine g_iconst hx hb dX9_item_79 ?_
          have hC73 := c_X9_refuses l g b0 n f64 h (pu Z 15 0) 1 2 ho72 hrg (pu_s _ _ _) (Or.inr rfl) (by decide)
          refine g_callVi (ci := 11) (C := RX9) (T := TX9) (N := 24) (As := [.int (zI 1), .int (zI 2)]) (rest := []) ⟨hx, hb, hml, hown, hts⟩ hK hM hC73 (cuV (n := 2) hts u_1245 u_1242 u_10 (by decide) u_1244 us_29 ⟨Nat.le_of_ble_eq_true rfl, Nat.le_of_ble_eq_true rfl⟩) ⟨by omega, by omega⟩ ho72 rfl rfl hl.1 rfl (Nat.le_of_ble_eq_true rfl) dX9_item_80 ⟨Nat.zero_le _, Nat.zero_le _⟩ (fun r80 f74 H locs hM hp75 => ?_)
          have hd76 := rf_alt hp75 (Or.inr rfl)
          obtain ⟨rfl, hm79, o77⟩ := hd76.elim (fun q9 => q9.2) (fun q9 => absurd q9.1 (by decide))
          have ho82 : f74 h = .inr (11, [.int (zI (Z 0)), .ref (h + 1), .ref (h + 2), .ref (h + 3), .ref (h + 4), .ref (h + 5), .ref (h + 6), .ref (h + 7), .ref (h + 8), .int (zI (Z 9)), .int (zI (Z 10)), .int (zI (Z 11)), .int (zI (Z 12)), .int (zI (Z 13)), .int (zI (Z 14)), .int (zI 2), .int (zI (Z 16)), .ref (h + 9), .ref (h + 10), .ref (h + 11), .int (zI (Z 20)), .int (zI (Z 21)), .int (zI (Z 22)), .ref (h + 12)]) := hm79
          refine g_if_ne (tgt := 115) hx hb dX9_item_83 (by decide) (by decide) (fun c83 => ?_) (fun c83 => ?_)
          · skip
            refine g_iconst hx hb dX9_item_115 ?_
            have hf83 := hP.kept (fun q h1 h2 => ((o77 (q) (by omega)).trans (o68 (q) (by omega))))
            refine g_iret hx hb hr hlk hK hM dX9_item_116 ?_
            have hS : sRef P 7 a b x y (fl = 1) = 2 := by
              rw [rf_7]
              (repeat' split) <;> first | rfl | omega
            obtain ⟨e1, e2, e3⟩ := d_no hS (by decide)
            exact ⟨by rw [e1]; exact ho82, by rw [e2], by rw [e3]; exact hf83, (fun q hq => ((o77 (q) (by omega)).trans (o68 (q) (by omega))))⟩
          · exact absurd c83 (by decide)
      · skip
        refine lv_aload_n hx hb dX9_item_56 rfl (lv_at hl 1 rfl) ?_
        refine lv_iload_n hx hb dX9_item_57 rfl (lv_at hl 3 rfl) ?_
        have hC84 := c_X9_isEnvelope l g b0 n f h Z M aa P b hO hP hrg hat haa hcn7 hrb
        refine g_callVi (ci := 11) (C := RX9) (T := TX9) (N := 24) (As := [.int (zI b)]) (rest := [.ref h]) ⟨hx, hb, hml, hown, hts⟩ hK hM hC84 (cuV (n := 1) hts u_1265 u_1262 u_10 (by decide) u_1264 us_34 ⟨Nat.le_of_ble_eq_true rfl, Nat.le_of_ble_eq_true rfl⟩) ⟨by omega, by omega⟩ hO rfl rfl hl.1 rfl (Nat.le_of_ble_eq_true rfl) dX9_item_58 ⟨Nat.zero_le _, Nat.zero_le _⟩ (fun r58 f85 H locs hM hp86 => ?_)
        obtain ⟨rfl, rfl⟩ := hp86
        refine g_ifb_ne (tgt := 68) hx hb dX9_item_61 (by decide) (fun c61 => ?_) (fun c61 => ?_)
        · skip
          refine g_iconst hx hb dX9_item_68 ?_
          refine g_iconst hx hb dX9_item_69 ?_
          have hC87 := c_X9_refuses l g b0 n f h Z 0 1 hO hrg hz (Or.inl rfl) (by decide)
          refine g_callVi (ci := 11) (C := RX9) (T := TX9) (N := 24) (As := [.int (zI 0), .int (zI 1)]) (rest := []) ⟨hx, hb, hml, hown, hts⟩ hK hM hC87 (cuV (n := 2) hts u_1245 u_1242 u_10 (by decide) u_1244 us_29 ⟨Nat.le_of_ble_eq_true rfl, Nat.le_of_ble_eq_true rfl⟩) ⟨by omega, by omega⟩ hO rfl rfl hl.1 rfl (Nat.le_of_ble_eq_true rfl) dX9_item_70 ⟨Nat.zero_le _, Nat.zero_le _⟩ (fun r70 f88 H locs hM hp89 => ?_)
          have hd90 := rf_alt hp89 (Or.inl rfl)
          obtain ⟨rfl, hm94, o92⟩ := hd90.elim (fun q9 => absurd q9.1 (by decide)) (fun q9 => q9.2)
          have ho96 : f88 h = .inr (11, [.int (zI (Z 0)), .ref (h + 1), .ref (h + 2), .ref (h + 3), .ref (h + 4), .ref (h + 5), .ref (h + 6), .ref (h + 7), .ref (h + 8), .int (zI (Z 9)), .int (zI (Z 10)), .int (zI (Z 11)), .int (zI (Z 12)), .int (zI (Z 13)), .int (zI (Z 14)), .int (zI 0), .int (zI (Z 16)), .ref (h + 9), .ref (h + 10), .ref (h + 11), .int (zI (Z 20)), .int (zI (Z 21)), .int (zI (Z 22)), .ref (h + 12)]) := hm94
          refine g_if_ne (tgt := 115) hx hb dX9_item_73 (by decide) (by decide) (fun c73 => ?_) (fun c73 => ?_)
          · exact absurd c73 (by decide)
          · skip
            refine lv_aload_n hx hb dX9_item_76 rfl (lv_at hl 1 rfl) ?_
            refine lv_iload hx hb dX9_item_77 (lv_at hl 0 rfl) ?_
            refine g_iconst hx hb dX9_item_79 ?_
            have hC97 := c_X9_refuses l g b0 n f88 h (pu Z 15 0) 1 2 ho96 hrg (pu_s _ _ _) (Or.inr rfl) (by decide)
            refine g_callVi (ci := 11) (C := RX9) (T := TX9) (N := 24) (As := [.int (zI 1), .int (zI 2)]) (rest := []) ⟨hx, hb, hml, hown, hts⟩ hK hM hC97 (cuV (n := 2) hts u_1245 u_1242 u_10 (by decide) u_1244 us_29 ⟨Nat.le_of_ble_eq_true rfl, Nat.le_of_ble_eq_true rfl⟩) ⟨by omega, by omega⟩ ho96 rfl rfl hl.1 rfl (Nat.le_of_ble_eq_true rfl) dX9_item_80 ⟨Nat.zero_le _, Nat.zero_le _⟩ (fun r80 f98 H locs hM hp99 => ?_)
            have hd100 := rf_alt hp99 (Or.inr rfl)
            obtain ⟨rfl, hm103, o101⟩ := hd100.elim (fun q9 => q9.2) (fun q9 => absurd q9.1 (by decide))
            have ho106 : f98 h = .inr (11, [.int (zI (Z 0)), .ref (h + 1), .ref (h + 2), .ref (h + 3), .ref (h + 4), .ref (h + 5), .ref (h + 6), .ref (h + 7), .ref (h + 8), .int (zI (Z 9)), .int (zI (Z 10)), .int (zI (Z 11)), .int (zI (Z 12)), .int (zI (Z 13)), .int (zI (Z 14)), .int (zI 2), .int (zI (Z 16)), .ref (h + 9), .ref (h + 10), .ref (h + 11), .int (zI (Z 20)), .int (zI (Z 21)), .int (zI (Z 22)), .ref (h + 12)]) := hm103
            refine g_if_ne (tgt := 115) hx hb dX9_item_83 (by decide) (by decide) (fun c83 => ?_) (fun c83 => ?_)
            · skip
              refine g_iconst hx hb dX9_item_115 ?_
              have hf107 := hP.kept (fun q h1 h2 => ((o101 (q) (by omega)).trans (o92 (q) (by omega))))
              refine g_iret hx hb hr hlk hK hM dX9_item_116 ?_
              have hS : sRef P 7 a b x y (fl = 1) = 2 := by
                rw [rf_7]
                (repeat' split) <;> first | rfl | omega
              obtain ⟨e1, e2, e3⟩ := d_no hS (by decide)
              exact ⟨by rw [e1]; exact ho106, by rw [e2], by rw [e3]; exact hf107, (fun q hq => ((o101 (q) (by omega)).trans (o92 (q) (by omega))))⟩
            · exact absurd c83 (by decide)
        · skip
          refine g_iconst hx hb dX9_item_64 ?_
          refine lv_goto (tgt := 69) hx hb dX9_item_65 (by decide) ?_
          refine g_iconst hx hb dX9_item_69 ?_
          have hC108 := c_X9_refuses l g b0 n f h Z 1 1 hO hrg hz (Or.inr rfl) (by decide)
          refine g_callVi (ci := 11) (C := RX9) (T := TX9) (N := 24) (As := [.int (zI 1), .int (zI 1)]) (rest := []) ⟨hx, hb, hml, hown, hts⟩ hK hM hC108 (cuV (n := 2) hts u_1245 u_1242 u_10 (by decide) u_1244 us_29 ⟨Nat.le_of_ble_eq_true rfl, Nat.le_of_ble_eq_true rfl⟩) ⟨by omega, by omega⟩ hO rfl rfl hl.1 rfl (Nat.le_of_ble_eq_true rfl) dX9_item_70 ⟨Nat.zero_le _, Nat.zero_le _⟩ (fun r70 f109 H locs hM hp110 => ?_)
          have hd111 := rf_alt hp110 (Or.inr rfl)
          obtain ⟨rfl, hm114, o112⟩ := hd111.elim (fun q9 => q9.2) (fun q9 => absurd q9.1 (by decide))
          have ho117 : f109 h = .inr (11, [.int (zI (Z 0)), .ref (h + 1), .ref (h + 2), .ref (h + 3), .ref (h + 4), .ref (h + 5), .ref (h + 6), .ref (h + 7), .ref (h + 8), .int (zI (Z 9)), .int (zI (Z 10)), .int (zI (Z 11)), .int (zI (Z 12)), .int (zI (Z 13)), .int (zI (Z 14)), .int (zI 1), .int (zI (Z 16)), .ref (h + 9), .ref (h + 10), .ref (h + 11), .int (zI (Z 20)), .int (zI (Z 21)), .int (zI (Z 22)), .ref (h + 12)]) := hm114
          refine g_if_ne (tgt := 115) hx hb dX9_item_73 (by decide) (by decide) (fun c73 => ?_) (fun c73 => ?_)
          · skip
            refine g_iconst hx hb dX9_item_115 ?_
            have hf118 := hP.kept (fun q h1 h2 => (o112 (q) (by omega)))
            refine g_iret hx hb hr hlk hK hM dX9_item_116 ?_
            have hS : sRef P 7 a b x y (fl = 1) = 1 := by
              rw [rf_7]
              (repeat' split) <;> first | rfl | omega
            obtain ⟨e1, e2, e3⟩ := d_no hS (by decide)
            exact ⟨by rw [e1]; exact ho117, by rw [e2], by rw [e3]; exact hf118, (fun q hq => (o112 (q) (by omega)))⟩
          · exact absurd c73 (by decide)
    · skip
      refine lv_iload hx hb dX9_item_22 (lv_at hl 4 rfl) ?_
      refine g_i2l hx hb dX9_item_24 hry ?_
      refine g_lconst (z := 1) hx hb dX9_item_25 (by decide) ?_
      refine g_ldc2 (z := 60) hx hb hown (hts _ u_1288) dX9_item_26 (by decide) ?_
      have hC119 := c_X9_in l g b0 n f y 1 60 (rI_L hry) (by decide) (by decide)
      refine g_callSi (As := [.long (zL y), .long (zL 1), .long (zL 60)]) (rest := []) ⟨hx, hb, hml, hown, hts⟩ hK hM hC119 (cuS (n := 3) hts u_1240 u_1238 u_10 (by decide) u_1239 ⟨Nat.le_of_ble_eq_true rfl, Nat.le_of_ble_eq_true rfl⟩) rfl hl.1 rfl (Nat.le_of_ble_eq_true rfl) dX9_item_29 ⟨Nat.zero_le _, Nat.zero_le _⟩ (fun r29 f120 H locs hM hp121 => ?_)
      obtain ⟨rfl, rfl⟩ := hp121
      refine g_ifb_eq (tgt := 43) hx hb dX9_item_32 (by decide) (fun c32 => ?_) (fun c32 => ?_)
      · skip
        refine g_iconst hx hb dX9_item_43 ?_
        refine lv_goto (tgt := 48) hx hb dX9_item_44 (by decide) ?_
        refine lv_istore (lv' := [(6, .int (zI 1)), (0, .ref h), (1, .int (zI a)), (2, .int (zI b)), (3, .int (zI x)), (4, .int (zI y)), (5, .int (zI fl))]) hx hb dX9_item_48 hl (by decide) rfl (fun ls hl => ?_)
        refine lv_aload_n hx hb dX9_item_50 rfl (lv_at hl 1 rfl) ?_
        refine lv_iload_n hx hb dX9_item_51 rfl (lv_at hl 2 rfl) ?_
        refine g_iconst hx hb dX9_item_52 ?_
        refine g_icmp_ne (tgt := 68) hx hb dX9_item_53 (by decide) hra (by decide) (fun c53 => ?_) (fun c53 => ?_)
        · skip
          refine g_iconst hx hb dX9_item_68 ?_
          refine g_iconst hx hb dX9_item_69 ?_
          have hC122 := c_X9_refuses l g b0 n f h Z 0 1 hO hrg hz (Or.inl rfl) (by decide)
          refine g_callVi (ci := 11) (C := RX9) (T := TX9) (N := 24) (As := [.int (zI 0), .int (zI 1)]) (rest := []) ⟨hx, hb, hml, hown, hts⟩ hK hM hC122 (cuV (n := 2) hts u_1245 u_1242 u_10 (by decide) u_1244 us_29 ⟨Nat.le_of_ble_eq_true rfl, Nat.le_of_ble_eq_true rfl⟩) ⟨by omega, by omega⟩ hO rfl rfl hl.1 rfl (Nat.le_of_ble_eq_true rfl) dX9_item_70 ⟨Nat.zero_le _, Nat.zero_le _⟩ (fun r70 f123 H locs hM hp124 => ?_)
          have hd125 := rf_alt hp124 (Or.inl rfl)
          obtain ⟨rfl, hm129, o127⟩ := hd125.elim (fun q9 => absurd q9.1 (by decide)) (fun q9 => q9.2)
          have ho131 : f123 h = .inr (11, [.int (zI (Z 0)), .ref (h + 1), .ref (h + 2), .ref (h + 3), .ref (h + 4), .ref (h + 5), .ref (h + 6), .ref (h + 7), .ref (h + 8), .int (zI (Z 9)), .int (zI (Z 10)), .int (zI (Z 11)), .int (zI (Z 12)), .int (zI (Z 13)), .int (zI (Z 14)), .int (zI 0), .int (zI (Z 16)), .ref (h + 9), .ref (h + 10), .ref (h + 11), .int (zI (Z 20)), .int (zI (Z 21)), .int (zI (Z 22)), .ref (h + 12)]) := hm129
          refine g_if_ne (tgt := 115) hx hb dX9_item_73 (by decide) (by decide) (fun c73 => ?_) (fun c73 => ?_)
          · exact absurd c73 (by decide)
          · skip
            refine lv_aload_n hx hb dX9_item_76 rfl (lv_at hl 1 rfl) ?_
            refine lv_iload hx hb dX9_item_77 (lv_at hl 0 rfl) ?_
            refine g_iconst hx hb dX9_item_79 ?_
            have hC132 := c_X9_refuses l g b0 n f123 h (pu Z 15 0) 1 2 ho131 hrg (pu_s _ _ _) (Or.inr rfl) (by decide)
            refine g_callVi (ci := 11) (C := RX9) (T := TX9) (N := 24) (As := [.int (zI 1), .int (zI 2)]) (rest := []) ⟨hx, hb, hml, hown, hts⟩ hK hM hC132 (cuV (n := 2) hts u_1245 u_1242 u_10 (by decide) u_1244 us_29 ⟨Nat.le_of_ble_eq_true rfl, Nat.le_of_ble_eq_true rfl⟩) ⟨by omega, by omega⟩ ho131 rfl rfl hl.1 rfl (Nat.le_of_ble_eq_true rfl) dX9_item_80 ⟨Nat.zero_le _, Nat.zero_le _⟩ (fun r80 f133 H locs hM hp134 => ?_)
            have hd135 := rf_alt hp134 (Or.inr rfl)
            obtain ⟨rfl, hm138, o136⟩ := hd135.elim (fun q9 => q9.2) (fun q9 => absurd q9.1 (by decide))
            have ho141 : f133 h = .inr (11, [.int (zI (Z 0)), .ref (h + 1), .ref (h + 2), .ref (h + 3), .ref (h + 4), .ref (h + 5), .ref (h + 6), .ref (h + 7), .ref (h + 8), .int (zI (Z 9)), .int (zI (Z 10)), .int (zI (Z 11)), .int (zI (Z 12)), .int (zI (Z 13)), .int (zI (Z 14)), .int (zI 2), .int (zI (Z 16)), .ref (h + 9), .ref (h + 10), .ref (h + 11), .int (zI (Z 20)), .int (zI (Z 21)), .int (zI (Z 22)), .ref (h + 12)]) := hm138
            refine g_if_ne (tgt := 115) hx hb dX9_item_83 (by decide) (by decide) (fun c83 => ?_) (fun c83 => ?_)
            · skip
              refine g_iconst hx hb dX9_item_115 ?_
              have hf142 := hP.kept (fun q h1 h2 => ((o136 (q) (by omega)).trans (o127 (q) (by omega))))
              refine g_iret hx hb hr hlk hK hM dX9_item_116 ?_
              have hS : sRef P 7 a b x y (fl = 1) = 2 := by
                rw [rf_7]
                (repeat' split) <;> first | rfl | omega
              obtain ⟨e1, e2, e3⟩ := d_no hS (by decide)
              exact ⟨by rw [e1]; exact ho141, by rw [e2], by rw [e3]; exact hf142, (fun q hq => ((o136 (q) (by omega)).trans (o127 (q) (by omega))))⟩
            · exact absurd c83 (by decide)
        · skip
          refine lv_aload_n hx hb dX9_item_56 rfl (lv_at hl 1 rfl) ?_
          refine lv_iload_n hx hb dX9_item_57 rfl (lv_at hl 3 rfl) ?_
          have hC143 := c_X9_isEnvelope l g b0 n f h Z M aa P b hO hP hrg hat haa hcn7 hrb
          refine g_callVi (ci := 11) (C := RX9) (T := TX9) (N := 24) (As := [.int (zI b)]) (rest := [.ref h]) ⟨hx, hb, hml, hown, hts⟩ hK hM hC143 (cuV (n := 1) hts u_1265 u_1262 u_10 (by decide) u_1264 us_34 ⟨Nat.le_of_ble_eq_true rfl, Nat.le_of_ble_eq_true rfl⟩) ⟨by omega, by omega⟩ hO rfl rfl hl.1 rfl (Nat.le_of_ble_eq_true rfl) dX9_item_58 ⟨Nat.zero_le _, Nat.zero_le _⟩ (fun r58 f144 H locs hM hp145 => ?_)
          obtain ⟨rfl, rfl⟩ := hp145
          refine g_ifb_ne (tgt := 68) hx hb dX9_item_61 (by decide) (fun c61 => ?_) (fun c61 => ?_)
          · skip
            refine g_iconst hx hb dX9_item_68 ?_
            refine g_iconst hx hb dX9_item_69 ?_
            have hC146 := c_X9_refuses l g b0 n f h Z 0 1 hO hrg hz (Or.inl rfl) (by decide)
            refine g_callVi (ci := 11) (C := RX9) (T := TX9) (N := 24) (As := [.int (zI 0), .int (zI 1)]) (rest := []) ⟨hx, hb, hml, hown, hts⟩ hK hM hC146 (cuV (n := 2) hts u_1245 u_1242 u_10 (by decide) u_1244 us_29 ⟨Nat.le_of_ble_eq_true rfl, Nat.le_of_ble_eq_true rfl⟩) ⟨by omega, by omega⟩ hO rfl rfl hl.1 rfl (Nat.le_of_ble_eq_true rfl) dX9_item_70 ⟨Nat.zero_le _, Nat.zero_le _⟩ (fun r70 f147 H locs hM hp148 => ?_)
            have hd149 := rf_alt hp148 (Or.inl rfl)
            obtain ⟨rfl, hm153, o151⟩ := hd149.elim (fun q9 => absurd q9.1 (by decide)) (fun q9 => q9.2)
            have ho155 : f147 h = .inr (11, [.int (zI (Z 0)), .ref (h + 1), .ref (h + 2), .ref (h + 3), .ref (h + 4), .ref (h + 5), .ref (h + 6), .ref (h + 7), .ref (h + 8), .int (zI (Z 9)), .int (zI (Z 10)), .int (zI (Z 11)), .int (zI (Z 12)), .int (zI (Z 13)), .int (zI (Z 14)), .int (zI 0), .int (zI (Z 16)), .ref (h + 9), .ref (h + 10), .ref (h + 11), .int (zI (Z 20)), .int (zI (Z 21)), .int (zI (Z 22)), .ref (h + 12)]) := hm153
            refine g_if_ne (tgt := 115) hx hb dX9_item_73 (by decide) (by decide) (fun c73 => ?_) (fun c73 => ?_)
            · exact absurd c73 (by decide)
            · skip
              refine lv_aload_n hx hb dX9_item_76 rfl (lv_at hl 1 rfl) ?_
              refine lv_iload hx hb dX9_item_77 (lv_at hl 0 rfl) ?_
              refine g_iconst hx hb dX9_item_79 ?_
              have hC156 := c_X9_refuses l g b0 n f147 h (pu Z 15 0) 1 2 ho155 hrg (pu_s _ _ _) (Or.inr rfl) (by decide)
              refine g_callVi (ci := 11) (C := RX9) (T := TX9) (N := 24) (As := [.int (zI 1), .int (zI 2)]) (rest := []) ⟨hx, hb, hml, hown, hts⟩ hK hM hC156 (cuV (n := 2) hts u_1245 u_1242 u_10 (by decide) u_1244 us_29 ⟨Nat.le_of_ble_eq_true rfl, Nat.le_of_ble_eq_true rfl⟩) ⟨by omega, by omega⟩ ho155 rfl rfl hl.1 rfl (Nat.le_of_ble_eq_true rfl) dX9_item_80 ⟨Nat.zero_le _, Nat.zero_le _⟩ (fun r80 f157 H locs hM hp158 => ?_)
              have hd159 := rf_alt hp158 (Or.inr rfl)
              obtain ⟨rfl, hm162, o160⟩ := hd159.elim (fun q9 => q9.2) (fun q9 => absurd q9.1 (by decide))
              have ho165 : f157 h = .inr (11, [.int (zI (Z 0)), .ref (h + 1), .ref (h + 2), .ref (h + 3), .ref (h + 4), .ref (h + 5), .ref (h + 6), .ref (h + 7), .ref (h + 8), .int (zI (Z 9)), .int (zI (Z 10)), .int (zI (Z 11)), .int (zI (Z 12)), .int (zI (Z 13)), .int (zI (Z 14)), .int (zI 2), .int (zI (Z 16)), .ref (h + 9), .ref (h + 10), .ref (h + 11), .int (zI (Z 20)), .int (zI (Z 21)), .int (zI (Z 22)), .ref (h + 12)]) := hm162
              refine g_if_ne (tgt := 115) hx hb dX9_item_83 (by decide) (by decide) (fun c83 => ?_) (fun c83 => ?_)
              · skip
                refine g_iconst hx hb dX9_item_115 ?_
                have hf166 := hP.kept (fun q h1 h2 => ((o160 (q) (by omega)).trans (o151 (q) (by omega))))
                refine g_iret hx hb hr hlk hK hM dX9_item_116 ?_
                have hS : sRef P 7 a b x y (fl = 1) = 2 := by
                  rw [rf_7]
                  (repeat' split) <;> first | rfl | omega
                obtain ⟨e1, e2, e3⟩ := d_no hS (by decide)
                exact ⟨by rw [e1]; exact ho165, by rw [e2], by rw [e3]; exact hf166, (fun q hq => ((o160 (q) (by omega)).trans (o151 (q) (by omega))))⟩
              · exact absurd c83 (by decide)
          · skip
            refine g_iconst hx hb dX9_item_64 ?_
            refine lv_goto (tgt := 69) hx hb dX9_item_65 (by decide) ?_
            refine g_iconst hx hb dX9_item_69 ?_
            have hC167 := c_X9_refuses l g b0 n f h Z 1 1 hO hrg hz (Or.inr rfl) (by decide)
            refine g_callVi (ci := 11) (C := RX9) (T := TX9) (N := 24) (As := [.int (zI 1), .int (zI 1)]) (rest := []) ⟨hx, hb, hml, hown, hts⟩ hK hM hC167 (cuV (n := 2) hts u_1245 u_1242 u_10 (by decide) u_1244 us_29 ⟨Nat.le_of_ble_eq_true rfl, Nat.le_of_ble_eq_true rfl⟩) ⟨by omega, by omega⟩ hO rfl rfl hl.1 rfl (Nat.le_of_ble_eq_true rfl) dX9_item_70 ⟨Nat.zero_le _, Nat.zero_le _⟩ (fun r70 f168 H locs hM hp169 => ?_)
            have hd170 := rf_alt hp169 (Or.inr rfl)
            obtain ⟨rfl, hm173, o171⟩ := hd170.elim (fun q9 => q9.2) (fun q9 => absurd q9.1 (by decide))
            have ho176 : f168 h = .inr (11, [.int (zI (Z 0)), .ref (h + 1), .ref (h + 2), .ref (h + 3), .ref (h + 4), .ref (h + 5), .ref (h + 6), .ref (h + 7), .ref (h + 8), .int (zI (Z 9)), .int (zI (Z 10)), .int (zI (Z 11)), .int (zI (Z 12)), .int (zI (Z 13)), .int (zI (Z 14)), .int (zI 1), .int (zI (Z 16)), .ref (h + 9), .ref (h + 10), .ref (h + 11), .int (zI (Z 20)), .int (zI (Z 21)), .int (zI (Z 22)), .ref (h + 12)]) := hm173
            refine g_if_ne (tgt := 115) hx hb dX9_item_73 (by decide) (by decide) (fun c73 => ?_) (fun c73 => ?_)
            · skip
              refine g_iconst hx hb dX9_item_115 ?_
              have hf177 := hP.kept (fun q h1 h2 => (o171 (q) (by omega)))
              refine g_iret hx hb hr hlk hK hM dX9_item_116 ?_
              have hS : sRef P 7 a b x y (fl = 1) = 1 := by
                rw [rf_7]
                (repeat' split) <;> first | rfl | omega
              obtain ⟨e1, e2, e3⟩ := d_no hS (by decide)
              exact ⟨by rw [e1]; exact ho176, by rw [e2], by rw [e3]; exact hf177, (fun q hq => (o171 (q) (by omega)))⟩
            · exact absurd c73 (by decide)
      · skip
        refine lv_iload_n hx hb dX9_item_35 rfl (lv_at hl 1 rfl) ?_
        refine g_if_ne (tgt := 47) hx hb dX9_item_36 (by decide) hra (fun c36 => ?_) (fun c36 => ?_)
        · skip
          refine g_iconst hx hb dX9_item_47 ?_
          refine lv_istore (lv' := [(6, .int (zI 0)), (0, .ref h), (1, .int (zI a)), (2, .int (zI b)), (3, .int (zI x)), (4, .int (zI y)), (5, .int (zI fl))]) hx hb dX9_item_48 hl (by decide) rfl (fun ls hl => ?_)
          refine lv_aload_n hx hb dX9_item_50 rfl (lv_at hl 1 rfl) ?_
          refine lv_iload_n hx hb dX9_item_51 rfl (lv_at hl 2 rfl) ?_
          refine g_iconst hx hb dX9_item_52 ?_
          refine g_icmp_ne (tgt := 68) hx hb dX9_item_53 (by decide) hra (by decide) (fun c53 => ?_) (fun c53 => ?_)
          · skip
            refine g_iconst hx hb dX9_item_68 ?_
            refine g_iconst hx hb dX9_item_69 ?_
            have hC178 := c_X9_refuses l g b0 n f h Z 0 1 hO hrg hz (Or.inl rfl) (by decide)
            refine g_callVi (ci := 11) (C := RX9) (T := TX9) (N := 24) (As := [.int (zI 0), .int (zI 1)]) (rest := []) ⟨hx, hb, hml, hown, hts⟩ hK hM hC178 (cuV (n := 2) hts u_1245 u_1242 u_10 (by decide) u_1244 us_29 ⟨Nat.le_of_ble_eq_true rfl, Nat.le_of_ble_eq_true rfl⟩) ⟨by omega, by omega⟩ hO rfl rfl hl.1 rfl (Nat.le_of_ble_eq_true rfl) dX9_item_70 ⟨Nat.zero_le _, Nat.zero_le _⟩ (fun r70 f179 H locs hM hp180 => ?_)
            have hd181 := rf_alt hp180 (Or.inl rfl)
            obtain ⟨rfl, hm185, o183⟩ := hd181.elim (fun q9 => absurd q9.1 (by decide)) (fun q9 => q9.2)
            have ho187 : f179 h = .inr (11, [.int (zI (Z 0)), .ref (h + 1), .ref (h + 2), .ref (h + 3), .ref (h + 4), .ref (h + 5), .ref (h + 6), .ref (h + 7), .ref (h + 8), .int (zI (Z 9)), .int (zI (Z 10)), .int (zI (Z 11)), .int (zI (Z 12)), .int (zI (Z 13)), .int (zI (Z 14)), .int (zI 0), .int (zI (Z 16)), .ref (h + 9), .ref (h + 10), .ref (h + 11), .int (zI (Z 20)), .int (zI (Z 21)), .int (zI (Z 22)), .ref (h + 12)]) := hm185
            refine g_if_ne (tgt := 115) hx hb dX9_item_73 (by decide) (by decide) (fun c73 => ?_) (fun c73 => ?_)
            · exact absurd c73 (by decide)
            · skip
              refine lv_aload_n hx hb dX9_item_76 rfl (lv_at hl 1 rfl) ?_
              refine lv_iload hx hb dX9_item_77 (lv_at hl 0 rfl) ?_
              refine g_iconst hx hb dX9_item_79 ?_
              have hC188 := c_X9_refuses l g b0 n f179 h (pu Z 15 0) 0 2 ho187 hrg (pu_s _ _ _) (Or.inl rfl) (by decide)
              refine g_callVi (ci := 11) (C := RX9) (T := TX9) (N := 24) (As := [.int (zI 0), .int (zI 2)]) (rest := []) ⟨hx, hb, hml, hown, hts⟩ hK hM hC188 (cuV (n := 2) hts u_1245 u_1242 u_10 (by decide) u_1244 us_29 ⟨Nat.le_of_ble_eq_true rfl, Nat.le_of_ble_eq_true rfl⟩) ⟨by omega, by omega⟩ ho187 rfl rfl hl.1 rfl (Nat.le_of_ble_eq_true rfl) dX9_item_80 ⟨Nat.zero_le _, Nat.zero_le _⟩ (fun r80 f189 H locs hM hp190 => ?_)
              have hd191 := rf_alt hp190 (Or.inl rfl)
              obtain ⟨rfl, hm195, o193⟩ := hd191.elim (fun q9 => absurd q9.1 (by decide)) (fun q9 => q9.2)
              have ho197 : f189 h = .inr (11, [.int (zI (Z 0)), .ref (h + 1), .ref (h + 2), .ref (h + 3), .ref (h + 4), .ref (h + 5), .ref (h + 6), .ref (h + 7), .ref (h + 8), .int (zI (Z 9)), .int (zI (Z 10)), .int (zI (Z 11)), .int (zI (Z 12)), .int (zI (Z 13)), .int (zI (Z 14)), .int (zI 0), .int (zI (Z 16)), .ref (h + 9), .ref (h + 10), .ref (h + 11), .int (zI (Z 20)), .int (zI (Z 21)), .int (zI (Z 22)), .ref (h + 12)]) := hm195
              refine g_if_ne (tgt := 115) hx hb dX9_item_83 (by decide) (by decide) (fun c83 => ?_) (fun c83 => ?_)
              · exact absurd c83 (by decide)
              · skip
                refine lv_aload_n hx hb dX9_item_86 rfl (lv_at hl 1 rfl) ?_
                refine lv_aload_n hx hb dX9_item_87 rfl (lv_at hl 1 rfl) ?_
                refine g_bipush hx hb dX9_item_88 (by decide) ?_
                have hf198 := hP.kept (fun q h1 h2 => ((o193 (q) (by omega)).trans (o183 (q) (by omega))))
                have hC199 := c_X9_n l g b0 n f189 h (pu Z 15 0) M aa P 10 (10) ho197 hf198 hrg hat haa (by omega) (by omega)
                refine g_callVi (ci := 11) (C := RX9) (T := TX9) (N := 24) (As := [.int (zI 10)]) (rest := [.ref h]) ⟨hx, hb, hml, hown, hts⟩ hK hM hC199 (cuV (n := 1) hts u_1249 u_1246 u_10 (by decide) u_1248 us_30 ⟨Nat.le_of_ble_eq_true rfl, Nat.le_of_ble_eq_true rfl⟩) ⟨by omega, by omega⟩ ho197 rfl rfl hl.1 rfl (Nat.le_of_ble_eq_true rfl) dX9_item_90 ⟨Nat.zero_le _, Nat.zero_le _⟩ (fun r90 f200 H locs hM hp201 => ?_)
                obtain ⟨rfl, rfl⟩ := hp201
                refine g_bipush hx hb dX9_item_93 (by decide) ?_
                refine g_icmp_eq (tgt := 103) hx hb dX9_item_95 (by decide) ⟨by omega, by omega⟩ (by decide) (fun c95 => ?_) (fun c95 => ?_)
                · skip
                  refine g_iconst hx hb dX9_item_103 ?_
                  refine lv_goto (tgt := 108) hx hb dX9_item_104 (by decide) ?_
                  refine g_iconst hx hb dX9_item_108 ?_
                  have hC202 := c_X9_refuses l g b0 n f189 h (pu Z 15 0) 1 3 ho197 hrg (pu_s _ _ _) (Or.inr rfl) (by decide)
                  refine g_callVi (ci := 11) (C := RX9) (T := TX9) (N := 24) (As := [.int (zI 1), .int (zI 3)]) (rest := []) ⟨hx, hb, hml, hown, hts⟩ hK hM hC202 (cuV (n := 2) hts u_1245 u_1242 u_10 (by decide) u_1244 us_29 ⟨Nat.le_of_ble_eq_true rfl, Nat.le_of_ble_eq_true rfl⟩) ⟨by omega, by omega⟩ ho197 rfl rfl hl.1 rfl (Nat.le_of_ble_eq_true rfl) dX9_item_109 ⟨Nat.zero_le _, Nat.zero_le _⟩ (fun r109 f203 H locs hM hp204 => ?_)
                  have hd205 := rf_alt hp204 (Or.inr rfl)
                  obtain ⟨rfl, hm208, o206⟩ := hd205.elim (fun q9 => q9.2) (fun q9 => absurd q9.1 (by decide))
                  have ho211 : f203 h = .inr (11, [.int (zI (Z 0)), .ref (h + 1), .ref (h + 2), .ref (h + 3), .ref (h + 4), .ref (h + 5), .ref (h + 6), .ref (h + 7), .ref (h + 8), .int (zI (Z 9)), .int (zI (Z 10)), .int (zI (Z 11)), .int (zI (Z 12)), .int (zI (Z 13)), .int (zI (Z 14)), .int (zI 3), .int (zI (Z 16)), .ref (h + 9), .ref (h + 10), .ref (h + 11), .int (zI (Z 20)), .int (zI (Z 21)), .int (zI (Z 22)), .ref (h + 12)]) := hm208
                  refine g_if_eq (tgt := 117) hx hb dX9_item_112 (by decide) (by decide) (fun c112 => ?_) (fun c112 => ?_)
                  · exact absurd c112 (by decide)
                  · skip
                    refine g_iconst hx hb dX9_item_115 ?_
                    have hf212 := hf198.kept (fun q h1 h2 => (o206 (q) (by omega)))
                    refine g_iret hx hb hr hlk hK hM dX9_item_116 ?_
                    have hS : sRef P 7 a b x y (fl = 1) = 3 := by
                      rw [rf_7]
                      (repeat' split) <;> first | rfl | omega
                    obtain ⟨e1, e2, e3⟩ := d_no hS (by decide)
                    exact ⟨by rw [e1]; exact ho211, by rw [e2], by rw [e3]; exact hf212, (fun q hq => ((o206 (q) (by omega)).trans ((o193 (q) (by omega)).trans (o183 (q) (by omega)))))⟩
                · skip
                  refine lv_iload hx hb dX9_item_98 (lv_at hl 6 rfl) ?_
                  refine g_if_eq (tgt := 107) hx hb dX9_item_100 (by decide) ⟨by omega, by omega⟩ (fun c100 => ?_) (fun c100 => ?_)
                  · skip
                    refine g_iconst hx hb dX9_item_107 ?_
                    refine g_iconst hx hb dX9_item_108 ?_
                    have hC213 := c_X9_refuses l g b0 n f189 h (pu Z 15 0) 0 3 ho197 hrg (pu_s _ _ _) (Or.inl rfl) (by decide)
                    refine g_callVi (ci := 11) (C := RX9) (T := TX9) (N := 24) (As := [.int (zI 0), .int (zI 3)]) (rest := []) ⟨hx, hb, hml, hown, hts⟩ hK hM hC213 (cuV (n := 2) hts u_1245 u_1242 u_10 (by decide) u_1244 us_29 ⟨Nat.le_of_ble_eq_true rfl, Nat.le_of_ble_eq_true rfl⟩) ⟨by omega, by omega⟩ ho197 rfl rfl hl.1 rfl (Nat.le_of_ble_eq_true rfl) dX9_item_109 ⟨Nat.zero_le _, Nat.zero_le _⟩ (fun r109 f214 H locs hM hp215 => ?_)
                    have hd216 := rf_alt hp215 (Or.inl rfl)
                    obtain ⟨rfl, hm220, o218⟩ := hd216.elim (fun q9 => absurd q9.1 (by decide)) (fun q9 => q9.2)
                    have ho222 : f214 h = .inr (11, [.int (zI (Z 0)), .ref (h + 1), .ref (h + 2), .ref (h + 3), .ref (h + 4), .ref (h + 5), .ref (h + 6), .ref (h + 7), .ref (h + 8), .int (zI (Z 9)), .int (zI (Z 10)), .int (zI (Z 11)), .int (zI (Z 12)), .int (zI (Z 13)), .int (zI (Z 14)), .int (zI 0), .int (zI (Z 16)), .ref (h + 9), .ref (h + 10), .ref (h + 11), .int (zI (Z 20)), .int (zI (Z 21)), .int (zI (Z 22)), .ref (h + 12)]) := hm220
                    refine g_if_eq (tgt := 117) hx hb dX9_item_112 (by decide) (by decide) (fun c112 => ?_) (fun c112 => ?_)
                    · skip
                      obtain ⟨c0, hc0⟩ : ∃ q : Nat, P 10 = q := ⟨(P 10).toNat, by omega⟩
                      refine lv_aload_n hx hb dX9_item_117 rfl (lv_at hl 1 rfl) ?_
                      refine g_bipush hx hb dX9_item_118 (by decide) ?_
                      refine g_bipush hx hb dX9_item_120 (by decide) ?_
                      refine g_bipush hx hb dX9_item_122 (by decide) ?_
                      refine lv_iload_n hx hb dX9_item_124 rfl (lv_at hl 2 rfl) ?_
                      refine lv_iload_n hx hb dX9_item_125 rfl (lv_at hl 3 rfl) ?_
                      refine lv_iload_n hx hb dX9_item_126 rfl (lv_at hl 4 rfl) ?_
                      refine lv_iload hx hb dX9_item_127 (lv_at hl 5 rfl) ?_
                      have hf223 := hf198.kept (fun q h1 h2 => (o218 (q) (by omega)))
                      have hC224 := c_X9_row6 l g b0 n f214 h (pu Z 15 0) M aa P c0 a b x y ho222 hf223 hrg hat haa hc0 (by omega) hra hrb hrx hry
                      refine g_callVi (ci := 11) (C := RX9) (T := TX9) (N := 24) (As := [.int (zI 99), .int (zI 6), .int (zI 10), .int (zI a), .int (zI b), .int (zI x), .int (zI y)]) (rest := []) ⟨hx, hb, hml, hown, hts⟩ hK hM hC224 (cuV (n := 7) hts u_1253 u_1250 u_10 (by decide) u_1252 us_31 ⟨Nat.le_of_ble_eq_true rfl, Nat.le_of_ble_eq_true rfl⟩) ⟨by omega, by omega⟩ ho222 rfl rfl hl.1 rfl (Nat.le_of_ble_eq_true rfl) dX9_item_129 ⟨Nat.zero_le _, Nat.zero_le _⟩ (fun r129 f225 H locs hM hp226 => ?_)
                      obtain ⟨rfl, hn227, o228⟩ := hp226
                      obtain ⟨P1, hP1⟩ : ∃ Q : Nat → Int, Q = (sApp6 P c0 a b x y 0) := ⟨_, rfl⟩
                      rw [← hP1] at hn227
                      refine lv_istore (lv' := [(7, .int (zI (↑c0 : Int))), (6, .int (zI 0)), (0, .ref h), (1, .int (zI a)), (2, .int (zI b)), (3, .int (zI x)), (4, .int (zI y)), (5, .int (zI fl))]) hx hb dX9_item_132 hl (by decide) rfl (fun ls hl => ?_)
                      have hp11 : P1 1 = P 1 := by rw [hP1]; unfold sApp6; rw [pu_n (by omega), pu_n (by omega), pu_n (by omega), pu_n (by omega), pu_n (by omega), pu_n (by omega), pu_n (by omega)]
                      refine lv_aload_n hx hb dX9_item_134 rfl (lv_at hl 2 rfl) ?_
                      refine g_bipush hx hb dX9_item_135 (by decide) ?_
                      refine g_bipush hx hb dX9_item_137 (by decide) ?_
                      refine lv_iload hx hb dX9_item_139 (lv_at hl 0 rfl) ?_
                      refine g_imul hx hb dX9_item_141 ?_
                      refine g_iadd hx hb dX9_item_142 ?_
                      refine g_iconst hx hb dX9_item_143 ?_
                      refine g_iadd hx hb dX9_item_144 ?_
                      refine lv_aload_n hx hb dX9_item_145 rfl (lv_at hl 2 rfl) ?_
                      refine g_iconst hx hb dX9_item_146 ?_
                      have hf229 : f225 (h) = .inr (11, [.int (zI (Z 0)), .ref (h + 1), .ref (h + 2), .ref (h + 3), .ref (h + 4), .ref (h + 5), .ref (h + 6), .ref (h + 7), .ref (h + 8), .int (zI (Z 9)), .int (zI (Z 10)), .int (zI (Z 11)), .int (zI (Z 12)), .int (zI (Z 13)), .int (zI (Z 14)), .int (zI 0), .int (zI (Z 16)), .ref (h + 9), .ref (h + 10), .ref (h + 11), .int (zI (Z 20)), .int (zI (Z 21)), .int (zI (Z 22)), .ref (h + 12)]) := (o228 (h) (by omega)).trans ho222
                      have hC230 := c_X9_p l g b0 n f225 h (pu Z 15 0) M aa P1 1 (1) hf229 hn227 hrg hat haa (by omega) (by omega)
                      refine g_callVl (ci := 11) (C := RX9) (T := TX9) (N := 24) (As := [.int (zI 1)]) (rest := [.int (zI ((99 + (6 * (↑c0 : Int))) + 4)), .ref h]) ⟨hx, hb, hml, hown, hts⟩ hK hM hC230 (cuV (n := 1) hts u_1283 u_1280 u_10 (by decide) u_1282 us_37 ⟨Nat.le_of_ble_eq_true rfl, Nat.le_of_ble_eq_true rfl⟩) ⟨by omega, by omega⟩ hf229 rfl rfl hl.1 rfl (Nat.le_of_ble_eq_true rfl) dX9_item_147 ⟨Nat.zero_le _, Nat.zero_le _⟩ (fun r147 f231 H locs hM hp232 => ?_)
                      obtain ⟨rfl, rfl⟩ := hp232
                      rw [hp11]
                      refine lv_iload hx hb dX9_item_150 (lv_at hl 6 rfl) ?_
                      refine g_i2l hx hb dX9_item_152 hry ?_
                      refine g_ladd hx hb dX9_item_153 ?_
                      have hC233 := c_X9_puts l g b0 n f225 h (pu Z 15 0) M aa P1 ((99 + (6 * (↑c0 : Int))) + 4) (103 + 6 * c0) ((P 1) + y) hf229 hn227 hrg hat haa (by omega) (by omega)
                      refine g_callVv (ci := 11) (C := RX9) (T := TX9) (N := 24) (As := [.int (zI ((99 + (6 * (↑c0 : Int))) + 4)), .long (zL ((P 1) + y))]) (rest := []) ⟨hx, hb, hml, hown, hts⟩ hK hM hC233 (cuV (n := 2) hts u_1257 u_1254 u_10 (by decide) u_1256 us_32 ⟨Nat.le_of_ble_eq_true rfl, Nat.le_of_ble_eq_true rfl⟩) ⟨by omega, by omega⟩ hf229 rfl rfl hl.1 rfl (Nat.le_of_ble_eq_true rfl) dX9_item_154 ⟨Nat.zero_le _, Nat.zero_le _⟩ (fun f234 H locs hM hp235 => ?_)
                      obtain ⟨hn236, o237⟩ := hp235
                      obtain ⟨Pz238, hPz238⟩ : ∃ Q : Nat → Int, Q = pu P1 (103 + 6 * c0) ((P 1) + y) := ⟨_, rfl⟩
                      rw [← hPz238] at hn236
                      refine lv_iload hx hb dX9_item_157 (lv_at hl 0 rfl) ?_
                      have hf239 : f234 (h) = .inr (11, [.int (zI (Z 0)), .ref (h + 1), .ref (h + 2), .ref (h + 3), .ref (h + 4), .ref (h + 5), .ref (h + 6), .ref (h + 7), .ref (h + 8), .int (zI (Z 9)), .int (zI (Z 10)), .int (zI (Z 11)), .int (zI (Z 12)), .int (zI (Z 13)), .int (zI (Z 14)), .int (zI 0), .int (zI (Z 16)), .ref (h + 9), .ref (h + 10), .ref (h + 11), .int (zI (Z 20)), .int (zI (Z 21)), .int (zI (Z 22)), .ref (h + 12)]) := (o237 (h) (by omega)).trans hf229
                      refine g_iret hx hb hr hlk hK hM dX9_item_159 ?_
                      have hQ : ∀ i, i < 147 → sApp6 P c0 a b x y (P 1 + y) i = Pz238 i := fun i hi => by
                        rw [hPz238, hP1]
                        simp only [sApp6, pu, ↓reduceIte]
                        (repeat' split) <;> first | rfl | omega
                      have hS : sRef P 7 a b x y (fl = 1) = 0 := by
                        rw [rf_7]
                        (repeat' split) <;> first | rfl | omega
                      have hF : sPf P 7 a b x y = (↑c0, sApp6 P c0 a b x y (P 1 + y)) := by
                        unfold sPf
                        rw [if_neg (by omega), if_neg (by omega), if_neg (by omega), if_neg (by omega), if_neg (by omega), if_neg (by omega), if_neg (by omega), if_pos rfl, hc0, Int.toNat_natCast]
                      obtain ⟨e1, e2, e3⟩ := d_yes hS hF
                      exact ⟨by rw [e1]; exact hf239, by rw [e2], by rw [e3]; exact hn236.cong hQ, (fun q hq => ((o237 (q) (by omega)).trans ((o228 (q) (by omega)).trans ((o218 (q) (by omega)).trans ((o193 (q) (by omega)).trans (o183 (q) (by omega)))))))⟩
                    · exact absurd c112 (by decide)
                  · skip
                    refine g_iconst hx hb dX9_item_103 ?_
                    refine lv_goto (tgt := 108) hx hb dX9_item_104 (by decide) ?_
                    refine g_iconst hx hb dX9_item_108 ?_
                    have hC240 := c_X9_refuses l g b0 n f189 h (pu Z 15 0) 1 3 ho197 hrg (pu_s _ _ _) (Or.inr rfl) (by decide)
                    refine g_callVi (ci := 11) (C := RX9) (T := TX9) (N := 24) (As := [.int (zI 1), .int (zI 3)]) (rest := []) ⟨hx, hb, hml, hown, hts⟩ hK hM hC240 (cuV (n := 2) hts u_1245 u_1242 u_10 (by decide) u_1244 us_29 ⟨Nat.le_of_ble_eq_true rfl, Nat.le_of_ble_eq_true rfl⟩) ⟨by omega, by omega⟩ ho197 rfl rfl hl.1 rfl (Nat.le_of_ble_eq_true rfl) dX9_item_109 ⟨Nat.zero_le _, Nat.zero_le _⟩ (fun r109 f241 H locs hM hp242 => ?_)
                    have hd243 := rf_alt hp242 (Or.inr rfl)
                    obtain ⟨rfl, hm246, o244⟩ := hd243.elim (fun q9 => q9.2) (fun q9 => absurd q9.1 (by decide))
                    have ho249 : f241 h = .inr (11, [.int (zI (Z 0)), .ref (h + 1), .ref (h + 2), .ref (h + 3), .ref (h + 4), .ref (h + 5), .ref (h + 6), .ref (h + 7), .ref (h + 8), .int (zI (Z 9)), .int (zI (Z 10)), .int (zI (Z 11)), .int (zI (Z 12)), .int (zI (Z 13)), .int (zI (Z 14)), .int (zI 3), .int (zI (Z 16)), .ref (h + 9), .ref (h + 10), .ref (h + 11), .int (zI (Z 20)), .int (zI (Z 21)), .int (zI (Z 22)), .ref (h + 12)]) := hm246
                    refine g_if_eq (tgt := 117) hx hb dX9_item_112 (by decide) (by decide) (fun c112 => ?_) (fun c112 => ?_)
                    · exact absurd c112 (by decide)
                    · skip
                      refine g_iconst hx hb dX9_item_115 ?_
                      have hf250 := hf198.kept (fun q h1 h2 => (o244 (q) (by omega)))
                      refine g_iret hx hb hr hlk hK hM dX9_item_116 ?_
                      have hS : sRef P 7 a b x y (fl = 1) = 3 := by
                        rw [rf_7]
                        (repeat' split) <;> first | rfl | omega
                      obtain ⟨e1, e2, e3⟩ := d_no hS (by decide)
                      exact ⟨by rw [e1]; exact ho249, by rw [e2], by rw [e3]; exact hf250, (fun q hq => ((o244 (q) (by omega)).trans ((o193 (q) (by omega)).trans (o183 (q) (by omega)))))⟩
          · skip
            refine lv_aload_n hx hb dX9_item_56 rfl (lv_at hl 1 rfl) ?_
            refine lv_iload_n hx hb dX9_item_57 rfl (lv_at hl 3 rfl) ?_
            have hC251 := c_X9_isEnvelope l g b0 n f h Z M aa P b hO hP hrg hat haa hcn7 hrb
            refine g_callVi (ci := 11) (C := RX9) (T := TX9) (N := 24) (As := [.int (zI b)]) (rest := [.ref h]) ⟨hx, hb, hml, hown, hts⟩ hK hM hC251 (cuV (n := 1) hts u_1265 u_1262 u_10 (by decide) u_1264 us_34 ⟨Nat.le_of_ble_eq_true rfl, Nat.le_of_ble_eq_true rfl⟩) ⟨by omega, by omega⟩ hO rfl rfl hl.1 rfl (Nat.le_of_ble_eq_true rfl) dX9_item_58 ⟨Nat.zero_le _, Nat.zero_le _⟩ (fun r58 f252 H locs hM hp253 => ?_)
            obtain ⟨rfl, rfl⟩ := hp253
            refine g_ifb_ne (tgt := 68) hx hb dX9_item_61 (by decide) (fun c61 => ?_) (fun c61 => ?_)
            · skip
              refine g_iconst hx hb dX9_item_68 ?_
              refine g_iconst hx hb dX9_item_69 ?_
              have hC254 := c_X9_refuses l g b0 n f h Z 0 1 hO hrg hz (Or.inl rfl) (by decide)
              refine g_callVi (ci := 11) (C := RX9) (T := TX9) (N := 24) (As := [.int (zI 0), .int (zI 1)]) (rest := []) ⟨hx, hb, hml, hown, hts⟩ hK hM hC254 (cuV (n := 2) hts u_1245 u_1242 u_10 (by decide) u_1244 us_29 ⟨Nat.le_of_ble_eq_true rfl, Nat.le_of_ble_eq_true rfl⟩) ⟨by omega, by omega⟩ hO rfl rfl hl.1 rfl (Nat.le_of_ble_eq_true rfl) dX9_item_70 ⟨Nat.zero_le _, Nat.zero_le _⟩ (fun r70 f255 H locs hM hp256 => ?_)
              have hd257 := rf_alt hp256 (Or.inl rfl)
              obtain ⟨rfl, hm261, o259⟩ := hd257.elim (fun q9 => absurd q9.1 (by decide)) (fun q9 => q9.2)
              have ho263 : f255 h = .inr (11, [.int (zI (Z 0)), .ref (h + 1), .ref (h + 2), .ref (h + 3), .ref (h + 4), .ref (h + 5), .ref (h + 6), .ref (h + 7), .ref (h + 8), .int (zI (Z 9)), .int (zI (Z 10)), .int (zI (Z 11)), .int (zI (Z 12)), .int (zI (Z 13)), .int (zI (Z 14)), .int (zI 0), .int (zI (Z 16)), .ref (h + 9), .ref (h + 10), .ref (h + 11), .int (zI (Z 20)), .int (zI (Z 21)), .int (zI (Z 22)), .ref (h + 12)]) := hm261
              refine g_if_ne (tgt := 115) hx hb dX9_item_73 (by decide) (by decide) (fun c73 => ?_) (fun c73 => ?_)
              · exact absurd c73 (by decide)
              · skip
                refine lv_aload_n hx hb dX9_item_76 rfl (lv_at hl 1 rfl) ?_
                refine lv_iload hx hb dX9_item_77 (lv_at hl 0 rfl) ?_
                refine g_iconst hx hb dX9_item_79 ?_
                have hC264 := c_X9_refuses l g b0 n f255 h (pu Z 15 0) 0 2 ho263 hrg (pu_s _ _ _) (Or.inl rfl) (by decide)
                refine g_callVi (ci := 11) (C := RX9) (T := TX9) (N := 24) (As := [.int (zI 0), .int (zI 2)]) (rest := []) ⟨hx, hb, hml, hown, hts⟩ hK hM hC264 (cuV (n := 2) hts u_1245 u_1242 u_10 (by decide) u_1244 us_29 ⟨Nat.le_of_ble_eq_true rfl, Nat.le_of_ble_eq_true rfl⟩) ⟨by omega, by omega⟩ ho263 rfl rfl hl.1 rfl (Nat.le_of_ble_eq_true rfl) dX9_item_80 ⟨Nat.zero_le _, Nat.zero_le _⟩ (fun r80 f265 H locs hM hp266 => ?_)
                have hd267 := rf_alt hp266 (Or.inl rfl)
                obtain ⟨rfl, hm271, o269⟩ := hd267.elim (fun q9 => absurd q9.1 (by decide)) (fun q9 => q9.2)
                have ho273 : f265 h = .inr (11, [.int (zI (Z 0)), .ref (h + 1), .ref (h + 2), .ref (h + 3), .ref (h + 4), .ref (h + 5), .ref (h + 6), .ref (h + 7), .ref (h + 8), .int (zI (Z 9)), .int (zI (Z 10)), .int (zI (Z 11)), .int (zI (Z 12)), .int (zI (Z 13)), .int (zI (Z 14)), .int (zI 0), .int (zI (Z 16)), .ref (h + 9), .ref (h + 10), .ref (h + 11), .int (zI (Z 20)), .int (zI (Z 21)), .int (zI (Z 22)), .ref (h + 12)]) := hm271
                refine g_if_ne (tgt := 115) hx hb dX9_item_83 (by decide) (by decide) (fun c83 => ?_) (fun c83 => ?_)
                · exact absurd c83 (by decide)
                · skip
                  refine lv_aload_n hx hb dX9_item_86 rfl (lv_at hl 1 rfl) ?_
                  refine lv_aload_n hx hb dX9_item_87 rfl (lv_at hl 1 rfl) ?_
                  refine g_bipush hx hb dX9_item_88 (by decide) ?_
                  have hf274 := hP.kept (fun q h1 h2 => ((o269 (q) (by omega)).trans (o259 (q) (by omega))))
                  have hC275 := c_X9_n l g b0 n f265 h (pu Z 15 0) M aa P 10 (10) ho273 hf274 hrg hat haa (by omega) (by omega)
                  refine g_callVi (ci := 11) (C := RX9) (T := TX9) (N := 24) (As := [.int (zI 10)]) (rest := [.ref h]) ⟨hx, hb, hml, hown, hts⟩ hK hM hC275 (cuV (n := 1) hts u_1249 u_1246 u_10 (by decide) u_1248 us_30 ⟨Nat.le_of_ble_eq_true rfl, Nat.le_of_ble_eq_true rfl⟩) ⟨by omega, by omega⟩ ho273 rfl rfl hl.1 rfl (Nat.le_of_ble_eq_true rfl) dX9_item_90 ⟨Nat.zero_le _, Nat.zero_le _⟩ (fun r90 f276 H locs hM hp277 => ?_)
                  obtain ⟨rfl, rfl⟩ := hp277
                  refine g_bipush hx hb dX9_item_93 (by decide) ?_
                  refine g_icmp_eq (tgt := 103) hx hb dX9_item_95 (by decide) ⟨by omega, by omega⟩ (by decide) (fun c95 => ?_) (fun c95 => ?_)
                  · skip
                    refine g_iconst hx hb dX9_item_103 ?_
                    refine lv_goto (tgt := 108) hx hb dX9_item_104 (by decide) ?_
                    refine g_iconst hx hb dX9_item_108 ?_
                    have hC278 := c_X9_refuses l g b0 n f265 h (pu Z 15 0) 1 3 ho273 hrg (pu_s _ _ _) (Or.inr rfl) (by decide)
                    refine g_callVi (ci := 11) (C := RX9) (T := TX9) (N := 24) (As := [.int (zI 1), .int (zI 3)]) (rest := []) ⟨hx, hb, hml, hown, hts⟩ hK hM hC278 (cuV (n := 2) hts u_1245 u_1242 u_10 (by decide) u_1244 us_29 ⟨Nat.le_of_ble_eq_true rfl, Nat.le_of_ble_eq_true rfl⟩) ⟨by omega, by omega⟩ ho273 rfl rfl hl.1 rfl (Nat.le_of_ble_eq_true rfl) dX9_item_109 ⟨Nat.zero_le _, Nat.zero_le _⟩ (fun r109 f279 H locs hM hp280 => ?_)
                    have hd281 := rf_alt hp280 (Or.inr rfl)
                    obtain ⟨rfl, hm284, o282⟩ := hd281.elim (fun q9 => q9.2) (fun q9 => absurd q9.1 (by decide))
                    have ho287 : f279 h = .inr (11, [.int (zI (Z 0)), .ref (h + 1), .ref (h + 2), .ref (h + 3), .ref (h + 4), .ref (h + 5), .ref (h + 6), .ref (h + 7), .ref (h + 8), .int (zI (Z 9)), .int (zI (Z 10)), .int (zI (Z 11)), .int (zI (Z 12)), .int (zI (Z 13)), .int (zI (Z 14)), .int (zI 3), .int (zI (Z 16)), .ref (h + 9), .ref (h + 10), .ref (h + 11), .int (zI (Z 20)), .int (zI (Z 21)), .int (zI (Z 22)), .ref (h + 12)]) := hm284
                    refine g_if_eq (tgt := 117) hx hb dX9_item_112 (by decide) (by decide) (fun c112 => ?_) (fun c112 => ?_)
                    · exact absurd c112 (by decide)
                    · skip
                      refine g_iconst hx hb dX9_item_115 ?_
                      have hf288 := hf274.kept (fun q h1 h2 => (o282 (q) (by omega)))
                      refine g_iret hx hb hr hlk hK hM dX9_item_116 ?_
                      have hS : sRef P 7 a b x y (fl = 1) = 3 := by
                        rw [rf_7]
                        (repeat' split) <;> first | rfl | omega
                      obtain ⟨e1, e2, e3⟩ := d_no hS (by decide)
                      exact ⟨by rw [e1]; exact ho287, by rw [e2], by rw [e3]; exact hf288, (fun q hq => ((o282 (q) (by omega)).trans ((o269 (q) (by omega)).trans (o259 (q) (by omega)))))⟩
                  · skip
                    refine lv_iload hx hb dX9_item_98 (lv_at hl 6 rfl) ?_
                    refine g_if_eq (tgt := 107) hx hb dX9_item_100 (by decide) ⟨by omega, by omega⟩ (fun c100 => ?_) (fun c100 => ?_)
                    · skip
                      refine g_iconst hx hb dX9_item_107 ?_
                      refine g_iconst hx hb dX9_item_108 ?_
                      have hC289 := c_X9_refuses l g b0 n f265 h (pu Z 15 0) 0 3 ho273 hrg (pu_s _ _ _) (Or.inl rfl) (by decide)
                      refine g_callVi (ci := 11) (C := RX9) (T := TX9) (N := 24) (As := [.int (zI 0), .int (zI 3)]) (rest := []) ⟨hx, hb, hml, hown, hts⟩ hK hM hC289 (cuV (n := 2) hts u_1245 u_1242 u_10 (by decide) u_1244 us_29 ⟨Nat.le_of_ble_eq_true rfl, Nat.le_of_ble_eq_true rfl⟩) ⟨by omega, by omega⟩ ho273 rfl rfl hl.1 rfl (Nat.le_of_ble_eq_true rfl) dX9_item_109 ⟨Nat.zero_le _, Nat.zero_le _⟩ (fun r109 f290 H locs hM hp291 => ?_)
                      have hd292 := rf_alt hp291 (Or.inl rfl)
                      obtain ⟨rfl, hm296, o294⟩ := hd292.elim (fun q9 => absurd q9.1 (by decide)) (fun q9 => q9.2)
                      have ho298 : f290 h = .inr (11, [.int (zI (Z 0)), .ref (h + 1), .ref (h + 2), .ref (h + 3), .ref (h + 4), .ref (h + 5), .ref (h + 6), .ref (h + 7), .ref (h + 8), .int (zI (Z 9)), .int (zI (Z 10)), .int (zI (Z 11)), .int (zI (Z 12)), .int (zI (Z 13)), .int (zI (Z 14)), .int (zI 0), .int (zI (Z 16)), .ref (h + 9), .ref (h + 10), .ref (h + 11), .int (zI (Z 20)), .int (zI (Z 21)), .int (zI (Z 22)), .ref (h + 12)]) := hm296
                      refine g_if_eq (tgt := 117) hx hb dX9_item_112 (by decide) (by decide) (fun c112 => ?_) (fun c112 => ?_)
                      · skip
                        obtain ⟨c0, hc0⟩ : ∃ q : Nat, P 10 = q := ⟨(P 10).toNat, by omega⟩
                        refine lv_aload_n hx hb dX9_item_117 rfl (lv_at hl 1 rfl) ?_
                        refine g_bipush hx hb dX9_item_118 (by decide) ?_
                        refine g_bipush hx hb dX9_item_120 (by decide) ?_
                        refine g_bipush hx hb dX9_item_122 (by decide) ?_
                        refine lv_iload_n hx hb dX9_item_124 rfl (lv_at hl 2 rfl) ?_
                        refine lv_iload_n hx hb dX9_item_125 rfl (lv_at hl 3 rfl) ?_
                        refine lv_iload_n hx hb dX9_item_126 rfl (lv_at hl 4 rfl) ?_
                        refine lv_iload hx hb dX9_item_127 (lv_at hl 5 rfl) ?_
                        have hf299 := hf274.kept (fun q h1 h2 => (o294 (q) (by omega)))
                        have hC300 := c_X9_row6 l g b0 n f290 h (pu Z 15 0) M aa P c0 a b x y ho298 hf299 hrg hat haa hc0 (by omega) hra hrb hrx hry
                        refine g_callVi (ci := 11) (C := RX9) (T := TX9) (N := 24) (As := [.int (zI 99), .int (zI 6), .int (zI 10), .int (zI a), .int (zI b), .int (zI x), .int (zI y)]) (rest := []) ⟨hx, hb, hml, hown, hts⟩ hK hM hC300 (cuV (n := 7) hts u_1253 u_1250 u_10 (by decide) u_1252 us_31 ⟨Nat.le_of_ble_eq_true rfl, Nat.le_of_ble_eq_true rfl⟩) ⟨by omega, by omega⟩ ho298 rfl rfl hl.1 rfl (Nat.le_of_ble_eq_true rfl) dX9_item_129 ⟨Nat.zero_le _, Nat.zero_le _⟩ (fun r129 f301 H locs hM hp302 => ?_)
                        obtain ⟨rfl, hn303, o304⟩ := hp302
                        obtain ⟨P1, hP1⟩ : ∃ Q : Nat → Int, Q = (sApp6 P c0 a b x y 0) := ⟨_, rfl⟩
                        rw [← hP1] at hn303
                        refine lv_istore (lv' := [(7, .int (zI (↑c0 : Int))), (6, .int (zI 0)), (0, .ref h), (1, .int (zI a)), (2, .int (zI b)), (3, .int (zI x)), (4, .int (zI y)), (5, .int (zI fl))]) hx hb dX9_item_132 hl (by decide) rfl (fun ls hl => ?_)
                        have hp11 : P1 1 = P 1 := by rw [hP1]; unfold sApp6; rw [pu_n (by omega), pu_n (by omega), pu_n (by omega), pu_n (by omega), pu_n (by omega), pu_n (by omega), pu_n (by omega)]
                        refine lv_aload_n hx hb dX9_item_134 rfl (lv_at hl 2 rfl) ?_
                        refine g_bipush hx hb dX9_item_135 (by decide) ?_
                        refine g_bipush hx hb dX9_item_137 (by decide) ?_
                        refine lv_iload hx hb dX9_item_139 (lv_at hl 0 rfl) ?_
                        refine g_imul hx hb dX9_item_141 ?_
                        refine g_iadd hx hb dX9_item_142 ?_
                        refine g_iconst hx hb dX9_item_143 ?_
                        refine g_iadd hx hb dX9_item_144 ?_
                        refine lv_aload_n hx hb dX9_item_145 rfl (lv_at hl 2 rfl) ?_
                        refine g_iconst hx hb dX9_item_146 ?_
                        have hf305 : f301 (h) = .inr (11, [.int (zI (Z 0)), .ref (h + 1), .ref (h + 2), .ref (h + 3), .ref (h + 4), .ref (h + 5), .ref (h + 6), .ref (h + 7), .ref (h + 8), .int (zI (Z 9)), .int (zI (Z 10)), .int (zI (Z 11)), .int (zI (Z 12)), .int (zI (Z 13)), .int (zI (Z 14)), .int (zI 0), .int (zI (Z 16)), .ref (h + 9), .ref (h + 10), .ref (h + 11), .int (zI (Z 20)), .int (zI (Z 21)), .int (zI (Z 22)), .ref (h + 12)]) := (o304 (h) (by omega)).trans ho298
                        have hC306 := c_X9_p l g b0 n f301 h (pu Z 15 0) M aa P1 1 (1) hf305 hn303 hrg hat haa (by omega) (by omega)
                        refine g_callVl (ci := 11) (C := RX9) (T := TX9) (N := 24) (As := [.int (zI 1)]) (rest := [.int (zI ((99 + (6 * (↑c0 : Int))) + 4)), .ref h]) ⟨hx, hb, hml, hown, hts⟩ hK hM hC306 (cuV (n := 1) hts u_1283 u_1280 u_10 (by decide) u_1282 us_37 ⟨Nat.le_of_ble_eq_true rfl, Nat.le_of_ble_eq_true rfl⟩) ⟨by omega, by omega⟩ hf305 rfl rfl hl.1 rfl (Nat.le_of_ble_eq_true rfl) dX9_item_147 ⟨Nat.zero_le _, Nat.zero_le _⟩ (fun r147 f307 H locs hM hp308 => ?_)
                        obtain ⟨rfl, rfl⟩ := hp308
                        rw [hp11]
                        refine lv_iload hx hb dX9_item_150 (lv_at hl 6 rfl) ?_
                        refine g_i2l hx hb dX9_item_152 hry ?_
                        refine g_ladd hx hb dX9_item_153 ?_
                        have hC309 := c_X9_puts l g b0 n f301 h (pu Z 15 0) M aa P1 ((99 + (6 * (↑c0 : Int))) + 4) (103 + 6 * c0) ((P 1) + y) hf305 hn303 hrg hat haa (by omega) (by omega)
                        refine g_callVv (ci := 11) (C := RX9) (T := TX9) (N := 24) (As := [.int (zI ((99 + (6 * (↑c0 : Int))) + 4)), .long (zL ((P 1) + y))]) (rest := []) ⟨hx, hb, hml, hown, hts⟩ hK hM hC309 (cuV (n := 2) hts u_1257 u_1254 u_10 (by decide) u_1256 us_32 ⟨Nat.le_of_ble_eq_true rfl, Nat.le_of_ble_eq_true rfl⟩) ⟨by omega, by omega⟩ hf305 rfl rfl hl.1 rfl (Nat.le_of_ble_eq_true rfl) dX9_item_154 ⟨Nat.zero_le _, Nat.zero_le _⟩ (fun f310 H locs hM hp311 => ?_)
                        obtain ⟨hn312, o313⟩ := hp311
                        obtain ⟨Pz314, hPz314⟩ : ∃ Q : Nat → Int, Q = pu P1 (103 + 6 * c0) ((P 1) + y) := ⟨_, rfl⟩
                        rw [← hPz314] at hn312
                        refine lv_iload hx hb dX9_item_157 (lv_at hl 0 rfl) ?_
                        have hf315 : f310 (h) = .inr (11, [.int (zI (Z 0)), .ref (h + 1), .ref (h + 2), .ref (h + 3), .ref (h + 4), .ref (h + 5), .ref (h + 6), .ref (h + 7), .ref (h + 8), .int (zI (Z 9)), .int (zI (Z 10)), .int (zI (Z 11)), .int (zI (Z 12)), .int (zI (Z 13)), .int (zI (Z 14)), .int (zI 0), .int (zI (Z 16)), .ref (h + 9), .ref (h + 10), .ref (h + 11), .int (zI (Z 20)), .int (zI (Z 21)), .int (zI (Z 22)), .ref (h + 12)]) := (o313 (h) (by omega)).trans hf305
                        refine g_iret hx hb hr hlk hK hM dX9_item_159 ?_
                        have hQ : ∀ i, i < 147 → sApp6 P c0 a b x y (P 1 + y) i = Pz314 i := fun i hi => by
                          rw [hPz314, hP1]
                          simp only [sApp6, pu, ↓reduceIte]
                          (repeat' split) <;> first | rfl | omega
                        have hS : sRef P 7 a b x y (fl = 1) = 0 := by
                          rw [rf_7]
                          (repeat' split) <;> first | rfl | omega
                        have hF : sPf P 7 a b x y = (↑c0, sApp6 P c0 a b x y (P 1 + y)) := by
                          unfold sPf
                          rw [if_neg (by omega), if_neg (by omega), if_neg (by omega), if_neg (by omega), if_neg (by omega), if_neg (by omega), if_neg (by omega), if_pos rfl, hc0, Int.toNat_natCast]
                        obtain ⟨e1, e2, e3⟩ := d_yes hS hF
                        exact ⟨by rw [e1]; exact hf315, by rw [e2], by rw [e3]; exact hn312.cong hQ, (fun q hq => ((o313 (q) (by omega)).trans ((o304 (q) (by omega)).trans ((o294 (q) (by omega)).trans ((o269 (q) (by omega)).trans (o259 (q) (by omega)))))))⟩
                      · exact absurd c112 (by decide)
                    · skip
                      refine g_iconst hx hb dX9_item_103 ?_
                      refine lv_goto (tgt := 108) hx hb dX9_item_104 (by decide) ?_
                      refine g_iconst hx hb dX9_item_108 ?_
                      have hC316 := c_X9_refuses l g b0 n f265 h (pu Z 15 0) 1 3 ho273 hrg (pu_s _ _ _) (Or.inr rfl) (by decide)
                      refine g_callVi (ci := 11) (C := RX9) (T := TX9) (N := 24) (As := [.int (zI 1), .int (zI 3)]) (rest := []) ⟨hx, hb, hml, hown, hts⟩ hK hM hC316 (cuV (n := 2) hts u_1245 u_1242 u_10 (by decide) u_1244 us_29 ⟨Nat.le_of_ble_eq_true rfl, Nat.le_of_ble_eq_true rfl⟩) ⟨by omega, by omega⟩ ho273 rfl rfl hl.1 rfl (Nat.le_of_ble_eq_true rfl) dX9_item_109 ⟨Nat.zero_le _, Nat.zero_le _⟩ (fun r109 f317 H locs hM hp318 => ?_)
                      have hd319 := rf_alt hp318 (Or.inr rfl)
                      obtain ⟨rfl, hm322, o320⟩ := hd319.elim (fun q9 => q9.2) (fun q9 => absurd q9.1 (by decide))
                      have ho325 : f317 h = .inr (11, [.int (zI (Z 0)), .ref (h + 1), .ref (h + 2), .ref (h + 3), .ref (h + 4), .ref (h + 5), .ref (h + 6), .ref (h + 7), .ref (h + 8), .int (zI (Z 9)), .int (zI (Z 10)), .int (zI (Z 11)), .int (zI (Z 12)), .int (zI (Z 13)), .int (zI (Z 14)), .int (zI 3), .int (zI (Z 16)), .ref (h + 9), .ref (h + 10), .ref (h + 11), .int (zI (Z 20)), .int (zI (Z 21)), .int (zI (Z 22)), .ref (h + 12)]) := hm322
                      refine g_if_eq (tgt := 117) hx hb dX9_item_112 (by decide) (by decide) (fun c112 => ?_) (fun c112 => ?_)
                      · exact absurd c112 (by decide)
                      · skip
                        refine g_iconst hx hb dX9_item_115 ?_
                        have hf326 := hf274.kept (fun q h1 h2 => (o320 (q) (by omega)))
                        refine g_iret hx hb hr hlk hK hM dX9_item_116 ?_
                        have hS : sRef P 7 a b x y (fl = 1) = 3 := by
                          rw [rf_7]
                          (repeat' split) <;> first | rfl | omega
                        obtain ⟨e1, e2, e3⟩ := d_no hS (by decide)
                        exact ⟨by rw [e1]; exact ho325, by rw [e2], by rw [e3]; exact hf326, (fun q hq => ((o320 (q) (by omega)).trans ((o269 (q) (by omega)).trans (o259 (q) (by omega)))))⟩
            · skip
              refine g_iconst hx hb dX9_item_64 ?_
              refine lv_goto (tgt := 69) hx hb dX9_item_65 (by decide) ?_
              refine g_iconst hx hb dX9_item_69 ?_
              have hC327 := c_X9_refuses l g b0 n f h Z 1 1 hO hrg hz (Or.inr rfl) (by decide)
              refine g_callVi (ci := 11) (C := RX9) (T := TX9) (N := 24) (As := [.int (zI 1), .int (zI 1)]) (rest := []) ⟨hx, hb, hml, hown, hts⟩ hK hM hC327 (cuV (n := 2) hts u_1245 u_1242 u_10 (by decide) u_1244 us_29 ⟨Nat.le_of_ble_eq_true rfl, Nat.le_of_ble_eq_true rfl⟩) ⟨by omega, by omega⟩ hO rfl rfl hl.1 rfl (Nat.le_of_ble_eq_true rfl) dX9_item_70 ⟨Nat.zero_le _, Nat.zero_le _⟩ (fun r70 f328 H locs hM hp329 => ?_)
              have hd330 := rf_alt hp329 (Or.inr rfl)
              obtain ⟨rfl, hm333, o331⟩ := hd330.elim (fun q9 => q9.2) (fun q9 => absurd q9.1 (by decide))
              have ho336 : f328 h = .inr (11, [.int (zI (Z 0)), .ref (h + 1), .ref (h + 2), .ref (h + 3), .ref (h + 4), .ref (h + 5), .ref (h + 6), .ref (h + 7), .ref (h + 8), .int (zI (Z 9)), .int (zI (Z 10)), .int (zI (Z 11)), .int (zI (Z 12)), .int (zI (Z 13)), .int (zI (Z 14)), .int (zI 1), .int (zI (Z 16)), .ref (h + 9), .ref (h + 10), .ref (h + 11), .int (zI (Z 20)), .int (zI (Z 21)), .int (zI (Z 22)), .ref (h + 12)]) := hm333
              refine g_if_ne (tgt := 115) hx hb dX9_item_73 (by decide) (by decide) (fun c73 => ?_) (fun c73 => ?_)
              · skip
                refine g_iconst hx hb dX9_item_115 ?_
                have hf337 := hP.kept (fun q h1 h2 => (o331 (q) (by omega)))
                refine g_iret hx hb hr hlk hK hM dX9_item_116 ?_
                have hS : sRef P 7 a b x y (fl = 1) = 1 := by
                  rw [rf_7]
                  (repeat' split) <;> first | rfl | omega
                obtain ⟨e1, e2, e3⟩ := d_no hS (by decide)
                exact ⟨by rw [e1]; exact ho336, by rw [e2], by rw [e3]; exact hf337, (fun q hq => (o331 (q) (by omega)))⟩
              · exact absurd c73 (by decide)
        · skip
          refine lv_iload_n hx hb dX9_item_39 rfl (lv_at hl 2 rfl) ?_
          refine g_if_eq (tgt := 47) hx hb dX9_item_40 (by decide) hrb (fun c40 => ?_) (fun c40 => ?_)
          · skip
            refine g_iconst hx hb dX9_item_47 ?_
            refine lv_istore (lv' := [(6, .int (zI 0)), (0, .ref h), (1, .int (zI a)), (2, .int (zI b)), (3, .int (zI x)), (4, .int (zI y)), (5, .int (zI fl))]) hx hb dX9_item_48 hl (by decide) rfl (fun ls hl => ?_)
            refine lv_aload_n hx hb dX9_item_50 rfl (lv_at hl 1 rfl) ?_
            refine lv_iload_n hx hb dX9_item_51 rfl (lv_at hl 2 rfl) ?_
            refine g_iconst hx hb dX9_item_52 ?_
            refine g_icmp_ne (tgt := 68) hx hb dX9_item_53 (by decide) hra (by decide) (fun c53 => ?_) (fun c53 => ?_)
            · skip
              refine g_iconst hx hb dX9_item_68 ?_
              refine g_iconst hx hb dX9_item_69 ?_
              have hC338 := c_X9_refuses l g b0 n f h Z 0 1 hO hrg hz (Or.inl rfl) (by decide)
              refine g_callVi (ci := 11) (C := RX9) (T := TX9) (N := 24) (As := [.int (zI 0), .int (zI 1)]) (rest := []) ⟨hx, hb, hml, hown, hts⟩ hK hM hC338 (cuV (n := 2) hts u_1245 u_1242 u_10 (by decide) u_1244 us_29 ⟨Nat.le_of_ble_eq_true rfl, Nat.le_of_ble_eq_true rfl⟩) ⟨by omega, by omega⟩ hO rfl rfl hl.1 rfl (Nat.le_of_ble_eq_true rfl) dX9_item_70 ⟨Nat.zero_le _, Nat.zero_le _⟩ (fun r70 f339 H locs hM hp340 => ?_)
              have hd341 := rf_alt hp340 (Or.inl rfl)
              obtain ⟨rfl, hm345, o343⟩ := hd341.elim (fun q9 => absurd q9.1 (by decide)) (fun q9 => q9.2)
              have ho347 : f339 h = .inr (11, [.int (zI (Z 0)), .ref (h + 1), .ref (h + 2), .ref (h + 3), .ref (h + 4), .ref (h + 5), .ref (h + 6), .ref (h + 7), .ref (h + 8), .int (zI (Z 9)), .int (zI (Z 10)), .int (zI (Z 11)), .int (zI (Z 12)), .int (zI (Z 13)), .int (zI (Z 14)), .int (zI 0), .int (zI (Z 16)), .ref (h + 9), .ref (h + 10), .ref (h + 11), .int (zI (Z 20)), .int (zI (Z 21)), .int (zI (Z 22)), .ref (h + 12)]) := hm345
              refine g_if_ne (tgt := 115) hx hb dX9_item_73 (by decide) (by decide) (fun c73 => ?_) (fun c73 => ?_)
              · exact absurd c73 (by decide)
              · skip
                refine lv_aload_n hx hb dX9_item_76 rfl (lv_at hl 1 rfl) ?_
                refine lv_iload hx hb dX9_item_77 (lv_at hl 0 rfl) ?_
                refine g_iconst hx hb dX9_item_79 ?_
                have hC348 := c_X9_refuses l g b0 n f339 h (pu Z 15 0) 0 2 ho347 hrg (pu_s _ _ _) (Or.inl rfl) (by decide)
                refine g_callVi (ci := 11) (C := RX9) (T := TX9) (N := 24) (As := [.int (zI 0), .int (zI 2)]) (rest := []) ⟨hx, hb, hml, hown, hts⟩ hK hM hC348 (cuV (n := 2) hts u_1245 u_1242 u_10 (by decide) u_1244 us_29 ⟨Nat.le_of_ble_eq_true rfl, Nat.le_of_ble_eq_true rfl⟩) ⟨by omega, by omega⟩ ho347 rfl rfl hl.1 rfl (Nat.le_of_ble_eq_true rfl) dX9_item_80 ⟨Nat.zero_le _, Nat.zero_le _⟩ (fun r80 f349 H locs hM hp350 => ?_)
                have hd351 := rf_alt hp350 (Or.inl rfl)
                obtain ⟨rfl, hm355, o353⟩ := hd351.elim (fun q9 => absurd q9.1 (by decide)) (fun q9 => q9.2)
                have ho357 : f349 h = .inr (11, [.int (zI (Z 0)), .ref (h + 1), .ref (h + 2), .ref (h + 3), .ref (h + 4), .ref (h + 5), .ref (h + 6), .ref (h + 7), .ref (h + 8), .int (zI (Z 9)), .int (zI (Z 10)), .int (zI (Z 11)), .int (zI (Z 12)), .int (zI (Z 13)), .int (zI (Z 14)), .int (zI 0), .int (zI (Z 16)), .ref (h + 9), .ref (h + 10), .ref (h + 11), .int (zI (Z 20)), .int (zI (Z 21)), .int (zI (Z 22)), .ref (h + 12)]) := hm355
                refine g_if_ne (tgt := 115) hx hb dX9_item_83 (by decide) (by decide) (fun c83 => ?_) (fun c83 => ?_)
                · exact absurd c83 (by decide)
                · skip
                  refine lv_aload_n hx hb dX9_item_86 rfl (lv_at hl 1 rfl) ?_
                  refine lv_aload_n hx hb dX9_item_87 rfl (lv_at hl 1 rfl) ?_
                  refine g_bipush hx hb dX9_item_88 (by decide) ?_
                  have hf358 := hP.kept (fun q h1 h2 => ((o353 (q) (by omega)).trans (o343 (q) (by omega))))
                  have hC359 := c_X9_n l g b0 n f349 h (pu Z 15 0) M aa P 10 (10) ho357 hf358 hrg hat haa (by omega) (by omega)
                  refine g_callVi (ci := 11) (C := RX9) (T := TX9) (N := 24) (As := [.int (zI 10)]) (rest := [.ref h]) ⟨hx, hb, hml, hown, hts⟩ hK hM hC359 (cuV (n := 1) hts u_1249 u_1246 u_10 (by decide) u_1248 us_30 ⟨Nat.le_of_ble_eq_true rfl, Nat.le_of_ble_eq_true rfl⟩) ⟨by omega, by omega⟩ ho357 rfl rfl hl.1 rfl (Nat.le_of_ble_eq_true rfl) dX9_item_90 ⟨Nat.zero_le _, Nat.zero_le _⟩ (fun r90 f360 H locs hM hp361 => ?_)
                  obtain ⟨rfl, rfl⟩ := hp361
                  refine g_bipush hx hb dX9_item_93 (by decide) ?_
                  refine g_icmp_eq (tgt := 103) hx hb dX9_item_95 (by decide) ⟨by omega, by omega⟩ (by decide) (fun c95 => ?_) (fun c95 => ?_)
                  · skip
                    refine g_iconst hx hb dX9_item_103 ?_
                    refine lv_goto (tgt := 108) hx hb dX9_item_104 (by decide) ?_
                    refine g_iconst hx hb dX9_item_108 ?_
                    have hC362 := c_X9_refuses l g b0 n f349 h (pu Z 15 0) 1 3 ho357 hrg (pu_s _ _ _) (Or.inr rfl) (by decide)
                    refine g_callVi (ci := 11) (C := RX9) (T := TX9) (N := 24) (As := [.int (zI 1), .int (zI 3)]) (rest := []) ⟨hx, hb, hml, hown, hts⟩ hK hM hC362 (cuV (n := 2) hts u_1245 u_1242 u_10 (by decide) u_1244 us_29 ⟨Nat.le_of_ble_eq_true rfl, Nat.le_of_ble_eq_true rfl⟩) ⟨by omega, by omega⟩ ho357 rfl rfl hl.1 rfl (Nat.le_of_ble_eq_true rfl) dX9_item_109 ⟨Nat.zero_le _, Nat.zero_le _⟩ (fun r109 f363 H locs hM hp364 => ?_)
                    have hd365 := rf_alt hp364 (Or.inr rfl)
                    obtain ⟨rfl, hm368, o366⟩ := hd365.elim (fun q9 => q9.2) (fun q9 => absurd q9.1 (by decide))
                    have ho371 : f363 h = .inr (11, [.int (zI (Z 0)), .ref (h + 1), .ref (h + 2), .ref (h + 3), .ref (h + 4), .ref (h + 5), .ref (h + 6), .ref (h + 7), .ref (h + 8), .int (zI (Z 9)), .int (zI (Z 10)), .int (zI (Z 11)), .int (zI (Z 12)), .int (zI (Z 13)), .int (zI (Z 14)), .int (zI 3), .int (zI (Z 16)), .ref (h + 9), .ref (h + 10), .ref (h + 11), .int (zI (Z 20)), .int (zI (Z 21)), .int (zI (Z 22)), .ref (h + 12)]) := hm368
                    refine g_if_eq (tgt := 117) hx hb dX9_item_112 (by decide) (by decide) (fun c112 => ?_) (fun c112 => ?_)
                    · exact absurd c112 (by decide)
                    · skip
                      refine g_iconst hx hb dX9_item_115 ?_
                      have hf372 := hf358.kept (fun q h1 h2 => (o366 (q) (by omega)))
                      refine g_iret hx hb hr hlk hK hM dX9_item_116 ?_
                      have hS : sRef P 7 a b x y (fl = 1) = 3 := by
                        rw [rf_7]
                        (repeat' split) <;> first | rfl | omega
                      obtain ⟨e1, e2, e3⟩ := d_no hS (by decide)
                      exact ⟨by rw [e1]; exact ho371, by rw [e2], by rw [e3]; exact hf372, (fun q hq => ((o366 (q) (by omega)).trans ((o353 (q) (by omega)).trans (o343 (q) (by omega)))))⟩
                  · skip
                    refine lv_iload hx hb dX9_item_98 (lv_at hl 6 rfl) ?_
                    refine g_if_eq (tgt := 107) hx hb dX9_item_100 (by decide) ⟨by omega, by omega⟩ (fun c100 => ?_) (fun c100 => ?_)
                    · skip
                      refine g_iconst hx hb dX9_item_107 ?_
                      refine g_iconst hx hb dX9_item_108 ?_
                      have hC373 := c_X9_refuses l g b0 n f349 h (pu Z 15 0) 0 3 ho357 hrg (pu_s _ _ _) (Or.inl rfl) (by decide)
                      refine g_callVi (ci := 11) (C := RX9) (T := TX9) (N := 24) (As := [.int (zI 0), .int (zI 3)]) (rest := []) ⟨hx, hb, hml, hown, hts⟩ hK hM hC373 (cuV (n := 2) hts u_1245 u_1242 u_10 (by decide) u_1244 us_29 ⟨Nat.le_of_ble_eq_true rfl, Nat.le_of_ble_eq_true rfl⟩) ⟨by omega, by omega⟩ ho357 rfl rfl hl.1 rfl (Nat.le_of_ble_eq_true rfl) dX9_item_109 ⟨Nat.zero_le _, Nat.zero_le _⟩ (fun r109 f374 H locs hM hp375 => ?_)
                      have hd376 := rf_alt hp375 (Or.inl rfl)
                      obtain ⟨rfl, hm380, o378⟩ := hd376.elim (fun q9 => absurd q9.1 (by decide)) (fun q9 => q9.2)
                      have ho382 : f374 h = .inr (11, [.int (zI (Z 0)), .ref (h + 1), .ref (h + 2), .ref (h + 3), .ref (h + 4), .ref (h + 5), .ref (h + 6), .ref (h + 7), .ref (h + 8), .int (zI (Z 9)), .int (zI (Z 10)), .int (zI (Z 11)), .int (zI (Z 12)), .int (zI (Z 13)), .int (zI (Z 14)), .int (zI 0), .int (zI (Z 16)), .ref (h + 9), .ref (h + 10), .ref (h + 11), .int (zI (Z 20)), .int (zI (Z 21)), .int (zI (Z 22)), .ref (h + 12)]) := hm380
                      refine g_if_eq (tgt := 117) hx hb dX9_item_112 (by decide) (by decide) (fun c112 => ?_) (fun c112 => ?_)
                      · skip
                        obtain ⟨c0, hc0⟩ : ∃ q : Nat, P 10 = q := ⟨(P 10).toNat, by omega⟩
                        refine lv_aload_n hx hb dX9_item_117 rfl (lv_at hl 1 rfl) ?_
                        refine g_bipush hx hb dX9_item_118 (by decide) ?_
                        refine g_bipush hx hb dX9_item_120 (by decide) ?_
                        refine g_bipush hx hb dX9_item_122 (by decide) ?_
                        refine lv_iload_n hx hb dX9_item_124 rfl (lv_at hl 2 rfl) ?_
                        refine lv_iload_n hx hb dX9_item_125 rfl (lv_at hl 3 rfl) ?_
                        refine lv_iload_n hx hb dX9_item_126 rfl (lv_at hl 4 rfl) ?_
                        refine lv_iload hx hb dX9_item_127 (lv_at hl 5 rfl) ?_
                        have hf383 := hf358.kept (fun q h1 h2 => (o378 (q) (by omega)))
                        have hC384 := c_X9_row6 l g b0 n f374 h (pu Z 15 0) M aa P c0 a b x y ho382 hf383 hrg hat haa hc0 (by omega) hra hrb hrx hry
                        refine g_callVi (ci := 11) (C := RX9) (T := TX9) (N := 24) (As := [.int (zI 99), .int (zI 6), .int (zI 10), .int (zI a), .int (zI b), .int (zI x), .int (zI y)]) (rest := []) ⟨hx, hb, hml, hown, hts⟩ hK hM hC384 (cuV (n := 7) hts u_1253 u_1250 u_10 (by decide) u_1252 us_31 ⟨Nat.le_of_ble_eq_true rfl, Nat.le_of_ble_eq_true rfl⟩) ⟨by omega, by omega⟩ ho382 rfl rfl hl.1 rfl (Nat.le_of_ble_eq_true rfl) dX9_item_129 ⟨Nat.zero_le _, Nat.zero_le _⟩ (fun r129 f385 H locs hM hp386 => ?_)
                        obtain ⟨rfl, hn387, o388⟩ := hp386
                        obtain ⟨P1, hP1⟩ : ∃ Q : Nat → Int, Q = (sApp6 P c0 a b x y 0) := ⟨_, rfl⟩
                        rw [← hP1] at hn387
                        refine lv_istore (lv' := [(7, .int (zI (↑c0 : Int))), (6, .int (zI 0)), (0, .ref h), (1, .int (zI a)), (2, .int (zI b)), (3, .int (zI x)), (4, .int (zI y)), (5, .int (zI fl))]) hx hb dX9_item_132 hl (by decide) rfl (fun ls hl => ?_)
                        have hp11 : P1 1 = P 1 := by rw [hP1]; unfold sApp6; rw [pu_n (by omega), pu_n (by omega), pu_n (by omega), pu_n (by omega), pu_n (by omega), pu_n (by omega), pu_n (by omega)]
                        refine lv_aload_n hx hb dX9_item_134 rfl (lv_at hl 2 rfl) ?_
                        refine g_bipush hx hb dX9_item_135 (by decide) ?_
                        refine g_bipush hx hb dX9_item_137 (by decide) ?_
                        refine lv_iload hx hb dX9_item_139 (lv_at hl 0 rfl) ?_
                        refine g_imul hx hb dX9_item_141 ?_
                        refine g_iadd hx hb dX9_item_142 ?_
                        refine g_iconst hx hb dX9_item_143 ?_
                        refine g_iadd hx hb dX9_item_144 ?_
                        refine lv_aload_n hx hb dX9_item_145 rfl (lv_at hl 2 rfl) ?_
                        refine g_iconst hx hb dX9_item_146 ?_
                        have hf389 : f385 (h) = .inr (11, [.int (zI (Z 0)), .ref (h + 1), .ref (h + 2), .ref (h + 3), .ref (h + 4), .ref (h + 5), .ref (h + 6), .ref (h + 7), .ref (h + 8), .int (zI (Z 9)), .int (zI (Z 10)), .int (zI (Z 11)), .int (zI (Z 12)), .int (zI (Z 13)), .int (zI (Z 14)), .int (zI 0), .int (zI (Z 16)), .ref (h + 9), .ref (h + 10), .ref (h + 11), .int (zI (Z 20)), .int (zI (Z 21)), .int (zI (Z 22)), .ref (h + 12)]) := (o388 (h) (by omega)).trans ho382
                        have hC390 := c_X9_p l g b0 n f385 h (pu Z 15 0) M aa P1 1 (1) hf389 hn387 hrg hat haa (by omega) (by omega)
                        refine g_callVl (ci := 11) (C := RX9) (T := TX9) (N := 24) (As := [.int (zI 1)]) (rest := [.int (zI ((99 + (6 * (↑c0 : Int))) + 4)), .ref h]) ⟨hx, hb, hml, hown, hts⟩ hK hM hC390 (cuV (n := 1) hts u_1283 u_1280 u_10 (by decide) u_1282 us_37 ⟨Nat.le_of_ble_eq_true rfl, Nat.le_of_ble_eq_true rfl⟩) ⟨by omega, by omega⟩ hf389 rfl rfl hl.1 rfl (Nat.le_of_ble_eq_true rfl) dX9_item_147 ⟨Nat.zero_le _, Nat.zero_le _⟩ (fun r147 f391 H locs hM hp392 => ?_)
                        obtain ⟨rfl, rfl⟩ := hp392
                        rw [hp11]
                        refine lv_iload hx hb dX9_item_150 (lv_at hl 6 rfl) ?_
                        refine g_i2l hx hb dX9_item_152 hry ?_
                        refine g_ladd hx hb dX9_item_153 ?_
                        have hC393 := c_X9_puts l g b0 n f385 h (pu Z 15 0) M aa P1 ((99 + (6 * (↑c0 : Int))) + 4) (103 + 6 * c0) ((P 1) + y) hf389 hn387 hrg hat haa (by omega) (by omega)
                        refine g_callVv (ci := 11) (C := RX9) (T := TX9) (N := 24) (As := [.int (zI ((99 + (6 * (↑c0 : Int))) + 4)), .long (zL ((P 1) + y))]) (rest := []) ⟨hx, hb, hml, hown, hts⟩ hK hM hC393 (cuV (n := 2) hts u_1257 u_1254 u_10 (by decide) u_1256 us_32 ⟨Nat.le_of_ble_eq_true rfl, Nat.le_of_ble_eq_true rfl⟩) ⟨by omega, by omega⟩ hf389 rfl rfl hl.1 rfl (Nat.le_of_ble_eq_true rfl) dX9_item_154 ⟨Nat.zero_le _, Nat.zero_le _⟩ (fun f394 H locs hM hp395 => ?_)
                        obtain ⟨hn396, o397⟩ := hp395
                        obtain ⟨Pz398, hPz398⟩ : ∃ Q : Nat → Int, Q = pu P1 (103 + 6 * c0) ((P 1) + y) := ⟨_, rfl⟩
                        rw [← hPz398] at hn396
                        refine lv_iload hx hb dX9_item_157 (lv_at hl 0 rfl) ?_
                        have hf399 : f394 (h) = .inr (11, [.int (zI (Z 0)), .ref (h + 1), .ref (h + 2), .ref (h + 3), .ref (h + 4), .ref (h + 5), .ref (h + 6), .ref (h + 7), .ref (h + 8), .int (zI (Z 9)), .int (zI (Z 10)), .int (zI (Z 11)), .int (zI (Z 12)), .int (zI (Z 13)), .int (zI (Z 14)), .int (zI 0), .int (zI (Z 16)), .ref (h + 9), .ref (h + 10), .ref (h + 11), .int (zI (Z 20)), .int (zI (Z 21)), .int (zI (Z 22)), .ref (h + 12)]) := (o397 (h) (by omega)).trans hf389
                        refine g_iret hx hb hr hlk hK hM dX9_item_159 ?_
                        have hQ : ∀ i, i < 147 → sApp6 P c0 a b x y (P 1 + y) i = Pz398 i := fun i hi => by
                          rw [hPz398, hP1]
                          simp only [sApp6, pu, ↓reduceIte]
                          (repeat' split) <;> first | rfl | omega
                        have hS : sRef P 7 a b x y (fl = 1) = 0 := by
                          rw [rf_7]
                          (repeat' split) <;> first | rfl | omega
                        have hF : sPf P 7 a b x y = (↑c0, sApp6 P c0 a b x y (P 1 + y)) := by
                          unfold sPf
                          rw [if_neg (by omega), if_neg (by omega), if_neg (by omega), if_neg (by omega), if_neg (by omega), if_neg (by omega), if_neg (by omega), if_pos rfl, hc0, Int.toNat_natCast]
                        obtain ⟨e1, e2, e3⟩ := d_yes hS hF
                        exact ⟨by rw [e1]; exact hf399, by rw [e2], by rw [e3]; exact hn396.cong hQ, (fun q hq => ((o397 (q) (by omega)).trans ((o388 (q) (by omega)).trans ((o378 (q) (by omega)).trans ((o353 (q) (by omega)).trans (o343 (q) (by omega)))))))⟩
                      · exact absurd c112 (by decide)
                    · skip
                      refine g_iconst hx hb dX9_item_103 ?_
                      refine lv_goto (tgt := 108) hx hb dX9_item_104 (by decide) ?_
                      refine g_iconst hx hb dX9_item_108 ?_
                      have hC400 := c_X9_refuses l g b0 n f349 h (pu Z 15 0) 1 3 ho357 hrg (pu_s _ _ _) (Or.inr rfl) (by decide)
                      refine g_callVi (ci := 11) (C := RX9) (T := TX9) (N := 24) (As := [.int (zI 1), .int (zI 3)]) (rest := []) ⟨hx, hb, hml, hown, hts⟩ hK hM hC400 (cuV (n := 2) hts u_1245 u_1242 u_10 (by decide) u_1244 us_29 ⟨Nat.le_of_ble_eq_true rfl, Nat.le_of_ble_eq_true rfl⟩) ⟨by omega, by omega⟩ ho357 rfl rfl hl.1 rfl (Nat.le_of_ble_eq_true rfl) dX9_item_109 ⟨Nat.zero_le _, Nat.zero_le _⟩ (fun r109 f401 H locs hM hp402 => ?_)
                      have hd403 := rf_alt hp402 (Or.inr rfl)
                      obtain ⟨rfl, hm406, o404⟩ := hd403.elim (fun q9 => q9.2) (fun q9 => absurd q9.1 (by decide))
                      have ho409 : f401 h = .inr (11, [.int (zI (Z 0)), .ref (h + 1), .ref (h + 2), .ref (h + 3), .ref (h + 4), .ref (h + 5), .ref (h + 6), .ref (h + 7), .ref (h + 8), .int (zI (Z 9)), .int (zI (Z 10)), .int (zI (Z 11)), .int (zI (Z 12)), .int (zI (Z 13)), .int (zI (Z 14)), .int (zI 3), .int (zI (Z 16)), .ref (h + 9), .ref (h + 10), .ref (h + 11), .int (zI (Z 20)), .int (zI (Z 21)), .int (zI (Z 22)), .ref (h + 12)]) := hm406
                      refine g_if_eq (tgt := 117) hx hb dX9_item_112 (by decide) (by decide) (fun c112 => ?_) (fun c112 => ?_)
                      · exact absurd c112 (by decide)
                      · skip
                        refine g_iconst hx hb dX9_item_115 ?_
                        have hf410 := hf358.kept (fun q h1 h2 => (o404 (q) (by omega)))
                        refine g_iret hx hb hr hlk hK hM dX9_item_116 ?_
                        have hS : sRef P 7 a b x y (fl = 1) = 3 := by
                          rw [rf_7]
                          (repeat' split) <;> first | rfl | omega
                        obtain ⟨e1, e2, e3⟩ := d_no hS (by decide)
                        exact ⟨by rw [e1]; exact ho409, by rw [e2], by rw [e3]; exact hf410, (fun q hq => ((o404 (q) (by omega)).trans ((o353 (q) (by omega)).trans (o343 (q) (by omega)))))⟩
            · skip
              refine lv_aload_n hx hb dX9_item_56 rfl (lv_at hl 1 rfl) ?_
              refine lv_iload_n hx hb dX9_item_57 rfl (lv_at hl 3 rfl) ?_
              have hC411 := c_X9_isEnvelope l g b0 n f h Z M aa P b hO hP hrg hat haa hcn7 hrb
              refine g_callVi (ci := 11) (C := RX9) (T := TX9) (N := 24) (As := [.int (zI b)]) (rest := [.ref h]) ⟨hx, hb, hml, hown, hts⟩ hK hM hC411 (cuV (n := 1) hts u_1265 u_1262 u_10 (by decide) u_1264 us_34 ⟨Nat.le_of_ble_eq_true rfl, Nat.le_of_ble_eq_true rfl⟩) ⟨by omega, by omega⟩ hO rfl rfl hl.1 rfl (Nat.le_of_ble_eq_true rfl) dX9_item_58 ⟨Nat.zero_le _, Nat.zero_le _⟩ (fun r58 f412 H locs hM hp413 => ?_)
              obtain ⟨rfl, rfl⟩ := hp413
              refine g_ifb_ne (tgt := 68) hx hb dX9_item_61 (by decide) (fun c61 => ?_) (fun c61 => ?_)
              · skip
                refine g_iconst hx hb dX9_item_68 ?_
                refine g_iconst hx hb dX9_item_69 ?_
                have hC414 := c_X9_refuses l g b0 n f h Z 0 1 hO hrg hz (Or.inl rfl) (by decide)
                refine g_callVi (ci := 11) (C := RX9) (T := TX9) (N := 24) (As := [.int (zI 0), .int (zI 1)]) (rest := []) ⟨hx, hb, hml, hown, hts⟩ hK hM hC414 (cuV (n := 2) hts u_1245 u_1242 u_10 (by decide) u_1244 us_29 ⟨Nat.le_of_ble_eq_true rfl, Nat.le_of_ble_eq_true rfl⟩) ⟨by omega, by omega⟩ hO rfl rfl hl.1 rfl (Nat.le_of_ble_eq_true rfl) dX9_item_70 ⟨Nat.zero_le _, Nat.zero_le _⟩ (fun r70 f415 H locs hM hp416 => ?_)
                have hd417 := rf_alt hp416 (Or.inl rfl)
                obtain ⟨rfl, hm421, o419⟩ := hd417.elim (fun q9 => absurd q9.1 (by decide)) (fun q9 => q9.2)
                have ho423 : f415 h = .inr (11, [.int (zI (Z 0)), .ref (h + 1), .ref (h + 2), .ref (h + 3), .ref (h + 4), .ref (h + 5), .ref (h + 6), .ref (h + 7), .ref (h + 8), .int (zI (Z 9)), .int (zI (Z 10)), .int (zI (Z 11)), .int (zI (Z 12)), .int (zI (Z 13)), .int (zI (Z 14)), .int (zI 0), .int (zI (Z 16)), .ref (h + 9), .ref (h + 10), .ref (h + 11), .int (zI (Z 20)), .int (zI (Z 21)), .int (zI (Z 22)), .ref (h + 12)]) := hm421
                refine g_if_ne (tgt := 115) hx hb dX9_item_73 (by decide) (by decide) (fun c73 => ?_) (fun c73 => ?_)
                · exact absurd c73 (by decide)
                · skip
                  refine lv_aload_n hx hb dX9_item_76 rfl (lv_at hl 1 rfl) ?_
                  refine lv_iload hx hb dX9_item_77 (lv_at hl 0 rfl) ?_
                  refine g_iconst hx hb dX9_item_79 ?_
                  have hC424 := c_X9_refuses l g b0 n f415 h (pu Z 15 0) 0 2 ho423 hrg (pu_s _ _ _) (Or.inl rfl) (by decide)
                  refine g_callVi (ci := 11) (C := RX9) (T := TX9) (N := 24) (As := [.int (zI 0), .int (zI 2)]) (rest := []) ⟨hx, hb, hml, hown, hts⟩ hK hM hC424 (cuV (n := 2) hts u_1245 u_1242 u_10 (by decide) u_1244 us_29 ⟨Nat.le_of_ble_eq_true rfl, Nat.le_of_ble_eq_true rfl⟩) ⟨by omega, by omega⟩ ho423 rfl rfl hl.1 rfl (Nat.le_of_ble_eq_true rfl) dX9_item_80 ⟨Nat.zero_le _, Nat.zero_le _⟩ (fun r80 f425 H locs hM hp426 => ?_)
                  have hd427 := rf_alt hp426 (Or.inl rfl)
                  obtain ⟨rfl, hm431, o429⟩ := hd427.elim (fun q9 => absurd q9.1 (by decide)) (fun q9 => q9.2)
                  have ho433 : f425 h = .inr (11, [.int (zI (Z 0)), .ref (h + 1), .ref (h + 2), .ref (h + 3), .ref (h + 4), .ref (h + 5), .ref (h + 6), .ref (h + 7), .ref (h + 8), .int (zI (Z 9)), .int (zI (Z 10)), .int (zI (Z 11)), .int (zI (Z 12)), .int (zI (Z 13)), .int (zI (Z 14)), .int (zI 0), .int (zI (Z 16)), .ref (h + 9), .ref (h + 10), .ref (h + 11), .int (zI (Z 20)), .int (zI (Z 21)), .int (zI (Z 22)), .ref (h + 12)]) := hm431
                  refine g_if_ne (tgt := 115) hx hb dX9_item_83 (by decide) (by decide) (fun c83 => ?_) (fun c83 => ?_)
                  · exact absurd c83 (by decide)
                  · skip
                    refine lv_aload_n hx hb dX9_item_86 rfl (lv_at hl 1 rfl) ?_
                    refine lv_aload_n hx hb dX9_item_87 rfl (lv_at hl 1 rfl) ?_
                    refine g_bipush hx hb dX9_item_88 (by decide) ?_
                    have hf434 := hP.kept (fun q h1 h2 => ((o429 (q) (by omega)).trans (o419 (q) (by omega))))
                    have hC435 := c_X9_n l g b0 n f425 h (pu Z 15 0) M aa P 10 (10) ho433 hf434 hrg hat haa (by omega) (by omega)
                    refine g_callVi (ci := 11) (C := RX9) (T := TX9) (N := 24) (As := [.int (zI 10)]) (rest := [.ref h]) ⟨hx, hb, hml, hown, hts⟩ hK hM hC435 (cuV (n := 1) hts u_1249 u_1246 u_10 (by decide) u_1248 us_30 ⟨Nat.le_of_ble_eq_true rfl, Nat.le_of_ble_eq_true rfl⟩) ⟨by omega, by omega⟩ ho433 rfl rfl hl.1 rfl (Nat.le_of_ble_eq_true rfl) dX9_item_90 ⟨Nat.zero_le _, Nat.zero_le _⟩ (fun r90 f436 H locs hM hp437 => ?_)
                    obtain ⟨rfl, rfl⟩ := hp437
                    refine g_bipush hx hb dX9_item_93 (by decide) ?_
                    refine g_icmp_eq (tgt := 103) hx hb dX9_item_95 (by decide) ⟨by omega, by omega⟩ (by decide) (fun c95 => ?_) (fun c95 => ?_)
                    · skip
                      refine g_iconst hx hb dX9_item_103 ?_
                      refine lv_goto (tgt := 108) hx hb dX9_item_104 (by decide) ?_
                      refine g_iconst hx hb dX9_item_108 ?_
                      have hC438 := c_X9_refuses l g b0 n f425 h (pu Z 15 0) 1 3 ho433 hrg (pu_s _ _ _) (Or.inr rfl) (by decide)
                      refine g_callVi (ci := 11) (C := RX9) (T := TX9) (N := 24) (As := [.int (zI 1), .int (zI 3)]) (rest := []) ⟨hx, hb, hml, hown, hts⟩ hK hM hC438 (cuV (n := 2) hts u_1245 u_1242 u_10 (by decide) u_1244 us_29 ⟨Nat.le_of_ble_eq_true rfl, Nat.le_of_ble_eq_true rfl⟩) ⟨by omega, by omega⟩ ho433 rfl rfl hl.1 rfl (Nat.le_of_ble_eq_true rfl) dX9_item_109 ⟨Nat.zero_le _, Nat.zero_le _⟩ (fun r109 f439 H locs hM hp440 => ?_)
                      have hd441 := rf_alt hp440 (Or.inr rfl)
                      obtain ⟨rfl, hm444, o442⟩ := hd441.elim (fun q9 => q9.2) (fun q9 => absurd q9.1 (by decide))
                      have ho447 : f439 h = .inr (11, [.int (zI (Z 0)), .ref (h + 1), .ref (h + 2), .ref (h + 3), .ref (h + 4), .ref (h + 5), .ref (h + 6), .ref (h + 7), .ref (h + 8), .int (zI (Z 9)), .int (zI (Z 10)), .int (zI (Z 11)), .int (zI (Z 12)), .int (zI (Z 13)), .int (zI (Z 14)), .int (zI 3), .int (zI (Z 16)), .ref (h + 9), .ref (h + 10), .ref (h + 11), .int (zI (Z 20)), .int (zI (Z 21)), .int (zI (Z 22)), .ref (h + 12)]) := hm444
                      refine g_if_eq (tgt := 117) hx hb dX9_item_112 (by decide) (by decide) (fun c112 => ?_) (fun c112 => ?_)
                      · exact absurd c112 (by decide)
                      · skip
                        refine g_iconst hx hb dX9_item_115 ?_
                        have hf448 := hf434.kept (fun q h1 h2 => (o442 (q) (by omega)))
                        refine g_iret hx hb hr hlk hK hM dX9_item_116 ?_
                        have hS : sRef P 7 a b x y (fl = 1) = 3 := by
                          rw [rf_7]
                          (repeat' split) <;> first | rfl | omega
                        obtain ⟨e1, e2, e3⟩ := d_no hS (by decide)
                        exact ⟨by rw [e1]; exact ho447, by rw [e2], by rw [e3]; exact hf448, (fun q hq => ((o442 (q) (by omega)).trans ((o429 (q) (by omega)).trans (o419 (q) (by omega)))))⟩
                    · skip
                      refine lv_iload hx hb dX9_item_98 (lv_at hl 6 rfl) ?_
                      refine g_if_eq (tgt := 107) hx hb dX9_item_100 (by decide) ⟨by omega, by omega⟩ (fun c100 => ?_) (fun c100 => ?_)
                      · skip
                        refine g_iconst hx hb dX9_item_107 ?_
                        refine g_iconst hx hb dX9_item_108 ?_
                        have hC449 := c_X9_refuses l g b0 n f425 h (pu Z 15 0) 0 3 ho433 hrg (pu_s _ _ _) (Or.inl rfl) (by decide)
                        refine g_callVi (ci := 11) (C := RX9) (T := TX9) (N := 24) (As := [.int (zI 0), .int (zI 3)]) (rest := []) ⟨hx, hb, hml, hown, hts⟩ hK hM hC449 (cuV (n := 2) hts u_1245 u_1242 u_10 (by decide) u_1244 us_29 ⟨Nat.le_of_ble_eq_true rfl, Nat.le_of_ble_eq_true rfl⟩) ⟨by omega, by omega⟩ ho433 rfl rfl hl.1 rfl (Nat.le_of_ble_eq_true rfl) dX9_item_109 ⟨Nat.zero_le _, Nat.zero_le _⟩ (fun r109 f450 H locs hM hp451 => ?_)
                        have hd452 := rf_alt hp451 (Or.inl rfl)
                        obtain ⟨rfl, hm456, o454⟩ := hd452.elim (fun q9 => absurd q9.1 (by decide)) (fun q9 => q9.2)
                        have ho458 : f450 h = .inr (11, [.int (zI (Z 0)), .ref (h + 1), .ref (h + 2), .ref (h + 3), .ref (h + 4), .ref (h + 5), .ref (h + 6), .ref (h + 7), .ref (h + 8), .int (zI (Z 9)), .int (zI (Z 10)), .int (zI (Z 11)), .int (zI (Z 12)), .int (zI (Z 13)), .int (zI (Z 14)), .int (zI 0), .int (zI (Z 16)), .ref (h + 9), .ref (h + 10), .ref (h + 11), .int (zI (Z 20)), .int (zI (Z 21)), .int (zI (Z 22)), .ref (h + 12)]) := hm456
                        refine g_if_eq (tgt := 117) hx hb dX9_item_112 (by decide) (by decide) (fun c112 => ?_) (fun c112 => ?_)
                        · skip
                          obtain ⟨c0, hc0⟩ : ∃ q : Nat, P 10 = q := ⟨(P 10).toNat, by omega⟩
                          refine lv_aload_n hx hb dX9_item_117 rfl (lv_at hl 1 rfl) ?_
                          refine g_bipush hx hb dX9_item_118 (by decide) ?_
                          refine g_bipush hx hb dX9_item_120 (by decide) ?_
                          refine g_bipush hx hb dX9_item_122 (by decide) ?_
                          refine lv_iload_n hx hb dX9_item_124 rfl (lv_at hl 2 rfl) ?_
                          refine lv_iload_n hx hb dX9_item_125 rfl (lv_at hl 3 rfl) ?_
                          refine lv_iload_n hx hb dX9_item_126 rfl (lv_at hl 4 rfl) ?_
                          refine lv_iload hx hb dX9_item_127 (lv_at hl 5 rfl) ?_
                          have hf459 := hf434.kept (fun q h1 h2 => (o454 (q) (by omega)))
                          have hC460 := c_X9_row6 l g b0 n f450 h (pu Z 15 0) M aa P c0 a b x y ho458 hf459 hrg hat haa hc0 (by omega) hra hrb hrx hry
                          refine g_callVi (ci := 11) (C := RX9) (T := TX9) (N := 24) (As := [.int (zI 99), .int (zI 6), .int (zI 10), .int (zI a), .int (zI b), .int (zI x), .int (zI y)]) (rest := []) ⟨hx, hb, hml, hown, hts⟩ hK hM hC460 (cuV (n := 7) hts u_1253 u_1250 u_10 (by decide) u_1252 us_31 ⟨Nat.le_of_ble_eq_true rfl, Nat.le_of_ble_eq_true rfl⟩) ⟨by omega, by omega⟩ ho458 rfl rfl hl.1 rfl (Nat.le_of_ble_eq_true rfl) dX9_item_129 ⟨Nat.zero_le _, Nat.zero_le _⟩ (fun r129 f461 H locs hM hp462 => ?_)
                          obtain ⟨rfl, hn463, o464⟩ := hp462
                          obtain ⟨P1, hP1⟩ : ∃ Q : Nat → Int, Q = (sApp6 P c0 a b x y 0) := ⟨_, rfl⟩
                          rw [← hP1] at hn463
                          refine lv_istore (lv' := [(7, .int (zI (↑c0 : Int))), (6, .int (zI 0)), (0, .ref h), (1, .int (zI a)), (2, .int (zI b)), (3, .int (zI x)), (4, .int (zI y)), (5, .int (zI fl))]) hx hb dX9_item_132 hl (by decide) rfl (fun ls hl => ?_)
                          have hp11 : P1 1 = P 1 := by rw [hP1]; unfold sApp6; rw [pu_n (by omega), pu_n (by omega), pu_n (by omega), pu_n (by omega), pu_n (by omega), pu_n (by omega), pu_n (by omega)]
                          refine lv_aload_n hx hb dX9_item_134 rfl (lv_at hl 2 rfl) ?_
                          refine g_bipush hx hb dX9_item_135 (by decide) ?_
                          refine g_bipush hx hb dX9_item_137 (by decide) ?_
                          refine lv_iload hx hb dX9_item_139 (lv_at hl 0 rfl) ?_
                          refine g_imul hx hb dX9_item_141 ?_
                          refine g_iadd hx hb dX9_item_142 ?_
                          refine g_iconst hx hb dX9_item_143 ?_
                          refine g_iadd hx hb dX9_item_144 ?_
                          refine lv_aload_n hx hb dX9_item_145 rfl (lv_at hl 2 rfl) ?_
                          refine g_iconst hx hb dX9_item_146 ?_
                          have hf465 : f461 (h) = .inr (11, [.int (zI (Z 0)), .ref (h + 1), .ref (h + 2), .ref (h + 3), .ref (h + 4), .ref (h + 5), .ref (h + 6), .ref (h + 7), .ref (h + 8), .int (zI (Z 9)), .int (zI (Z 10)), .int (zI (Z 11)), .int (zI (Z 12)), .int (zI (Z 13)), .int (zI (Z 14)), .int (zI 0), .int (zI (Z 16)), .ref (h + 9), .ref (h + 10), .ref (h + 11), .int (zI (Z 20)), .int (zI (Z 21)), .int (zI (Z 22)), .ref (h + 12)]) := (o464 (h) (by omega)).trans ho458
                          have hC466 := c_X9_p l g b0 n f461 h (pu Z 15 0) M aa P1 1 (1) hf465 hn463 hrg hat haa (by omega) (by omega)
                          refine g_callVl (ci := 11) (C := RX9) (T := TX9) (N := 24) (As := [.int (zI 1)]) (rest := [.int (zI ((99 + (6 * (↑c0 : Int))) + 4)), .ref h]) ⟨hx, hb, hml, hown, hts⟩ hK hM hC466 (cuV (n := 1) hts u_1283 u_1280 u_10 (by decide) u_1282 us_37 ⟨Nat.le_of_ble_eq_true rfl, Nat.le_of_ble_eq_true rfl⟩) ⟨by omega, by omega⟩ hf465 rfl rfl hl.1 rfl (Nat.le_of_ble_eq_true rfl) dX9_item_147 ⟨Nat.zero_le _, Nat.zero_le _⟩ (fun r147 f467 H locs hM hp468 => ?_)
                          obtain ⟨rfl, rfl⟩ := hp468
                          rw [hp11]
                          refine lv_iload hx hb dX9_item_150 (lv_at hl 6 rfl) ?_
                          refine g_i2l hx hb dX9_item_152 hry ?_
                          refine g_ladd hx hb dX9_item_153 ?_
                          have hC469 := c_X9_puts l g b0 n f461 h (pu Z 15 0) M aa P1 ((99 + (6 * (↑c0 : Int))) + 4) (103 + 6 * c0) ((P 1) + y) hf465 hn463 hrg hat haa (by omega) (by omega)
                          refine g_callVv (ci := 11) (C := RX9) (T := TX9) (N := 24) (As := [.int (zI ((99 + (6 * (↑c0 : Int))) + 4)), .long (zL ((P 1) + y))]) (rest := []) ⟨hx, hb, hml, hown, hts⟩ hK hM hC469 (cuV (n := 2) hts u_1257 u_1254 u_10 (by decide) u_1256 us_32 ⟨Nat.le_of_ble_eq_true rfl, Nat.le_of_ble_eq_true rfl⟩) ⟨by omega, by omega⟩ hf465 rfl rfl hl.1 rfl (Nat.le_of_ble_eq_true rfl) dX9_item_154 ⟨Nat.zero_le _, Nat.zero_le _⟩ (fun f470 H locs hM hp471 => ?_)
                          obtain ⟨hn472, o473⟩ := hp471
                          obtain ⟨Pz474, hPz474⟩ : ∃ Q : Nat → Int, Q = pu P1 (103 + 6 * c0) ((P 1) + y) := ⟨_, rfl⟩
                          rw [← hPz474] at hn472
                          refine lv_iload hx hb dX9_item_157 (lv_at hl 0 rfl) ?_
                          have hf475 : f470 (h) = .inr (11, [.int (zI (Z 0)), .ref (h + 1), .ref (h + 2), .ref (h + 3), .ref (h + 4), .ref (h + 5), .ref (h + 6), .ref (h + 7), .ref (h + 8), .int (zI (Z 9)), .int (zI (Z 10)), .int (zI (Z 11)), .int (zI (Z 12)), .int (zI (Z 13)), .int (zI (Z 14)), .int (zI 0), .int (zI (Z 16)), .ref (h + 9), .ref (h + 10), .ref (h + 11), .int (zI (Z 20)), .int (zI (Z 21)), .int (zI (Z 22)), .ref (h + 12)]) := (o473 (h) (by omega)).trans hf465
                          refine g_iret hx hb hr hlk hK hM dX9_item_159 ?_
                          have hQ : ∀ i, i < 147 → sApp6 P c0 a b x y (P 1 + y) i = Pz474 i := fun i hi => by
                            rw [hPz474, hP1]
                            simp only [sApp6, pu, ↓reduceIte]
                            (repeat' split) <;> first | rfl | omega
                          have hS : sRef P 7 a b x y (fl = 1) = 0 := by
                            rw [rf_7]
                            (repeat' split) <;> first | rfl | omega
                          have hF : sPf P 7 a b x y = (↑c0, sApp6 P c0 a b x y (P 1 + y)) := by
                            unfold sPf
                            rw [if_neg (by omega), if_neg (by omega), if_neg (by omega), if_neg (by omega), if_neg (by omega), if_neg (by omega), if_neg (by omega), if_pos rfl, hc0, Int.toNat_natCast]
                          obtain ⟨e1, e2, e3⟩ := d_yes hS hF
                          exact ⟨by rw [e1]; exact hf475, by rw [e2], by rw [e3]; exact hn472.cong hQ, (fun q hq => ((o473 (q) (by omega)).trans ((o464 (q) (by omega)).trans ((o454 (q) (by omega)).trans ((o429 (q) (by omega)).trans (o419 (q) (by omega)))))))⟩
                        · exact absurd c112 (by decide)
                      · skip
                        refine g_iconst hx hb dX9_item_103 ?_
                        refine lv_goto (tgt := 108) hx hb dX9_item_104 (by decide) ?_
                        refine g_iconst hx hb dX9_item_108 ?_
                        have hC476 := c_X9_refuses l g b0 n f425 h (pu Z 15 0) 1 3 ho433 hrg (pu_s _ _ _) (Or.inr rfl) (by decide)
                        refine g_callVi (ci := 11) (C := RX9) (T := TX9) (N := 24) (As := [.int (zI 1), .int (zI 3)]) (rest := []) ⟨hx, hb, hml, hown, hts⟩ hK hM hC476 (cuV (n := 2) hts u_1245 u_1242 u_10 (by decide) u_1244 us_29 ⟨Nat.le_of_ble_eq_true rfl, Nat.le_of_ble_eq_true rfl⟩) ⟨by omega, by omega⟩ ho433 rfl rfl hl.1 rfl (Nat.le_of_ble_eq_true rfl) dX9_item_109 ⟨Nat.zero_le _, Nat.zero_le _⟩ (fun r109 f477 H locs hM hp478 => ?_)
                        have hd479 := rf_alt hp478 (Or.inr rfl)
                        obtain ⟨rfl, hm482, o480⟩ := hd479.elim (fun q9 => q9.2) (fun q9 => absurd q9.1 (by decide))
                        have ho485 : f477 h = .inr (11, [.int (zI (Z 0)), .ref (h + 1), .ref (h + 2), .ref (h + 3), .ref (h + 4), .ref (h + 5), .ref (h + 6), .ref (h + 7), .ref (h + 8), .int (zI (Z 9)), .int (zI (Z 10)), .int (zI (Z 11)), .int (zI (Z 12)), .int (zI (Z 13)), .int (zI (Z 14)), .int (zI 3), .int (zI (Z 16)), .ref (h + 9), .ref (h + 10), .ref (h + 11), .int (zI (Z 20)), .int (zI (Z 21)), .int (zI (Z 22)), .ref (h + 12)]) := hm482
                        refine g_if_eq (tgt := 117) hx hb dX9_item_112 (by decide) (by decide) (fun c112 => ?_) (fun c112 => ?_)
                        · exact absurd c112 (by decide)
                        · skip
                          refine g_iconst hx hb dX9_item_115 ?_
                          have hf486 := hf434.kept (fun q h1 h2 => (o480 (q) (by omega)))
                          refine g_iret hx hb hr hlk hK hM dX9_item_116 ?_
                          have hS : sRef P 7 a b x y (fl = 1) = 3 := by
                            rw [rf_7]
                            (repeat' split) <;> first | rfl | omega
                          obtain ⟨e1, e2, e3⟩ := d_no hS (by decide)
                          exact ⟨by rw [e1]; exact ho485, by rw [e2], by rw [e3]; exact hf486, (fun q hq => ((o480 (q) (by omega)).trans ((o429 (q) (by omega)).trans (o419 (q) (by omega)))))⟩
              · skip
                refine g_iconst hx hb dX9_item_64 ?_
                refine lv_goto (tgt := 69) hx hb dX9_item_65 (by decide) ?_
                refine g_iconst hx hb dX9_item_69 ?_
                have hC487 := c_X9_refuses l g b0 n f h Z 1 1 hO hrg hz (Or.inr rfl) (by decide)
                refine g_callVi (ci := 11) (C := RX9) (T := TX9) (N := 24) (As := [.int (zI 1), .int (zI 1)]) (rest := []) ⟨hx, hb, hml, hown, hts⟩ hK hM hC487 (cuV (n := 2) hts u_1245 u_1242 u_10 (by decide) u_1244 us_29 ⟨Nat.le_of_ble_eq_true rfl, Nat.le_of_ble_eq_true rfl⟩) ⟨by omega, by omega⟩ hO rfl rfl hl.1 rfl (Nat.le_of_ble_eq_true rfl) dX9_item_70 ⟨Nat.zero_le _, Nat.zero_le _⟩ (fun r70 f488 H locs hM hp489 => ?_)
                have hd490 := rf_alt hp489 (Or.inr rfl)
                obtain ⟨rfl, hm493, o491⟩ := hd490.elim (fun q9 => q9.2) (fun q9 => absurd q9.1 (by decide))
                have ho496 : f488 h = .inr (11, [.int (zI (Z 0)), .ref (h + 1), .ref (h + 2), .ref (h + 3), .ref (h + 4), .ref (h + 5), .ref (h + 6), .ref (h + 7), .ref (h + 8), .int (zI (Z 9)), .int (zI (Z 10)), .int (zI (Z 11)), .int (zI (Z 12)), .int (zI (Z 13)), .int (zI (Z 14)), .int (zI 1), .int (zI (Z 16)), .ref (h + 9), .ref (h + 10), .ref (h + 11), .int (zI (Z 20)), .int (zI (Z 21)), .int (zI (Z 22)), .ref (h + 12)]) := hm493
                refine g_if_ne (tgt := 115) hx hb dX9_item_73 (by decide) (by decide) (fun c73 => ?_) (fun c73 => ?_)
                · skip
                  refine g_iconst hx hb dX9_item_115 ?_
                  have hf497 := hP.kept (fun q h1 h2 => (o491 (q) (by omega)))
                  refine g_iret hx hb hr hlk hK hM dX9_item_116 ?_
                  have hS : sRef P 7 a b x y (fl = 1) = 1 := by
                    rw [rf_7]
                    (repeat' split) <;> first | rfl | omega
                  obtain ⟨e1, e2, e3⟩ := d_no hS (by decide)
                  exact ⟨by rw [e1]; exact ho496, by rw [e2], by rw [e3]; exact hf497, (fun q hq => (o491 (q) (by omega)))⟩
                · exact absurd c73 (by decide)
          · skip
            refine g_iconst hx hb dX9_item_43 ?_
            refine lv_goto (tgt := 48) hx hb dX9_item_44 (by decide) ?_
            refine lv_istore (lv' := [(6, .int (zI 1)), (0, .ref h), (1, .int (zI a)), (2, .int (zI b)), (3, .int (zI x)), (4, .int (zI y)), (5, .int (zI fl))]) hx hb dX9_item_48 hl (by decide) rfl (fun ls hl => ?_)
            refine lv_aload_n hx hb dX9_item_50 rfl (lv_at hl 1 rfl) ?_
            refine lv_iload_n hx hb dX9_item_51 rfl (lv_at hl 2 rfl) ?_
            refine g_iconst hx hb dX9_item_52 ?_
            refine g_icmp_ne (tgt := 68) hx hb dX9_item_53 (by decide) hra (by decide) (fun c53 => ?_) (fun c53 => ?_)
            · skip
              refine g_iconst hx hb dX9_item_68 ?_
              refine g_iconst hx hb dX9_item_69 ?_
              have hC498 := c_X9_refuses l g b0 n f h Z 0 1 hO hrg hz (Or.inl rfl) (by decide)
              refine g_callVi (ci := 11) (C := RX9) (T := TX9) (N := 24) (As := [.int (zI 0), .int (zI 1)]) (rest := []) ⟨hx, hb, hml, hown, hts⟩ hK hM hC498 (cuV (n := 2) hts u_1245 u_1242 u_10 (by decide) u_1244 us_29 ⟨Nat.le_of_ble_eq_true rfl, Nat.le_of_ble_eq_true rfl⟩) ⟨by omega, by omega⟩ hO rfl rfl hl.1 rfl (Nat.le_of_ble_eq_true rfl) dX9_item_70 ⟨Nat.zero_le _, Nat.zero_le _⟩ (fun r70 f499 H locs hM hp500 => ?_)
              have hd501 := rf_alt hp500 (Or.inl rfl)
              obtain ⟨rfl, hm505, o503⟩ := hd501.elim (fun q9 => absurd q9.1 (by decide)) (fun q9 => q9.2)
              have ho507 : f499 h = .inr (11, [.int (zI (Z 0)), .ref (h + 1), .ref (h + 2), .ref (h + 3), .ref (h + 4), .ref (h + 5), .ref (h + 6), .ref (h + 7), .ref (h + 8), .int (zI (Z 9)), .int (zI (Z 10)), .int (zI (Z 11)), .int (zI (Z 12)), .int (zI (Z 13)), .int (zI (Z 14)), .int (zI 0), .int (zI (Z 16)), .ref (h + 9), .ref (h + 10), .ref (h + 11), .int (zI (Z 20)), .int (zI (Z 21)), .int (zI (Z 22)), .ref (h + 12)]) := hm505
              refine g_if_ne (tgt := 115) hx hb dX9_item_73 (by decide) (by decide) (fun c73 => ?_) (fun c73 => ?_)
              · exact absurd c73 (by decide)
              · skip
                refine lv_aload_n hx hb dX9_item_76 rfl (lv_at hl 1 rfl) ?_
                refine lv_iload hx hb dX9_item_77 (lv_at hl 0 rfl) ?_
                refine g_iconst hx hb dX9_item_79 ?_
                have hC508 := c_X9_refuses l g b0 n f499 h (pu Z 15 0) 1 2 ho507 hrg (pu_s _ _ _) (Or.inr rfl) (by decide)
                refine g_callVi (ci := 11) (C := RX9) (T := TX9) (N := 24) (As := [.int (zI 1), .int (zI 2)]) (rest := []) ⟨hx, hb, hml, hown, hts⟩ hK hM hC508 (cuV (n := 2) hts u_1245 u_1242 u_10 (by decide) u_1244 us_29 ⟨Nat.le_of_ble_eq_true rfl, Nat.le_of_ble_eq_true rfl⟩) ⟨by omega, by omega⟩ ho507 rfl rfl hl.1 rfl (Nat.le_of_ble_eq_true rfl) dX9_item_80 ⟨Nat.zero_le _, Nat.zero_le _⟩ (fun r80 f509 H locs hM hp510 => ?_)
                have hd511 := rf_alt hp510 (Or.inr rfl)
                obtain ⟨rfl, hm514, o512⟩ := hd511.elim (fun q9 => q9.2) (fun q9 => absurd q9.1 (by decide))
                have ho517 : f509 h = .inr (11, [.int (zI (Z 0)), .ref (h + 1), .ref (h + 2), .ref (h + 3), .ref (h + 4), .ref (h + 5), .ref (h + 6), .ref (h + 7), .ref (h + 8), .int (zI (Z 9)), .int (zI (Z 10)), .int (zI (Z 11)), .int (zI (Z 12)), .int (zI (Z 13)), .int (zI (Z 14)), .int (zI 2), .int (zI (Z 16)), .ref (h + 9), .ref (h + 10), .ref (h + 11), .int (zI (Z 20)), .int (zI (Z 21)), .int (zI (Z 22)), .ref (h + 12)]) := hm514
                refine g_if_ne (tgt := 115) hx hb dX9_item_83 (by decide) (by decide) (fun c83 => ?_) (fun c83 => ?_)
                · skip
                  refine g_iconst hx hb dX9_item_115 ?_
                  have hf518 := hP.kept (fun q h1 h2 => ((o512 (q) (by omega)).trans (o503 (q) (by omega))))
                  refine g_iret hx hb hr hlk hK hM dX9_item_116 ?_
                  have hS : sRef P 7 a b x y (fl = 1) = 2 := by
                    rw [rf_7]
                    (repeat' split) <;> first | rfl | omega
                  obtain ⟨e1, e2, e3⟩ := d_no hS (by decide)
                  exact ⟨by rw [e1]; exact ho517, by rw [e2], by rw [e3]; exact hf518, (fun q hq => ((o512 (q) (by omega)).trans (o503 (q) (by omega))))⟩
                · exact absurd c83 (by decide)
            · skip
              refine lv_aload_n hx hb dX9_item_56 rfl (lv_at hl 1 rfl) ?_
              refine lv_iload_n hx hb dX9_item_57 rfl (lv_at hl 3 rfl) ?_
              have hC519 := c_X9_isEnvelope l g b0 n f h Z M aa P b hO hP hrg hat haa hcn7 hrb
              refine g_callVi (ci := 11) (C := RX9) (T := TX9) (N := 24) (As := [.int (zI b)]) (rest := [.ref h]) ⟨hx, hb, hml, hown, hts⟩ hK hM hC519 (cuV (n := 1) hts u_1265 u_1262 u_10 (by decide) u_1264 us_34 ⟨Nat.le_of_ble_eq_true rfl, Nat.le_of_ble_eq_true rfl⟩) ⟨by omega, by omega⟩ hO rfl rfl hl.1 rfl (Nat.le_of_ble_eq_true rfl) dX9_item_58 ⟨Nat.zero_le _, Nat.zero_le _⟩ (fun r58 f520 H locs hM hp521 => ?_)
              obtain ⟨rfl, rfl⟩ := hp521
              refine g_ifb_ne (tgt := 68) hx hb dX9_item_61 (by decide) (fun c61 => ?_) (fun c61 => ?_)
              · skip
                refine g_iconst hx hb dX9_item_68 ?_
                refine g_iconst hx hb dX9_item_69 ?_
                have hC522 := c_X9_refuses l g b0 n f h Z 0 1 hO hrg hz (Or.inl rfl) (by decide)
                refine g_callVi (ci := 11) (C := RX9) (T := TX9) (N := 24) (As := [.int (zI 0), .int (zI 1)]) (rest := []) ⟨hx, hb, hml, hown, hts⟩ hK hM hC522 (cuV (n := 2) hts u_1245 u_1242 u_10 (by decide) u_1244 us_29 ⟨Nat.le_of_ble_eq_true rfl, Nat.le_of_ble_eq_true rfl⟩) ⟨by omega, by omega⟩ hO rfl rfl hl.1 rfl (Nat.le_of_ble_eq_true rfl) dX9_item_70 ⟨Nat.zero_le _, Nat.zero_le _⟩ (fun r70 f523 H locs hM hp524 => ?_)
                have hd525 := rf_alt hp524 (Or.inl rfl)
                obtain ⟨rfl, hm529, o527⟩ := hd525.elim (fun q9 => absurd q9.1 (by decide)) (fun q9 => q9.2)
                have ho531 : f523 h = .inr (11, [.int (zI (Z 0)), .ref (h + 1), .ref (h + 2), .ref (h + 3), .ref (h + 4), .ref (h + 5), .ref (h + 6), .ref (h + 7), .ref (h + 8), .int (zI (Z 9)), .int (zI (Z 10)), .int (zI (Z 11)), .int (zI (Z 12)), .int (zI (Z 13)), .int (zI (Z 14)), .int (zI 0), .int (zI (Z 16)), .ref (h + 9), .ref (h + 10), .ref (h + 11), .int (zI (Z 20)), .int (zI (Z 21)), .int (zI (Z 22)), .ref (h + 12)]) := hm529
                refine g_if_ne (tgt := 115) hx hb dX9_item_73 (by decide) (by decide) (fun c73 => ?_) (fun c73 => ?_)
                · exact absurd c73 (by decide)
                · skip
                  refine lv_aload_n hx hb dX9_item_76 rfl (lv_at hl 1 rfl) ?_
                  refine lv_iload hx hb dX9_item_77 (lv_at hl 0 rfl) ?_
                  refine g_iconst hx hb dX9_item_79 ?_
                  have hC532 := c_X9_refuses l g b0 n f523 h (pu Z 15 0) 1 2 ho531 hrg (pu_s _ _ _) (Or.inr rfl) (by decide)
                  refine g_callVi (ci := 11) (C := RX9) (T := TX9) (N := 24) (As := [.int (zI 1), .int (zI 2)]) (rest := []) ⟨hx, hb, hml, hown, hts⟩ hK hM hC532 (cuV (n := 2) hts u_1245 u_1242 u_10 (by decide) u_1244 us_29 ⟨Nat.le_of_ble_eq_true rfl, Nat.le_of_ble_eq_true rfl⟩) ⟨by omega, by omega⟩ ho531 rfl rfl hl.1 rfl (Nat.le_of_ble_eq_true rfl) dX9_item_80 ⟨Nat.zero_le _, Nat.zero_le _⟩ (fun r80 f533 H locs hM hp534 => ?_)
                  have hd535 := rf_alt hp534 (Or.inr rfl)
                  obtain ⟨rfl, hm538, o536⟩ := hd535.elim (fun q9 => q9.2) (fun q9 => absurd q9.1 (by decide))
                  have ho541 : f533 h = .inr (11, [.int (zI (Z 0)), .ref (h + 1), .ref (h + 2), .ref (h + 3), .ref (h + 4), .ref (h + 5), .ref (h + 6), .ref (h + 7), .ref (h + 8), .int (zI (Z 9)), .int (zI (Z 10)), .int (zI (Z 11)), .int (zI (Z 12)), .int (zI (Z 13)), .int (zI (Z 14)), .int (zI 2), .int (zI (Z 16)), .ref (h + 9), .ref (h + 10), .ref (h + 11), .int (zI (Z 20)), .int (zI (Z 21)), .int (zI (Z 22)), .ref (h + 12)]) := hm538
                  refine g_if_ne (tgt := 115) hx hb dX9_item_83 (by decide) (by decide) (fun c83 => ?_) (fun c83 => ?_)
                  · skip
                    refine g_iconst hx hb dX9_item_115 ?_
                    have hf542 := hP.kept (fun q h1 h2 => ((o536 (q) (by omega)).trans (o527 (q) (by omega))))
                    refine g_iret hx hb hr hlk hK hM dX9_item_116 ?_
                    have hS : sRef P 7 a b x y (fl = 1) = 2 := by
                      rw [rf_7]
                      (repeat' split) <;> first | rfl | omega
                    obtain ⟨e1, e2, e3⟩ := d_no hS (by decide)
                    exact ⟨by rw [e1]; exact ho541, by rw [e2], by rw [e3]; exact hf542, (fun q hq => ((o536 (q) (by omega)).trans (o527 (q) (by omega))))⟩
                  · exact absurd c83 (by decide)
              · skip
                refine g_iconst hx hb dX9_item_64 ?_
                refine lv_goto (tgt := 69) hx hb dX9_item_65 (by decide) ?_
                refine g_iconst hx hb dX9_item_69 ?_
                have hC543 := c_X9_refuses l g b0 n f h Z 1 1 hO hrg hz (Or.inr rfl) (by decide)
                refine g_callVi (ci := 11) (C := RX9) (T := TX9) (N := 24) (As := [.int (zI 1), .int (zI 1)]) (rest := []) ⟨hx, hb, hml, hown, hts⟩ hK hM hC543 (cuV (n := 2) hts u_1245 u_1242 u_10 (by decide) u_1244 us_29 ⟨Nat.le_of_ble_eq_true rfl, Nat.le_of_ble_eq_true rfl⟩) ⟨by omega, by omega⟩ hO rfl rfl hl.1 rfl (Nat.le_of_ble_eq_true rfl) dX9_item_70 ⟨Nat.zero_le _, Nat.zero_le _⟩ (fun r70 f544 H locs hM hp545 => ?_)
                have hd546 := rf_alt hp545 (Or.inr rfl)
                obtain ⟨rfl, hm549, o547⟩ := hd546.elim (fun q9 => q9.2) (fun q9 => absurd q9.1 (by decide))
                have ho552 : f544 h = .inr (11, [.int (zI (Z 0)), .ref (h + 1), .ref (h + 2), .ref (h + 3), .ref (h + 4), .ref (h + 5), .ref (h + 6), .ref (h + 7), .ref (h + 8), .int (zI (Z 9)), .int (zI (Z 10)), .int (zI (Z 11)), .int (zI (Z 12)), .int (zI (Z 13)), .int (zI (Z 14)), .int (zI 1), .int (zI (Z 16)), .ref (h + 9), .ref (h + 10), .ref (h + 11), .int (zI (Z 20)), .int (zI (Z 21)), .int (zI (Z 22)), .ref (h + 12)]) := hm549
                refine g_if_ne (tgt := 115) hx hb dX9_item_73 (by decide) (by decide) (fun c73 => ?_) (fun c73 => ?_)
                · skip
                  refine g_iconst hx hb dX9_item_115 ?_
                  have hf553 := hP.kept (fun q h1 h2 => (o547 (q) (by omega)))
                  refine g_iret hx hb hr hlk hK hM dX9_item_116 ?_
                  have hS : sRef P 7 a b x y (fl = 1) = 1 := by
                    rw [rf_7]
                    (repeat' split) <;> first | rfl | omega
                  obtain ⟨e1, e2, e3⟩ := d_no hS (by decide)
                  exact ⟨by rw [e1]; exact ho552, by rw [e2], by rw [e3]; exact hf553, (fun q hq => (o547 (q) (by omega)))⟩
                · exact absurd c73 (by decide)

def po_X9_does (g : gE) (f : gF) (h : Nat) (Z M : Nat → Int) (aa : Nat) (P : Nat → Int) (kd a b x y fl v0 : Int) : Int32 → gF → Prop := fun r f1 => mdO f1 h (pu Z 15 (dRf P kd a b x y fl)) ∧ r = zI (dA P kd a b x y fl) ∧ mpAt g f1 h M aa (dP P kd a b x y fl) ∧ scrAt g f1 h ∧ ∀ q, (q < h ∨ (h + 2 ≤ q ∧ q < h + 9) ∨ h + 11 ≤ q) → f1 q = f q
set_option maxRecDepth 100000 in
set_option maxHeartbeats 8000000 in
/-- does -/
theorem c_X9_does (l : Launch) (g : gE) (b0 n : Nat) (f : gF) (h : Nat) (Z M : Nat → Int) (aa : Nat) (P : Nat → Int) (kd a b x y fl v0 : Int) (hO : mdO f h Z) (hP : mpAt g f h M aa P) (hrg : b0 ≤ h ∧ h + 13 ≤ b0 + n) (hat : Z 11 = ↑aa) (haa : aa + 147 ≤ 2058) (hsc : scrAt g f h) (hfl : fl = 0 ∨ fl = 1) (hrk : rI kd) (hra : rI a) (hrb : rI b) (hrx : rI x) (hry : rI y) (hok : pOk P v0) (hv1 : 0 ≤ v0) (hv0 : v0 + 541 ≤ 800000000) (hkd : 0 ≤ kd ∧ kd ≤ 12) : cI l yX9_does cX9_does 10 (some .int) 7 221 [.ref h, .int (zI kd), .int (zI a), .int (zI b), .int (zI x), .int (zI y), .int (zI fl)] g b0 n f (po_X9_does g f h Z M aa P kd a b x y fl v0) := by
  refine gs_i (cc := cX9_does) (maxL := 10) (ret := (some .int)) (by decide) (Nat.le_of_ble_eq_true rfl) ?_
  intro p e0 s m args below meth c ls hx hb hr hml hown hts hlk hK hM hl
  have hl : lv_has ls 10 [(0, .ref h), (1, .int (zI kd)), (2, .int (zI a)), (3, .int (zI b)), (4, .int (zI x)), (5, .int (zI y)), (6, .int (zI fl))] := hl
  have hcn7 := hok.1.1
  have hcn8 := hok.2.1.1
  have hcn9 := hok.2.2.1.1
  have hcn10 := hok.2.2.2.2.2.2.2.1
  have hcp7 := hcn7
  have hcp8 := hcn8
  have hcp9 := hcn9
  have hcp10 := hcn10
  have hws := pOkL_wfS hok (by omega)
  have hpl := pOk_pool hok (by omega)
  refine lv_aload_n hx hb dX9_does_0 rfl (lv_at hl 0 rfl) ?_
  refine g_iconst hx hb dX9_does_1 ?_
  refine g_put (ci := 11) (v := .int (zI 0)) (ty := .int) (C := RX9) (T := TX9) (N := 24) hx hb hts iU_X9 tyX9 tyX9_ok nmX9 hown hK hM ⟨by omega, by omega⟩ hO rfl 15 (by decide) (hts _ u_1159) (fun _ h9 => h9) rfl (by decide +kernel) rfl rfl (Nat.le_of_ble_eq_true rfl) dX9_does_2 (fun f1 H locs hM hf3 o2 => ?_)
  have hf3 : f1 (h) = .inr (11, [.int (zI (Z 0)), .ref (h + 1), .ref (h + 2), .ref (h + 3), .ref (h + 4), .ref (h + 5), .ref (h + 6), .ref (h + 7), .ref (h + 8), .int (zI (Z 9)), .int (zI (Z 10)), .int (zI (Z 11)), .int (zI (Z 12)), .int (zI (Z 13)), .int (zI (Z 14)), .int (zI 0), .int (zI (Z 16)), .ref (h + 9), .ref (h + 10), .ref (h + 11), .int (zI (Z 20)), .int (zI (Z 21)), .int (zI (Z 22)), .ref (h + 12)]) := hf3
  refine lv_iload_n hx hb dX9_does_5 rfl (lv_at hl 1 rfl) ?_
  have hz6 := zI_toInt (z := kd) hrk
  rcases g_sw (0) (11) kd with c6 | c6
  · refine lv_tableOut (tgt := 921) hx hb dX9_does_6 (by rw [hz6]; exact c6) (by decide) ?_
    have hk12 : kd = 12 := by omega
    refine lv_aload_n hx hb dX9_does_921 rfl (lv_at hl 0 rfl) ?_
    refine lv_iload_n hx hb dX9_does_922 rfl (lv_at hl 2 rfl) ?_
    refine g_i2l hx hb dX9_does_923 hra ?_
    refine g_lconst (z := 1) hx hb dX9_does_924 (by decide) ?_
    refine g_ldc2 (z := 60) hx hb hown (hts _ u_1288) dX9_does_925 (by decide) ?_
    have hC4 := c_X9_in l g b0 n f1 a 1 60 (rI_L hra) (by decide) (by decide)
    refine g_callSi (As := [.long (zL a), .long (zL 1), .long (zL 60)]) (rest := [.ref h]) ⟨hx, hb, hml, hown, hts⟩ hK hM hC4 (cuS (n := 3) hts u_1240 u_1238 u_10 (by decide) u_1239 ⟨Nat.le_of_ble_eq_true rfl, Nat.le_of_ble_eq_true rfl⟩) rfl hl.1 rfl (Nat.le_of_ble_eq_true rfl) dX9_does_928 ⟨Nat.zero_le _, Nat.zero_le _⟩ (fun r928 f5 H locs hM hp6 => ?_)
    obtain ⟨rfl, rfl⟩ := hp6
    refine g_ifb_ne (tgt := 938) hx hb dX9_does_931 (by decide) (fun c931 => ?_) (fun c931 => ?_)
    · skip
      refine g_iconst hx hb dX9_does_938 ?_
      refine g_iconst hx hb dX9_does_939 ?_
      have hC7 := c_X9_refuses l g b0 n f1 h (pu Z 15 0) 0 2 hf3 hrg (pu_s _ _ _) (Or.inl rfl) (by decide)
      refine g_callVi (ci := 11) (C := RX9) (T := TX9) (N := 24) (As := [.int (zI 0), .int (zI 2)]) (rest := []) ⟨hx, hb, hml, hown, hts⟩ hK hM hC7 (cuV (n := 2) hts u_1245 u_1242 u_10 (by decide) u_1244 us_29 ⟨Nat.le_of_ble_eq_true rfl, Nat.le_of_ble_eq_true rfl⟩) ⟨by omega, by omega⟩ hf3 rfl rfl hl.1 rfl (Nat.le_of_ble_eq_true rfl) dX9_does_940 ⟨Nat.zero_le _, Nat.zero_le _⟩ (fun r940 f8 H locs hM hp9 => ?_)
      have hd10 := rf_alt hp9 (Or.inl rfl)
      obtain ⟨rfl, hm14, o12⟩ := hd10.elim (fun q9 => absurd q9.1 (by decide)) (fun q9 => q9.2)
      have ho16 : f8 h = .inr (11, [.int (zI (Z 0)), .ref (h + 1), .ref (h + 2), .ref (h + 3), .ref (h + 4), .ref (h + 5), .ref (h + 6), .ref (h + 7), .ref (h + 8), .int (zI (Z 9)), .int (zI (Z 10)), .int (zI (Z 11)), .int (zI (Z 12)), .int (zI (Z 13)), .int (zI (Z 14)), .int (zI 0), .int (zI (Z 16)), .ref (h + 9), .ref (h + 10), .ref (h + 11), .int (zI (Z 20)), .int (zI (Z 21)), .int (zI (Z 22)), .ref (h + 12)]) := hm14
      refine g_if_ne (tgt := 956) hx hb dX9_does_943 (by decide) (by decide) (fun c943 => ?_) (fun c943 => ?_)
      · exact absurd c943 (by decide)
      · skip
        refine lv_aload_n hx hb dX9_does_946 rfl (lv_at hl 0 rfl) ?_
        refine lv_iload hx hb dX9_does_947 (lv_at hl 6 rfl) ?_
        refine g_iconst hx hb dX9_does_949 ?_
        have hC17 := c_X9_refuses l g b0 n f8 h (pu Z 15 0) fl 3 ho16 hrg (pu_s _ _ _) hfl (by decide)
        refine g_callVi (ci := 11) (C := RX9) (T := TX9) (N := 24) (As := [.int (zI fl), .int (zI 3)]) (rest := []) ⟨hx, hb, hml, hown, hts⟩ hK hM hC17 (cuV (n := 2) hts u_1245 u_1242 u_10 (by decide) u_1244 us_29 ⟨Nat.le_of_ble_eq_true rfl, Nat.le_of_ble_eq_true rfl⟩) ⟨by omega, by omega⟩ ho16 rfl rfl hl.1 rfl (Nat.le_of_ble_eq_true rfl) dX9_does_950 ⟨Nat.zero_le _, Nat.zero_le _⟩ (fun r950 f18 H locs hM hp19 => ?_)
        have hd20 := rf_alt hp19 hfl
        rcases hd20 with ⟨hq25, rfl, hm23, o21⟩ | ⟨hq25, rfl, hm24, o22⟩
        · skip
          have ho26 : f18 h = .inr (11, [.int (zI (Z 0)), .ref (h + 1), .ref (h + 2), .ref (h + 3), .ref (h + 4), .ref (h + 5), .ref (h + 6), .ref (h + 7), .ref (h + 8), .int (zI (Z 9)), .int (zI (Z 10)), .int (zI (Z 11)), .int (zI (Z 12)), .int (zI (Z 13)), .int (zI (Z 14)), .int (zI 3), .int (zI (Z 16)), .ref (h + 9), .ref (h + 10), .ref (h + 11), .int (zI (Z 20)), .int (zI (Z 21)), .int (zI (Z 22)), .ref (h + 12)]) := hm23
          refine g_if_eq (tgt := 958) hx hb dX9_does_953 (by decide) (by decide) (fun c953 => ?_) (fun c953 => ?_)
          · exact absurd c953 (by decide)
          · skip
            refine g_iconst hx hb dX9_does_956 ?_
            have hf27 := hP.kept (fun q h1 h2 => ((o21 (q) (by omega)).trans ((o12 (q) (by omega)).trans (o2 (q) (by omega)))))
            have hf28 := hsc.kept (fun q h1 h2 => ((o21 (q) (by omega)).trans ((o12 (q) (by omega)).trans (o2 (q) (by omega)))))
            refine g_iret hx hb hr hlk hK hM dX9_does_957 ?_
            subst hk12
            have hS : sRef P 12 a b x y (fl = 1) = 3 := by
              rw [rf_12]
              (repeat' split) <;> first | rfl | omega
            obtain ⟨e1, e2, e3⟩ := d_no hS (by decide)
            exact ⟨by rw [e1]; exact ho26, by rw [e2], by rw [e3]; exact hf27, hf28, (fun q hq => ((o21 (q) (by omega)).trans ((o12 (q) (by omega)).trans (o2 (q) (by omega)))))⟩
        · skip
          have ho29 : f18 h = .inr (11, [.int (zI (Z 0)), .ref (h + 1), .ref (h + 2), .ref (h + 3), .ref (h + 4), .ref (h + 5), .ref (h + 6), .ref (h + 7), .ref (h + 8), .int (zI (Z 9)), .int (zI (Z 10)), .int (zI (Z 11)), .int (zI (Z 12)), .int (zI (Z 13)), .int (zI (Z 14)), .int (zI 0), .int (zI (Z 16)), .ref (h + 9), .ref (h + 10), .ref (h + 11), .int (zI (Z 20)), .int (zI (Z 21)), .int (zI (Z 22)), .ref (h + 12)]) := hm24
          refine g_if_eq (tgt := 958) hx hb dX9_does_953 (by decide) (by decide) (fun c953 => ?_) (fun c953 => ?_)
          · skip
            refine lv_aload_n hx hb dX9_does_958 rfl (lv_at hl 0 rfl) ?_
            refine g_iconst hx hb dX9_does_959 ?_
            have hf30 := hP.kept (fun q h1 h2 => ((o22 (q) (by omega)).trans ((o12 (q) (by omega)).trans (o2 (q) (by omega)))))
            have hC31 := c_X9_p l g b0 n f18 h (pu Z 15 0) M aa P 4 (4) ho29 hf30 hrg hat haa (by omega) (by omega)
            refine g_callVl (ci := 11) (C := RX9) (T := TX9) (N := 24) (As := [.int (zI 4)]) (rest := []) ⟨hx, hb, hml, hown, hts⟩ hK hM hC31 (cuV (n := 1) hts u_1283 u_1280 u_10 (by decide) u_1282 us_37 ⟨Nat.le_of_ble_eq_true rfl, Nat.le_of_ble_eq_true rfl⟩) ⟨by omega, by omega⟩ ho29 rfl rfl hl.1 rfl (Nat.le_of_ble_eq_true rfl) dX9_does_960 ⟨Nat.zero_le _, Nat.zero_le _⟩ (fun r960 f32 H locs hM hp33 => ?_)
            obtain ⟨rfl, rfl⟩ := hp33
            refine lv_lstore (lv' := [(7, .long (zL (P 4))), (0, .ref h), (1, .int (zI kd)), (2, .int (zI a)), (3, .int (zI b)), (4, .int (zI x)), (5, .int (zI y)), (6, .int (zI fl))]) hx hb dX9_does_963 hl (by decide) rfl (fun ls hl => ?_)
            refine g_iconst hx hb dX9_does_965 ?_
            refine lv_istore (lv' := [(9, .int (zI 0)), (7, .long (zL (P 4))), (0, .ref h), (1, .int (zI kd)), (2, .int (zI a)), (3, .int (zI b)), (4, .int (zI x)), (5, .int (zI y)), (6, .int (zI fl))]) hx hb dX9_does_966 hl (by decide) rfl (fun ls hl => ?_)
            have lp968 : ∀ (k : Nat), ∀ (i : Nat) (Pi : Nat → Int) (fL : gF) (H : Heap) (locs : List Loc) (ls : Array Slot), (a.toNat - i < k) → ((i : Int) ≤ a) → (Pi = sDays P i) → (pOk Pi (v0 + 9 * i)) → (∀ q, (q < h ∨ (h + 2 ≤ q ∧ q < h + 9) ∨ h + 11 ≤ q) → fL q = f q) → gH g b0 n fL s.heap H locs → (mdO fL h (pu Z 15 0)) → (mpAt g fL h M aa Pi) → (scrAt g fL h) → lv_has ls 10 [(0, .ref h), (2, .int (zI a)), (7, .long (zL (P 4))), (9, .int (zI (↑i : Int)))] → W p l e0 { frames := 7, cells := 0, slots := 0, locals := 221 } s m args below meth c H locs 0 0 (MQ below (va_Qi (po_X9_does g f h Z M aa P kd a b x y fl v0) (gB g b0 n) (gA b0)) args s 0 0 (gA b0)) (F0 m 968 ls []) := by
              intro k
              induction k with
              | zero =>
                intro i Pi fL H locs ls hk hi hPi hod hfr hM hL0 hL1 hL2 hl
                exact absurd hk (Nat.not_lt_zero _)
              | succ k ih968 =>
                intro i Pi fL H locs ls hk hi hPi hod hfr hM hL0 hL1 hL2 hl
                refine lv_iload hx hb dX9_does_968 (lv_at hl 3 rfl) ?_
                refine lv_iload_n hx hb dX9_does_970 rfl (lv_at hl 1 rfl) ?_
                refine g_icmp_ge (tgt := 984) hx hb dX9_does_971 (by decide) ⟨by omega, by omega⟩ hra (fun c971 => ?_) (fun c971 => ?_)
                · skip
                  refine lv_aload_n hx hb dX9_does_984 rfl (lv_at hl 0 rfl) ?_
                  refine g_iconst hx hb dX9_does_985 ?_
                  have hC34 := c_X9_p l g b0 n fL h (pu Z 15 0) M aa Pi 4 (4) hL0 hL1 hrg hat haa (by omega) (by omega)
                  refine g_callVl (ci := 11) (C := RX9) (T := TX9) (N := 24) (As := [.int (zI 4)]) (rest := []) ⟨hx, hb, hml, hown, hts⟩ hK hM hC34 (cuV (n := 1) hts u_1283 u_1280 u_10 (by decide) u_1282 us_37 ⟨Nat.le_of_ble_eq_true rfl, Nat.le_of_ble_eq_true rfl⟩) ⟨by omega, by omega⟩ hL0 rfl rfl hl.1 rfl (Nat.le_of_ble_eq_true rfl) dX9_does_986 ⟨Nat.zero_le _, Nat.zero_le _⟩ (fun r986 f35 H locs hM hp36 => ?_)
                  obtain ⟨rfl, rfl⟩ := hp36
                  refine lv_lload hx hb dX9_does_989 (lv_at hl 2 rfl) ?_
                  refine g_lsub hx hb dX9_does_991 ?_
                  refine g_l2i hx hb dX9_does_992 ?_
                  refine g_iret hx hb hr hlk hK hM dX9_does_993 ?_
                  subst hk12
                  have hia : i = a.toNat := by omega
                  have hS : sRef P 12 a b x y (fl = 1) = 0 := by
                    rw [rf_12]
                    (repeat' split) <;> first | rfl | omega
                  have hF : sPf P 12 a b x y = ((Pi 4 - P 4), Pi) := by
                    unfold sPf
                    rw [if_neg (by omega), if_neg (by omega), if_neg (by omega), if_neg (by omega), if_neg (by omega), if_neg (by omega), if_neg (by omega), if_neg (by omega), if_neg (by omega), if_pos rfl, ← hia, ← hPi]
                  obtain ⟨e1, e2, e3⟩ := d_yes hS hF
                  exact ⟨by rw [e1]; exact hL0, by rw [e2], by rw [e3]; exact hL1, hL2, (fun q hq => (hfr (q) (by omega)))⟩
                · skip
                  refine lv_aload_n hx hb dX9_does_974 rfl (lv_at hl 0 rfl) ?_
                  have hC37 := c_X9_day l g b0 n fL h (pu Z 15 0) M aa Pi (v0 + 9 * i) hL0 hL1 hrg hat haa hL2 hod (by omega) (by omega)
                  refine g_callVv (ci := 11) (C := RX9) (T := TX9) (N := 24) (As := []) (rest := []) ⟨hx, hb, hml, hown, hts⟩ hK hM hC37 (cuV (n := 0) hts u_1339 u_1336 u_10 (by decide) u_1338 us_50 ⟨Nat.le_of_ble_eq_true rfl, Nat.le_of_ble_eq_true rfl⟩) ⟨by omega, by omega⟩ hL0 rfl rfl hl.1 rfl (Nat.le_of_ble_eq_true rfl) dX9_does_975 ⟨Nat.zero_le _, Nat.zero_le _⟩ (fun f38 H locs hM hp39 => ?_)
                  obtain ⟨hn40, hs42, o41⟩ := hp39
                  obtain ⟨Pz43, hPz43⟩ : ∃ Q : Nat → Int, Q = sDay Pi := ⟨_, rfl⟩
                  rw [← hPz43] at hn40
                  refine lv_iinc (v := zI ((↑i : Int) + 1)) (lv' := [(9, .int (zI ((↑i : Int) + 1))), (0, .ref h), (2, .int (zI a)), (7, .long (zL (P 4)))]) hx hb dX9_does_978 hl (k := 3) rfl (zI_add _ _) (by decide) rfl (fun ls hl => ?_)
                  refine lv_goto (tgt := 968) hx hb dX9_does_981 (by decide) ?_
                  have hf44 : f38 (h) = .inr (11, [.int (zI (Z 0)), .ref (h + 1), .ref (h + 2), .ref (h + 3), .ref (h + 4), .ref (h + 5), .ref (h + 6), .ref (h + 7), .ref (h + 8), .int (zI (Z 9)), .int (zI (Z 10)), .int (zI (Z 11)), .int (zI (Z 12)), .int (zI (Z 13)), .int (zI (Z 14)), .int (zI 0), .int (zI (Z 16)), .ref (h + 9), .ref (h + 10), .ref (h + 11), .int (zI (Z 20)), .int (zI (Z 21)), .int (zI (Z 22)), .ref (h + 12)]) := (o41 (h) (by omega)).trans hL0
                  exact ih968 (i + 1) Pz43 f38 _ _ _ (by omega) (by omega) (by rw [hPz43, hPi]; rfl) (by rw [hPz43]; exact pOkL_mono (pOk_day hod (by omega)).1 (by omega)) (fun q hq => ((o41 (q) (by omega)).trans (hfr (q) (by omega)))) hM hf44 hn40 hs42 (lv_sub hl [1, 2, 3, 0] rfl)
            have hf45 := hsc.kept (fun q h1 h2 => ((o22 (q) (by omega)).trans ((o12 (q) (by omega)).trans (o2 (q) (by omega)))))
            exact lp968 ((a.toNat + 1)) 0 P f18 _ _ _ (by omega) (by omega) rfl (pOkL_mono hok (by omega)) (fun q hq => ((o22 (q) (by omega)).trans ((o12 (q) (by omega)).trans (o2 (q) (by omega))))) hM ho29 hf30 hf45 (lv_sub hl [2, 4, 1, 0] rfl)
          · exact absurd c953 (by decide)
    · skip
      refine g_iconst hx hb dX9_does_934 ?_
      refine lv_goto (tgt := 939) hx hb dX9_does_935 (by decide) ?_
      refine g_iconst hx hb dX9_does_939 ?_
      have hC46 := c_X9_refuses l g b0 n f1 h (pu Z 15 0) 1 2 hf3 hrg (pu_s _ _ _) (Or.inr rfl) (by decide)
      refine g_callVi (ci := 11) (C := RX9) (T := TX9) (N := 24) (As := [.int (zI 1), .int (zI 2)]) (rest := []) ⟨hx, hb, hml, hown, hts⟩ hK hM hC46 (cuV (n := 2) hts u_1245 u_1242 u_10 (by decide) u_1244 us_29 ⟨Nat.le_of_ble_eq_true rfl, Nat.le_of_ble_eq_true rfl⟩) ⟨by omega, by omega⟩ hf3 rfl rfl hl.1 rfl (Nat.le_of_ble_eq_true rfl) dX9_does_940 ⟨Nat.zero_le _, Nat.zero_le _⟩ (fun r940 f47 H locs hM hp48 => ?_)
      have hd49 := rf_alt hp48 (Or.inr rfl)
      obtain ⟨rfl, hm52, o50⟩ := hd49.elim (fun q9 => q9.2) (fun q9 => absurd q9.1 (by decide))
      have ho55 : f47 h = .inr (11, [.int (zI (Z 0)), .ref (h + 1), .ref (h + 2), .ref (h + 3), .ref (h + 4), .ref (h + 5), .ref (h + 6), .ref (h + 7), .ref (h + 8), .int (zI (Z 9)), .int (zI (Z 10)), .int (zI (Z 11)), .int (zI (Z 12)), .int (zI (Z 13)), .int (zI (Z 14)), .int (zI 2), .int (zI (Z 16)), .ref (h + 9), .ref (h + 10), .ref (h + 11), .int (zI (Z 20)), .int (zI (Z 21)), .int (zI (Z 22)), .ref (h + 12)]) := hm52
      refine g_if_ne (tgt := 956) hx hb dX9_does_943 (by decide) (by decide) (fun c943 => ?_) (fun c943 => ?_)
      · skip
        refine g_iconst hx hb dX9_does_956 ?_
        have hf56 := hP.kept (fun q h1 h2 => ((o50 (q) (by omega)).trans (o2 (q) (by omega))))
        have hf57 := hsc.kept (fun q h1 h2 => ((o50 (q) (by omega)).trans (o2 (q) (by omega))))
        refine g_iret hx hb hr hlk hK hM dX9_does_957 ?_
        subst hk12
        have hS : sRef P 12 a b x y (fl = 1) = 2 := by
          rw [rf_12]
          (repeat' split) <;> first | rfl | omega
        obtain ⟨e1, e2, e3⟩ := d_no hS (by decide)
        exact ⟨by rw [e1]; exact ho55, by rw [e2], by rw [e3]; exact hf56, hf57, (fun q hq => ((o50 (q) (by omega)).trans (o2 (q) (by omega))))⟩
      · exact absurd c943 (by decide)
  · rcases (show kd = 0 ∨ kd = 1 ∨ kd = 2 ∨ kd = 3 ∨ kd = 4 ∨ kd = 5 ∨ kd = 6 ∨ kd = 7 ∨ kd = 8 ∨ kd = 9 ∨ kd = 10 ∨ kd = 11 by omega) with c6 | c6 | c6 | c6 | c6 | c6 | c6 | c6 | c6 | c6 | c6 | c6
    · refine lv_tableIn (off := 62) (tgt := 68) hx hb dX9_does_6 (by rw [hz6, c6]; decide) (by rw [hz6, c6]; decide) (by rw [hz6, c6]; decide) (by decide) ?_
      subst c6
      refine lv_aload_n hx hb dX9_does_68 rfl (lv_at hl 0 rfl) ?_
      refine lv_iload_n hx hb dX9_does_69 rfl (lv_at hl 2 rfl) ?_
      have hC58 := c_X9_isCap l g b0 n f1 a hra
      refine g_callSi (As := [.int (zI a)]) (rest := [.ref h]) ⟨hx, hb, hml, hown, hts⟩ hK hM hC58 (cuS (n := 1) hts u_1235 u_1233 u_10 (by decide) u_1234 ⟨Nat.le_of_ble_eq_true rfl, Nat.le_of_ble_eq_true rfl⟩) rfl hl.1 rfl (Nat.le_of_ble_eq_true rfl) dX9_does_70 ⟨Nat.zero_le _, Nat.zero_le _⟩ (fun r70 f59 H locs hM hp60 => ?_)
      obtain ⟨rfl, rfl⟩ := hp60
      refine g_ifb_eq (tgt := 88) hx hb dX9_does_73 (by decide) (fun c73 => ?_) (fun c73 => ?_)
      · skip
        refine g_iconst hx hb dX9_does_88 ?_
        refine lv_goto (tgt := 93) hx hb dX9_does_89 (by decide) ?_
        refine g_iconst hx hb dX9_does_93 ?_
        have hC61 := c_X9_refuses l g b0 n f1 h (pu Z 15 0) 1 2 hf3 hrg (pu_s _ _ _) (Or.inr rfl) (by decide)
        refine g_callVi (ci := 11) (C := RX9) (T := TX9) (N := 24) (As := [.int (zI 1), .int (zI 2)]) (rest := []) ⟨hx, hb, hml, hown, hts⟩ hK hM hC61 (cuV (n := 2) hts u_1245 u_1242 u_10 (by decide) u_1244 us_29 ⟨Nat.le_of_ble_eq_true rfl, Nat.le_of_ble_eq_true rfl⟩) ⟨by omega, by omega⟩ hf3 rfl rfl hl.1 rfl (Nat.le_of_ble_eq_true rfl) dX9_does_94 ⟨Nat.zero_le _, Nat.zero_le _⟩ (fun r94 f62 H locs hM hp63 => ?_)
        have hd64 := rf_alt hp63 (Or.inr rfl)
        obtain ⟨rfl, hm67, o65⟩ := hd64.elim (fun q9 => q9.2) (fun q9 => absurd q9.1 (by decide))
        have ho70 : f62 h = .inr (11, [.int (zI (Z 0)), .ref (h + 1), .ref (h + 2), .ref (h + 3), .ref (h + 4), .ref (h + 5), .ref (h + 6), .ref (h + 7), .ref (h + 8), .int (zI (Z 9)), .int (zI (Z 10)), .int (zI (Z 11)), .int (zI (Z 12)), .int (zI (Z 13)), .int (zI (Z 14)), .int (zI 2), .int (zI (Z 16)), .ref (h + 9), .ref (h + 10), .ref (h + 11), .int (zI (Z 20)), .int (zI (Z 21)), .int (zI (Z 22)), .ref (h + 12)]) := hm67
        refine g_if_ne (tgt := 129) hx hb dX9_does_97 (by decide) (by decide) (fun c97 => ?_) (fun c97 => ?_)
        · skip
          refine g_iconst hx hb dX9_does_129 ?_
          have hf71 := hP.kept (fun q h1 h2 => ((o65 (q) (by omega)).trans (o2 (q) (by omega))))
          have hf72 := hsc.kept (fun q h1 h2 => ((o65 (q) (by omega)).trans (o2 (q) (by omega))))
          refine g_iret hx hb hr hlk hK hM dX9_does_130 ?_
          have hS : sRef P 0 a b x y (fl = 1) = 2 := by
            rw [rf_0]
            (repeat' split) <;> first | rfl | omega
          obtain ⟨e1, e2, e3⟩ := d_no hS (by decide)
          exact ⟨by rw [e1]; exact ho70, by rw [e2], by rw [e3]; exact hf71, hf72, (fun q hq => ((o65 (q) (by omega)).trans (o2 (q) (by omega))))⟩
        · exact absurd c97 (by decide)
      · skip
        refine lv_iload_n hx hb dX9_does_76 rfl (lv_at hl 3 rfl) ?_
        refine g_i2l hx hb dX9_does_77 hrb ?_
        refine g_lconst (z := 0) hx hb dX9_does_78 (by decide) ?_
        refine g_ldc2 (z := 2) hx hb hown (hts _ u_1241) dX9_does_79 (by decide) ?_
        have hC73 := c_X9_in l g b0 n f1 b 0 2 (rI_L hrb) (by decide) (by decide)
        refine g_callSi (As := [.long (zL b), .long (zL 0), .long (zL 2)]) (rest := [.ref h]) ⟨hx, hb, hml, hown, hts⟩ hK hM hC73 (cuS (n := 3) hts u_1240 u_1238 u_10 (by decide) u_1239 ⟨Nat.le_of_ble_eq_true rfl, Nat.le_of_ble_eq_true rfl⟩) rfl hl.1 rfl (Nat.le_of_ble_eq_true rfl) dX9_does_82 ⟨Nat.zero_le _, Nat.zero_le _⟩ (fun r82 f74 H locs hM hp75 => ?_)
        obtain ⟨rfl, rfl⟩ := hp75
        refine g_ifb_ne (tgt := 92) hx hb dX9_does_85 (by decide) (fun c85 => ?_) (fun c85 => ?_)
        · skip
          refine g_iconst hx hb dX9_does_92 ?_
          refine g_iconst hx hb dX9_does_93 ?_
          have hC76 := c_X9_refuses l g b0 n f1 h (pu Z 15 0) 0 2 hf3 hrg (pu_s _ _ _) (Or.inl rfl) (by decide)
          refine g_callVi (ci := 11) (C := RX9) (T := TX9) (N := 24) (As := [.int (zI 0), .int (zI 2)]) (rest := []) ⟨hx, hb, hml, hown, hts⟩ hK hM hC76 (cuV (n := 2) hts u_1245 u_1242 u_10 (by decide) u_1244 us_29 ⟨Nat.le_of_ble_eq_true rfl, Nat.le_of_ble_eq_true rfl⟩) ⟨by omega, by omega⟩ hf3 rfl rfl hl.1 rfl (Nat.le_of_ble_eq_true rfl) dX9_does_94 ⟨Nat.zero_le _, Nat.zero_le _⟩ (fun r94 f77 H locs hM hp78 => ?_)
          have hd79 := rf_alt hp78 (Or.inl rfl)
          obtain ⟨rfl, hm83, o81⟩ := hd79.elim (fun q9 => absurd q9.1 (by decide)) (fun q9 => q9.2)
          have ho85 : f77 h = .inr (11, [.int (zI (Z 0)), .ref (h + 1), .ref (h + 2), .ref (h + 3), .ref (h + 4), .ref (h + 5), .ref (h + 6), .ref (h + 7), .ref (h + 8), .int (zI (Z 9)), .int (zI (Z 10)), .int (zI (Z 11)), .int (zI (Z 12)), .int (zI (Z 13)), .int (zI (Z 14)), .int (zI 0), .int (zI (Z 16)), .ref (h + 9), .ref (h + 10), .ref (h + 11), .int (zI (Z 20)), .int (zI (Z 21)), .int (zI (Z 22)), .ref (h + 12)]) := hm83
          refine g_if_ne (tgt := 129) hx hb dX9_does_97 (by decide) (by decide) (fun c97 => ?_) (fun c97 => ?_)
          · exact absurd c97 (by decide)
          · skip
            refine lv_aload_n hx hb dX9_does_100 rfl (lv_at hl 0 rfl) ?_
            refine lv_aload_n hx hb dX9_does_101 rfl (lv_at hl 0 rfl) ?_
            refine g_bipush hx hb dX9_does_102 (by decide) ?_
            have hf86 := hP.kept (fun q h1 h2 => ((o81 (q) (by omega)).trans (o2 (q) (by omega))))
            have hC87 := c_X9_n l g b0 n f77 h (pu Z 15 0) M aa P 7 (7) ho85 hf86 hrg hat haa (by omega) (by omega)
            refine g_callVi (ci := 11) (C := RX9) (T := TX9) (N := 24) (As := [.int (zI 7)]) (rest := [.ref h]) ⟨hx, hb, hml, hown, hts⟩ hK hM hC87 (cuV (n := 1) hts u_1249 u_1246 u_10 (by decide) u_1248 us_30 ⟨Nat.le_of_ble_eq_true rfl, Nat.le_of_ble_eq_true rfl⟩) ⟨by omega, by omega⟩ ho85 rfl rfl hl.1 rfl (Nat.le_of_ble_eq_true rfl) dX9_does_104 ⟨Nat.zero_le _, Nat.zero_le _⟩ (fun r104 f88 H locs hM hp89 => ?_)
            obtain ⟨rfl, rfl⟩ := hp89
            refine g_bipush hx hb dX9_does_107 (by decide) ?_
            refine g_icmp_eq (tgt := 117) hx hb dX9_does_109 (by decide) ⟨by omega, by omega⟩ (by decide) (fun c109 => ?_) (fun c109 => ?_)
            · skip
              refine g_iconst hx hb dX9_does_117 ?_
              refine lv_goto (tgt := 122) hx hb dX9_does_118 (by decide) ?_
              refine g_iconst hx hb dX9_does_122 ?_
              have hC90 := c_X9_refuses l g b0 n f77 h (pu Z 15 0) 1 3 ho85 hrg (pu_s _ _ _) (Or.inr rfl) (by decide)
              refine g_callVi (ci := 11) (C := RX9) (T := TX9) (N := 24) (As := [.int (zI 1), .int (zI 3)]) (rest := []) ⟨hx, hb, hml, hown, hts⟩ hK hM hC90 (cuV (n := 2) hts u_1245 u_1242 u_10 (by decide) u_1244 us_29 ⟨Nat.le_of_ble_eq_true rfl, Nat.le_of_ble_eq_true rfl⟩) ⟨by omega, by omega⟩ ho85 rfl rfl hl.1 rfl (Nat.le_of_ble_eq_true rfl) dX9_does_123 ⟨Nat.zero_le _, Nat.zero_le _⟩ (fun r123 f91 H locs hM hp92 => ?_)
              have hd93 := rf_alt hp92 (Or.inr rfl)
              obtain ⟨rfl, hm96, o94⟩ := hd93.elim (fun q9 => q9.2) (fun q9 => absurd q9.1 (by decide))
              have ho99 : f91 h = .inr (11, [.int (zI (Z 0)), .ref (h + 1), .ref (h + 2), .ref (h + 3), .ref (h + 4), .ref (h + 5), .ref (h + 6), .ref (h + 7), .ref (h + 8), .int (zI (Z 9)), .int (zI (Z 10)), .int (zI (Z 11)), .int (zI (Z 12)), .int (zI (Z 13)), .int (zI (Z 14)), .int (zI 3), .int (zI (Z 16)), .ref (h + 9), .ref (h + 10), .ref (h + 11), .int (zI (Z 20)), .int (zI (Z 21)), .int (zI (Z 22)), .ref (h + 12)]) := hm96
              refine g_if_eq (tgt := 131) hx hb dX9_does_126 (by decide) (by decide) (fun c126 => ?_) (fun c126 => ?_)
              · exact absurd c126 (by decide)
              · skip
                refine g_iconst hx hb dX9_does_129 ?_
                have hf100 := hf86.kept (fun q h1 h2 => (o94 (q) (by omega)))
                have hf101 := hsc.kept (fun q h1 h2 => ((o94 (q) (by omega)).trans ((o81 (q) (by omega)).trans (o2 (q) (by omega)))))
                refine g_iret hx hb hr hlk hK hM dX9_does_130 ?_
                have hS : sRef P 0 a b x y (fl = 1) = 3 := by
                  rw [rf_0]
                  (repeat' split) <;> first | rfl | omega
                obtain ⟨e1, e2, e3⟩ := d_no hS (by decide)
                exact ⟨by rw [e1]; exact ho99, by rw [e2], by rw [e3]; exact hf100, hf101, (fun q hq => ((o94 (q) (by omega)).trans ((o81 (q) (by omega)).trans (o2 (q) (by omega)))))⟩
            · skip
              refine lv_iload hx hb dX9_does_112 (lv_at hl 6 rfl) ?_
              refine g_if_eq (tgt := 121) hx hb dX9_does_114 (by decide) ⟨by omega, by omega⟩ (fun c114 => ?_) (fun c114 => ?_)
              · skip
                refine g_iconst hx hb dX9_does_121 ?_
                refine g_iconst hx hb dX9_does_122 ?_
                have hC102 := c_X9_refuses l g b0 n f77 h (pu Z 15 0) 0 3 ho85 hrg (pu_s _ _ _) (Or.inl rfl) (by decide)
                refine g_callVi (ci := 11) (C := RX9) (T := TX9) (N := 24) (As := [.int (zI 0), .int (zI 3)]) (rest := []) ⟨hx, hb, hml, hown, hts⟩ hK hM hC102 (cuV (n := 2) hts u_1245 u_1242 u_10 (by decide) u_1244 us_29 ⟨Nat.le_of_ble_eq_true rfl, Nat.le_of_ble_eq_true rfl⟩) ⟨by omega, by omega⟩ ho85 rfl rfl hl.1 rfl (Nat.le_of_ble_eq_true rfl) dX9_does_123 ⟨Nat.zero_le _, Nat.zero_le _⟩ (fun r123 f103 H locs hM hp104 => ?_)
                have hd105 := rf_alt hp104 (Or.inl rfl)
                obtain ⟨rfl, hm109, o107⟩ := hd105.elim (fun q9 => absurd q9.1 (by decide)) (fun q9 => q9.2)
                have ho111 : f103 h = .inr (11, [.int (zI (Z 0)), .ref (h + 1), .ref (h + 2), .ref (h + 3), .ref (h + 4), .ref (h + 5), .ref (h + 6), .ref (h + 7), .ref (h + 8), .int (zI (Z 9)), .int (zI (Z 10)), .int (zI (Z 11)), .int (zI (Z 12)), .int (zI (Z 13)), .int (zI (Z 14)), .int (zI 0), .int (zI (Z 16)), .ref (h + 9), .ref (h + 10), .ref (h + 11), .int (zI (Z 20)), .int (zI (Z 21)), .int (zI (Z 22)), .ref (h + 12)]) := hm109
                refine g_if_eq (tgt := 131) hx hb dX9_does_126 (by decide) (by decide) (fun c126 => ?_) (fun c126 => ?_)
                · skip
                  obtain ⟨c0, hc0⟩ : ∃ q : Nat, P 7 = q := ⟨(P 7).toNat, by omega⟩
                  refine lv_aload_n hx hb dX9_does_131 rfl (lv_at hl 0 rfl) ?_
                  refine g_bipush hx hb dX9_does_132 (by decide) ?_
                  refine g_iconst hx hb dX9_does_134 ?_
                  refine g_bipush hx hb dX9_does_135 (by decide) ?_
                  refine g_iconst hx hb dX9_does_137 ?_
                  refine lv_iload_n hx hb dX9_does_138 rfl (lv_at hl 2 rfl) ?_
                  refine lv_iload_n hx hb dX9_does_139 rfl (lv_at hl 3 rfl) ?_
                  refine g_iconst hx hb dX9_does_140 ?_
                  have hf112 := hf86.kept (fun q h1 h2 => (o107 (q) (by omega)))
                  have hC113 := c_X9_row4 l g b0 n f103 h (pu Z 15 0) M aa P c0 0 a b 0 ho111 hf112 hrg hat haa hc0 (by omega) (by decide) hra hrb (by decide)
                  refine g_callVi (ci := 11) (C := RX9) (T := TX9) (N := 24) (As := [.int (zI 11), .int (zI 4), .int (zI 7), .int (zI 0), .int (zI a), .int (zI b), .int (zI 0)]) (rest := []) ⟨hx, hb, hml, hown, hts⟩ hK hM hC113 (cuV (n := 7) hts u_1253 u_1250 u_10 (by decide) u_1252 us_31 ⟨Nat.le_of_ble_eq_true rfl, Nat.le_of_ble_eq_true rfl⟩) ⟨by omega, by omega⟩ ho111 rfl rfl hl.1 rfl (Nat.le_of_ble_eq_true rfl) dX9_does_141 ⟨Nat.zero_le _, Nat.zero_le _⟩ (fun r141 f114 H locs hM hp115 => ?_)
                  obtain ⟨rfl, hn116, o117⟩ := hp115
                  obtain ⟨P1, hP1⟩ : ∃ Q : Nat → Int, Q = (pu (pu (pu (pu (pu P (11 + 4 * c0) 0) (12 + 4 * c0) a) (13 + 4 * c0) b) (14 + 4 * c0) 0) 7 (↑c0 + 1)) := ⟨_, rfl⟩
                  rw [← hP1] at hn116
                  have hf118 : f114 (h) = .inr (11, [.int (zI (Z 0)), .ref (h + 1), .ref (h + 2), .ref (h + 3), .ref (h + 4), .ref (h + 5), .ref (h + 6), .ref (h + 7), .ref (h + 8), .int (zI (Z 9)), .int (zI (Z 10)), .int (zI (Z 11)), .int (zI (Z 12)), .int (zI (Z 13)), .int (zI (Z 14)), .int (zI 0), .int (zI (Z 16)), .ref (h + 9), .ref (h + 10), .ref (h + 11), .int (zI (Z 20)), .int (zI (Z 21)), .int (zI (Z 22)), .ref (h + 12)]) := (o117 (h) (by omega)).trans ho111
                  have hf119 := hsc.kept (fun q h1 h2 => ((o117 (q) (by omega)).trans ((o107 (q) (by omega)).trans ((o81 (q) (by omega)).trans (o2 (q) (by omega))))))
                  refine g_iret hx hb hr hlk hK hM dX9_does_144 ?_
                  have hS : sRef P 0 a b x y (fl = 1) = 0 := by
                    rw [rf_0]
                    (repeat' split) <;> first | rfl | omega
                  have hF : sPf P 0 a b x y = ((↑c0 : Int), P1) := by
                    unfold sPf
                    rw [if_pos rfl, hc0, Int.toNat_natCast, hP1]
                    all_goals rfl
                  obtain ⟨e1, e2, e3⟩ := d_yes hS hF
                  exact ⟨by rw [e1]; exact hf118, by rw [e2], by rw [e3]; exact hn116, hf119, (fun q hq => ((o117 (q) (by omega)).trans ((o107 (q) (by omega)).trans ((o81 (q) (by omega)).trans (o2 (q) (by omega))))))⟩
                · exact absurd c126 (by decide)
              · skip
                refine g_iconst hx hb dX9_does_117 ?_
                refine lv_goto (tgt := 122) hx hb dX9_does_118 (by decide) ?_
                refine g_iconst hx hb dX9_does_122 ?_
                have hC120 := c_X9_refuses l g b0 n f77 h (pu Z 15 0) 1 3 ho85 hrg (pu_s _ _ _) (Or.inr rfl) (by decide)
                refine g_callVi (ci := 11) (C := RX9) (T := TX9) (N := 24) (As := [.int (zI 1), .int (zI 3)]) (rest := []) ⟨hx, hb, hml, hown, hts⟩ hK hM hC120 (cuV (n := 2) hts u_1245 u_1242 u_10 (by decide) u_1244 us_29 ⟨Nat.le_of_ble_eq_true rfl, Nat.le_of_ble_eq_true rfl⟩) ⟨by omega, by omega⟩ ho85 rfl rfl hl.1 rfl (Nat.le_of_ble_eq_true rfl) dX9_does_123 ⟨Nat.zero_le _, Nat.zero_le _⟩ (fun r123 f121 H locs hM hp122 => ?_)
                have hd123 := rf_alt hp122 (Or.inr rfl)
                obtain ⟨rfl, hm126, o124⟩ := hd123.elim (fun q9 => q9.2) (fun q9 => absurd q9.1 (by decide))
                have ho129 : f121 h = .inr (11, [.int (zI (Z 0)), .ref (h + 1), .ref (h + 2), .ref (h + 3), .ref (h + 4), .ref (h + 5), .ref (h + 6), .ref (h + 7), .ref (h + 8), .int (zI (Z 9)), .int (zI (Z 10)), .int (zI (Z 11)), .int (zI (Z 12)), .int (zI (Z 13)), .int (zI (Z 14)), .int (zI 3), .int (zI (Z 16)), .ref (h + 9), .ref (h + 10), .ref (h + 11), .int (zI (Z 20)), .int (zI (Z 21)), .int (zI (Z 22)), .ref (h + 12)]) := hm126
                refine g_if_eq (tgt := 131) hx hb dX9_does_126 (by decide) (by decide) (fun c126 => ?_) (fun c126 => ?_)
                · exact absurd c126 (by decide)
                · skip
                  refine g_iconst hx hb dX9_does_129 ?_
                  have hf130 := hf86.kept (fun q h1 h2 => (o124 (q) (by omega)))
                  have hf131 := hsc.kept (fun q h1 h2 => ((o124 (q) (by omega)).trans ((o81 (q) (by omega)).trans (o2 (q) (by omega)))))
                  refine g_iret hx hb hr hlk hK hM dX9_does_130 ?_
                  have hS : sRef P 0 a b x y (fl = 1) = 3 := by
                    rw [rf_0]
                    (repeat' split) <;> first | rfl | omega
                  obtain ⟨e1, e2, e3⟩ := d_no hS (by decide)
                  exact ⟨by rw [e1]; exact ho129, by rw [e2], by rw [e3]; exact hf130, hf131, (fun q hq => ((o124 (q) (by omega)).trans ((o81 (q) (by omega)).trans (o2 (q) (by omega)))))⟩
        · skip
          refine g_iconst hx hb dX9_does_88 ?_
          refine lv_goto (tgt := 93) hx hb dX9_does_89 (by decide) ?_
          refine g_iconst hx hb dX9_does_93 ?_
          have hC132 := c_X9_refuses l g b0 n f1 h (pu Z 15 0) 1 2 hf3 hrg (pu_s _ _ _) (Or.inr rfl) (by decide)
          refine g_callVi (ci := 11) (C := RX9) (T := TX9) (N := 24) (As := [.int (zI 1), .int (zI 2)]) (rest := []) ⟨hx, hb, hml, hown, hts⟩ hK hM hC132 (cuV (n := 2) hts u_1245 u_1242 u_10 (by decide) u_1244 us_29 ⟨Nat.le_of_ble_eq_true rfl, Nat.le_of_ble_eq_true rfl⟩) ⟨by omega, by omega⟩ hf3 rfl rfl hl.1 rfl (Nat.le_of_ble_eq_true rfl) dX9_does_94 ⟨Nat.zero_le _, Nat.zero_le _⟩ (fun r94 f133 H locs hM hp134 => ?_)
          have hd135 := rf_alt hp134 (Or.inr rfl)
          obtain ⟨rfl, hm138, o136⟩ := hd135.elim (fun q9 => q9.2) (fun q9 => absurd q9.1 (by decide))
          have ho141 : f133 h = .inr (11, [.int (zI (Z 0)), .ref (h + 1), .ref (h + 2), .ref (h + 3), .ref (h + 4), .ref (h + 5), .ref (h + 6), .ref (h + 7), .ref (h + 8), .int (zI (Z 9)), .int (zI (Z 10)), .int (zI (Z 11)), .int (zI (Z 12)), .int (zI (Z 13)), .int (zI (Z 14)), .int (zI 2), .int (zI (Z 16)), .ref (h + 9), .ref (h + 10), .ref (h + 11), .int (zI (Z 20)), .int (zI (Z 21)), .int (zI (Z 22)), .ref (h + 12)]) := hm138
          refine g_if_ne (tgt := 129) hx hb dX9_does_97 (by decide) (by decide) (fun c97 => ?_) (fun c97 => ?_)
          · skip
            refine g_iconst hx hb dX9_does_129 ?_
            have hf142 := hP.kept (fun q h1 h2 => ((o136 (q) (by omega)).trans (o2 (q) (by omega))))
            have hf143 := hsc.kept (fun q h1 h2 => ((o136 (q) (by omega)).trans (o2 (q) (by omega))))
            refine g_iret hx hb hr hlk hK hM dX9_does_130 ?_
            have hS : sRef P 0 a b x y (fl = 1) = 2 := by
              rw [rf_0]
              (repeat' split) <;> first | rfl | omega
            obtain ⟨e1, e2, e3⟩ := d_no hS (by decide)
            exact ⟨by rw [e1]; exact ho141, by rw [e2], by rw [e3]; exact hf142, hf143, (fun q hq => ((o136 (q) (by omega)).trans (o2 (q) (by omega))))⟩
          · exact absurd c97 (by decide)
    · refine lv_tableIn (off := 139) (tgt := 145) hx hb dX9_does_6 (by rw [hz6, c6]; decide) (by rw [hz6, c6]; decide) (by rw [hz6, c6]; decide) (by decide) ?_
      subst c6
      refine lv_aload_n hx hb dX9_does_145 rfl (lv_at hl 0 rfl) ?_
      refine lv_aload_n hx hb dX9_does_146 rfl (lv_at hl 0 rfl) ?_
      refine lv_iload_n hx hb dX9_does_147 rfl (lv_at hl 2 rfl) ?_
      have hf144 := hP.kept (fun q h1 h2 => (o2 (q) (by omega)))
      have hC145 := c_X9_isEnvelope l g b0 n f1 h (pu Z 15 0) M aa P a hf3 hf144 hrg hat haa hcn7 hra
      refine g_callVi (ci := 11) (C := RX9) (T := TX9) (N := 24) (As := [.int (zI a)]) (rest := [.ref h]) ⟨hx, hb, hml, hown, hts⟩ hK hM hC145 (cuV (n := 1) hts u_1265 u_1262 u_10 (by decide) u_1264 us_34 ⟨Nat.le_of_ble_eq_true rfl, Nat.le_of_ble_eq_true rfl⟩) ⟨by omega, by omega⟩ hf3 rfl rfl hl.1 rfl (Nat.le_of_ble_eq_true rfl) dX9_does_148 ⟨Nat.zero_le _, Nat.zero_le _⟩ (fun r148 f146 H locs hM hp147 => ?_)
      obtain ⟨rfl, rfl⟩ := hp147
      refine g_ifb_ne (tgt := 158) hx hb dX9_does_151 (by decide) (fun c151 => ?_) (fun c151 => ?_)
      · skip
        refine g_iconst hx hb dX9_does_158 ?_
        refine g_iconst hx hb dX9_does_159 ?_
        have hC148 := c_X9_refuses l g b0 n f1 h (pu Z 15 0) 0 1 hf3 hrg (pu_s _ _ _) (Or.inl rfl) (by decide)
        refine g_callVi (ci := 11) (C := RX9) (T := TX9) (N := 24) (As := [.int (zI 0), .int (zI 1)]) (rest := []) ⟨hx, hb, hml, hown, hts⟩ hK hM hC148 (cuV (n := 2) hts u_1245 u_1242 u_10 (by decide) u_1244 us_29 ⟨Nat.le_of_ble_eq_true rfl, Nat.le_of_ble_eq_true rfl⟩) ⟨by omega, by omega⟩ hf3 rfl rfl hl.1 rfl (Nat.le_of_ble_eq_true rfl) dX9_does_160 ⟨Nat.zero_le _, Nat.zero_le _⟩ (fun r160 f149 H locs hM hp150 => ?_)
        have hd151 := rf_alt hp150 (Or.inl rfl)
        obtain ⟨rfl, hm155, o153⟩ := hd151.elim (fun q9 => absurd q9.1 (by decide)) (fun q9 => q9.2)
        have ho157 : f149 h = .inr (11, [.int (zI (Z 0)), .ref (h + 1), .ref (h + 2), .ref (h + 3), .ref (h + 4), .ref (h + 5), .ref (h + 6), .ref (h + 7), .ref (h + 8), .int (zI (Z 9)), .int (zI (Z 10)), .int (zI (Z 11)), .int (zI (Z 12)), .int (zI (Z 13)), .int (zI (Z 14)), .int (zI 0), .int (zI (Z 16)), .ref (h + 9), .ref (h + 10), .ref (h + 11), .int (zI (Z 20)), .int (zI (Z 21)), .int (zI (Z 22)), .ref (h + 12)]) := hm155
        refine g_if_ne (tgt := 196) hx hb dX9_does_163 (by decide) (by decide) (fun c163 => ?_) (fun c163 => ?_)
        · exact absurd c163 (by decide)
        · skip
          refine lv_aload_n hx hb dX9_does_166 rfl (lv_at hl 0 rfl) ?_
          refine lv_iload_n hx hb dX9_does_167 rfl (lv_at hl 3 rfl) ?_
          have hC158 := c_X9_isCap l g b0 n f149 b hrb
          refine g_callSi (As := [.int (zI b)]) (rest := [.ref h]) ⟨hx, hb, hml, hown, hts⟩ hK hM hC158 (cuS (n := 1) hts u_1235 u_1233 u_10 (by decide) u_1234 ⟨Nat.le_of_ble_eq_true rfl, Nat.le_of_ble_eq_true rfl⟩) rfl hl.1 rfl (Nat.le_of_ble_eq_true rfl) dX9_does_168 ⟨Nat.zero_le _, Nat.zero_le _⟩ (fun r168 f159 H locs hM hp160 => ?_)
          obtain ⟨rfl, rfl⟩ := hp160
          refine g_ifb_ne (tgt := 178) hx hb dX9_does_171 (by decide) (fun c171 => ?_) (fun c171 => ?_)
          · skip
            refine g_iconst hx hb dX9_does_178 ?_
            refine g_iconst hx hb dX9_does_179 ?_
            have hC161 := c_X9_refuses l g b0 n f149 h (pu Z 15 0) 0 2 ho157 hrg (pu_s _ _ _) (Or.inl rfl) (by decide)
            refine g_callVi (ci := 11) (C := RX9) (T := TX9) (N := 24) (As := [.int (zI 0), .int (zI 2)]) (rest := []) ⟨hx, hb, hml, hown, hts⟩ hK hM hC161 (cuV (n := 2) hts u_1245 u_1242 u_10 (by decide) u_1244 us_29 ⟨Nat.le_of_ble_eq_true rfl, Nat.le_of_ble_eq_true rfl⟩) ⟨by omega, by omega⟩ ho157 rfl rfl hl.1 rfl (Nat.le_of_ble_eq_true rfl) dX9_does_180 ⟨Nat.zero_le _, Nat.zero_le _⟩ (fun r180 f162 H locs hM hp163 => ?_)
            have hd164 := rf_alt hp163 (Or.inl rfl)
            obtain ⟨rfl, hm168, o166⟩ := hd164.elim (fun q9 => absurd q9.1 (by decide)) (fun q9 => q9.2)
            have ho170 : f162 h = .inr (11, [.int (zI (Z 0)), .ref (h + 1), .ref (h + 2), .ref (h + 3), .ref (h + 4), .ref (h + 5), .ref (h + 6), .ref (h + 7), .ref (h + 8), .int (zI (Z 9)), .int (zI (Z 10)), .int (zI (Z 11)), .int (zI (Z 12)), .int (zI (Z 13)), .int (zI (Z 14)), .int (zI 0), .int (zI (Z 16)), .ref (h + 9), .ref (h + 10), .ref (h + 11), .int (zI (Z 20)), .int (zI (Z 21)), .int (zI (Z 22)), .ref (h + 12)]) := hm168
            refine g_if_ne (tgt := 196) hx hb dX9_does_183 (by decide) (by decide) (fun c183 => ?_) (fun c183 => ?_)
            · exact absurd c183 (by decide)
            · skip
              refine lv_aload_n hx hb dX9_does_186 rfl (lv_at hl 0 rfl) ?_
              refine lv_iload hx hb dX9_does_187 (lv_at hl 6 rfl) ?_
              refine g_iconst hx hb dX9_does_189 ?_
              have hC171 := c_X9_refuses l g b0 n f162 h (pu Z 15 0) fl 3 ho170 hrg (pu_s _ _ _) hfl (by decide)
              refine g_callVi (ci := 11) (C := RX9) (T := TX9) (N := 24) (As := [.int (zI fl), .int (zI 3)]) (rest := []) ⟨hx, hb, hml, hown, hts⟩ hK hM hC171 (cuV (n := 2) hts u_1245 u_1242 u_10 (by decide) u_1244 us_29 ⟨Nat.le_of_ble_eq_true rfl, Nat.le_of_ble_eq_true rfl⟩) ⟨by omega, by omega⟩ ho170 rfl rfl hl.1 rfl (Nat.le_of_ble_eq_true rfl) dX9_does_190 ⟨Nat.zero_le _, Nat.zero_le _⟩ (fun r190 f172 H locs hM hp173 => ?_)
              have hd174 := rf_alt hp173 hfl
              rcases hd174 with ⟨hq179, rfl, hm177, o175⟩ | ⟨hq179, rfl, hm178, o176⟩
              · skip
                have ho180 : f172 h = .inr (11, [.int (zI (Z 0)), .ref (h + 1), .ref (h + 2), .ref (h + 3), .ref (h + 4), .ref (h + 5), .ref (h + 6), .ref (h + 7), .ref (h + 8), .int (zI (Z 9)), .int (zI (Z 10)), .int (zI (Z 11)), .int (zI (Z 12)), .int (zI (Z 13)), .int (zI (Z 14)), .int (zI 3), .int (zI (Z 16)), .ref (h + 9), .ref (h + 10), .ref (h + 11), .int (zI (Z 20)), .int (zI (Z 21)), .int (zI (Z 22)), .ref (h + 12)]) := hm177
                refine g_if_eq (tgt := 198) hx hb dX9_does_193 (by decide) (by decide) (fun c193 => ?_) (fun c193 => ?_)
                · exact absurd c193 (by decide)
                · skip
                  refine g_iconst hx hb dX9_does_196 ?_
                  have hf181 := hf144.kept (fun q h1 h2 => ((o175 (q) (by omega)).trans ((o166 (q) (by omega)).trans (o153 (q) (by omega)))))
                  have hf182 := hsc.kept (fun q h1 h2 => ((o175 (q) (by omega)).trans ((o166 (q) (by omega)).trans ((o153 (q) (by omega)).trans (o2 (q) (by omega))))))
                  refine g_iret hx hb hr hlk hK hM dX9_does_197 ?_
                  have hS : sRef P 1 a b x y (fl = 1) = 3 := by
                    rw [rf_1]
                    (repeat' split) <;> first | rfl | omega
                  obtain ⟨e1, e2, e3⟩ := d_no hS (by decide)
                  exact ⟨by rw [e1]; exact ho180, by rw [e2], by rw [e3]; exact hf181, hf182, (fun q hq => ((o175 (q) (by omega)).trans ((o166 (q) (by omega)).trans ((o153 (q) (by omega)).trans (o2 (q) (by omega))))))⟩
              · skip
                have ho183 : f172 h = .inr (11, [.int (zI (Z 0)), .ref (h + 1), .ref (h + 2), .ref (h + 3), .ref (h + 4), .ref (h + 5), .ref (h + 6), .ref (h + 7), .ref (h + 8), .int (zI (Z 9)), .int (zI (Z 10)), .int (zI (Z 11)), .int (zI (Z 12)), .int (zI (Z 13)), .int (zI (Z 14)), .int (zI 0), .int (zI (Z 16)), .ref (h + 9), .ref (h + 10), .ref (h + 11), .int (zI (Z 20)), .int (zI (Z 21)), .int (zI (Z 22)), .ref (h + 12)]) := hm178
                refine g_if_eq (tgt := 198) hx hb dX9_does_193 (by decide) (by decide) (fun c193 => ?_) (fun c193 => ?_)
                · skip
                  refine lv_aload_n hx hb dX9_does_198 rfl (lv_at hl 0 rfl) ?_
                  refine g_bipush hx hb dX9_does_199 (by decide) ?_
                  refine g_iconst hx hb dX9_does_201 ?_
                  refine lv_iload_n hx hb dX9_does_202 rfl (lv_at hl 2 rfl) ?_
                  refine g_imul hx hb dX9_does_203 ?_
                  refine g_iadd hx hb dX9_does_204 ?_
                  refine g_iconst hx hb dX9_does_205 ?_
                  refine g_iadd hx hb dX9_does_206 ?_
                  refine lv_iload_n hx hb dX9_does_207 rfl (lv_at hl 3 rfl) ?_
                  have hf184 := hf144.kept (fun q h1 h2 => ((o176 (q) (by omega)).trans ((o166 (q) (by omega)).trans (o153 (q) (by omega)))))
                  have hC185 := c_X9_swaps l g b0 n f172 h (pu Z 15 0) M aa P ((11 + (4 * a)) + 1) (12 + 4 * a.toNat) b ho183 hf184 hrg hat haa (by omega) (by omega) hrb
                  refine g_callVi (ci := 11) (C := RX9) (T := TX9) (N := 24) (As := [.int (zI ((11 + (4 * a)) + 1)), .int (zI b)]) (rest := []) ⟨hx, hb, hml, hown, hts⟩ hK hM hC185 (cuV (n := 2) hts u_1269 u_1266 u_10 (by decide) u_1268 us_35 ⟨Nat.le_of_ble_eq_true rfl, Nat.le_of_ble_eq_true rfl⟩) ⟨by omega, by omega⟩ ho183 rfl rfl hl.1 rfl (Nat.le_of_ble_eq_true rfl) dX9_does_208 ⟨Nat.zero_le _, Nat.zero_le _⟩ (fun r208 f186 H locs hM hp187 => ?_)
                  obtain ⟨rfl, hn188, o189⟩ := hp187
                  obtain ⟨P1, hP1⟩ : ∃ Q : Nat → Int, Q = pu P (12 + 4 * a.toNat) b := ⟨_, rfl⟩
                  rw [← hP1] at hn188
                  have hf191 : f186 (h) = .inr (11, [.int (zI (Z 0)), .ref (h + 1), .ref (h + 2), .ref (h + 3), .ref (h + 4), .ref (h + 5), .ref (h + 6), .ref (h + 7), .ref (h + 8), .int (zI (Z 9)), .int (zI (Z 10)), .int (zI (Z 11)), .int (zI (Z 12)), .int (zI (Z 13)), .int (zI (Z 14)), .int (zI 0), .int (zI (Z 16)), .ref (h + 9), .ref (h + 10), .ref (h + 11), .int (zI (Z 20)), .int (zI (Z 21)), .int (zI (Z 22)), .ref (h + 12)]) := (o189 (h) (by omega)).trans ho183
                  have hf192 := hsc.kept (fun q h1 h2 => ((o189 (q) (by omega)).trans ((o176 (q) (by omega)).trans ((o166 (q) (by omega)).trans ((o153 (q) (by omega)).trans (o2 (q) (by omega)))))))
                  refine g_iret hx hb hr hlk hK hM dX9_does_211 ?_
                  have hS : sRef P 1 a b x y (fl = 1) = 0 := by
                    rw [rf_1]
                    (repeat' split) <;> first | rfl | omega
                  have hF : sPf P 1 a b x y = ((P (12 + 4 * a.toNat)), P1) := by
                    unfold sPf
                    rw [if_neg (by omega), if_pos rfl, hP1]
                  obtain ⟨e1, e2, e3⟩ := d_yes hS hF
                  exact ⟨by rw [e1]; exact hf191, by rw [e2], by rw [e3]; exact hn188, hf192, (fun q hq => ((o189 (q) (by omega)).trans ((o176 (q) (by omega)).trans ((o166 (q) (by omega)).trans ((o153 (q) (by omega)).trans (o2 (q) (by omega)))))))⟩
                · exact absurd c193 (by decide)
          · skip
            refine g_iconst hx hb dX9_does_174 ?_
            refine lv_goto (tgt := 179) hx hb dX9_does_175 (by decide) ?_
            refine g_iconst hx hb dX9_does_179 ?_
            have hC193 := c_X9_refuses l g b0 n f149 h (pu Z 15 0) 1 2 ho157 hrg (pu_s _ _ _) (Or.inr rfl) (by decide)
            refine g_callVi (ci := 11) (C := RX9) (T := TX9) (N := 24) (As := [.int (zI 1), .int (zI 2)]) (rest := []) ⟨hx, hb, hml, hown, hts⟩ hK hM hC193 (cuV (n := 2) hts u_1245 u_1242 u_10 (by decide) u_1244 us_29 ⟨Nat.le_of_ble_eq_true rfl, Nat.le_of_ble_eq_true rfl⟩) ⟨by omega, by omega⟩ ho157 rfl rfl hl.1 rfl (Nat.le_of_ble_eq_true rfl) dX9_does_180 ⟨Nat.zero_le _, Nat.zero_le _⟩ (fun r180 f194 H locs hM hp195 => ?_)
            have hd196 := rf_alt hp195 (Or.inr rfl)
            obtain ⟨rfl, hm199, o197⟩ := hd196.elim (fun q9 => q9.2) (fun q9 => absurd q9.1 (by decide))
            have ho202 : f194 h = .inr (11, [.int (zI (Z 0)), .ref (h + 1), .ref (h + 2), .ref (h + 3), .ref (h + 4), .ref (h + 5), .ref (h + 6), .ref (h + 7), .ref (h + 8), .int (zI (Z 9)), .int (zI (Z 10)), .int (zI (Z 11)), .int (zI (Z 12)), .int (zI (Z 13)), .int (zI (Z 14)), .int (zI 2), .int (zI (Z 16)), .ref (h + 9), .ref (h + 10), .ref (h + 11), .int (zI (Z 20)), .int (zI (Z 21)), .int (zI (Z 22)), .ref (h + 12)]) := hm199
            refine g_if_ne (tgt := 196) hx hb dX9_does_183 (by decide) (by decide) (fun c183 => ?_) (fun c183 => ?_)
            · skip
              refine g_iconst hx hb dX9_does_196 ?_
              have hf203 := hf144.kept (fun q h1 h2 => ((o197 (q) (by omega)).trans (o153 (q) (by omega))))
              have hf204 := hsc.kept (fun q h1 h2 => ((o197 (q) (by omega)).trans ((o153 (q) (by omega)).trans (o2 (q) (by omega)))))
              refine g_iret hx hb hr hlk hK hM dX9_does_197 ?_
              have hS : sRef P 1 a b x y (fl = 1) = 2 := by
                rw [rf_1]
                (repeat' split) <;> first | rfl | omega
              obtain ⟨e1, e2, e3⟩ := d_no hS (by decide)
              exact ⟨by rw [e1]; exact ho202, by rw [e2], by rw [e3]; exact hf203, hf204, (fun q hq => ((o197 (q) (by omega)).trans ((o153 (q) (by omega)).trans (o2 (q) (by omega)))))⟩
            · exact absurd c183 (by decide)
      · skip
        refine g_iconst hx hb dX9_does_154 ?_
        refine lv_goto (tgt := 159) hx hb dX9_does_155 (by decide) ?_
        refine g_iconst hx hb dX9_does_159 ?_
        have hC205 := c_X9_refuses l g b0 n f1 h (pu Z 15 0) 1 1 hf3 hrg (pu_s _ _ _) (Or.inr rfl) (by decide)
        refine g_callVi (ci := 11) (C := RX9) (T := TX9) (N := 24) (As := [.int (zI 1), .int (zI 1)]) (rest := []) ⟨hx, hb, hml, hown, hts⟩ hK hM hC205 (cuV (n := 2) hts u_1245 u_1242 u_10 (by decide) u_1244 us_29 ⟨Nat.le_of_ble_eq_true rfl, Nat.le_of_ble_eq_true rfl⟩) ⟨by omega, by omega⟩ hf3 rfl rfl hl.1 rfl (Nat.le_of_ble_eq_true rfl) dX9_does_160 ⟨Nat.zero_le _, Nat.zero_le _⟩ (fun r160 f206 H locs hM hp207 => ?_)
        have hd208 := rf_alt hp207 (Or.inr rfl)
        obtain ⟨rfl, hm211, o209⟩ := hd208.elim (fun q9 => q9.2) (fun q9 => absurd q9.1 (by decide))
        have ho214 : f206 h = .inr (11, [.int (zI (Z 0)), .ref (h + 1), .ref (h + 2), .ref (h + 3), .ref (h + 4), .ref (h + 5), .ref (h + 6), .ref (h + 7), .ref (h + 8), .int (zI (Z 9)), .int (zI (Z 10)), .int (zI (Z 11)), .int (zI (Z 12)), .int (zI (Z 13)), .int (zI (Z 14)), .int (zI 1), .int (zI (Z 16)), .ref (h + 9), .ref (h + 10), .ref (h + 11), .int (zI (Z 20)), .int (zI (Z 21)), .int (zI (Z 22)), .ref (h + 12)]) := hm211
        refine g_if_ne (tgt := 196) hx hb dX9_does_163 (by decide) (by decide) (fun c163 => ?_) (fun c163 => ?_)
        · skip
          refine g_iconst hx hb dX9_does_196 ?_
          have hf215 := hf144.kept (fun q h1 h2 => (o209 (q) (by omega)))
          have hf216 := hsc.kept (fun q h1 h2 => ((o209 (q) (by omega)).trans (o2 (q) (by omega))))
          refine g_iret hx hb hr hlk hK hM dX9_does_197 ?_
          have hS : sRef P 1 a b x y (fl = 1) = 1 := by
            rw [rf_1]
            (repeat' split) <;> first | rfl | omega
          obtain ⟨e1, e2, e3⟩ := d_no hS (by decide)
          exact ⟨by rw [e1]; exact ho214, by rw [e2], by rw [e3]; exact hf215, hf216, (fun q hq => ((o209 (q) (by omega)).trans (o2 (q) (by omega))))⟩
        · exact absurd c163 (by decide)
    · refine lv_tableIn (off := 206) (tgt := 212) hx hb dX9_does_6 (by rw [hz6, c6]; decide) (by rw [hz6, c6]; decide) (by rw [hz6, c6]; decide) (by decide) ?_
      subst c6
      refine lv_aload_n hx hb dX9_does_212 rfl (lv_at hl 0 rfl) ?_
      refine lv_aload_n hx hb dX9_does_213 rfl (lv_at hl 0 rfl) ?_
      refine lv_iload_n hx hb dX9_does_214 rfl (lv_at hl 2 rfl) ?_
      have hf217 := hP.kept (fun q h1 h2 => (o2 (q) (by omega)))
      have hC218 := c_X9_isEnvelope l g b0 n f1 h (pu Z 15 0) M aa P a hf3 hf217 hrg hat haa hcn7 hra
      refine g_callVi (ci := 11) (C := RX9) (T := TX9) (N := 24) (As := [.int (zI a)]) (rest := [.ref h]) ⟨hx, hb, hml, hown, hts⟩ hK hM hC218 (cuV (n := 1) hts u_1265 u_1262 u_10 (by decide) u_1264 us_34 ⟨Nat.le_of_ble_eq_true rfl, Nat.le_of_ble_eq_true rfl⟩) ⟨by omega, by omega⟩ hf3 rfl rfl hl.1 rfl (Nat.le_of_ble_eq_true rfl) dX9_does_215 ⟨Nat.zero_le _, Nat.zero_le _⟩ (fun r215 f219 H locs hM hp220 => ?_)
      obtain ⟨rfl, rfl⟩ := hp220
      refine g_ifb_ne (tgt := 225) hx hb dX9_does_218 (by decide) (fun c218 => ?_) (fun c218 => ?_)
      · skip
        refine g_iconst hx hb dX9_does_225 ?_
        refine g_iconst hx hb dX9_does_226 ?_
        have hC221 := c_X9_refuses l g b0 n f1 h (pu Z 15 0) 0 1 hf3 hrg (pu_s _ _ _) (Or.inl rfl) (by decide)
        refine g_callVi (ci := 11) (C := RX9) (T := TX9) (N := 24) (As := [.int (zI 0), .int (zI 1)]) (rest := []) ⟨hx, hb, hml, hown, hts⟩ hK hM hC221 (cuV (n := 2) hts u_1245 u_1242 u_10 (by decide) u_1244 us_29 ⟨Nat.le_of_ble_eq_true rfl, Nat.le_of_ble_eq_true rfl⟩) ⟨by omega, by omega⟩ hf3 rfl rfl hl.1 rfl (Nat.le_of_ble_eq_true rfl) dX9_does_227 ⟨Nat.zero_le _, Nat.zero_le _⟩ (fun r227 f222 H locs hM hp223 => ?_)
        have hd224 := rf_alt hp223 (Or.inl rfl)
        obtain ⟨rfl, hm228, o226⟩ := hd224.elim (fun q9 => absurd q9.1 (by decide)) (fun q9 => q9.2)
        have ho230 : f222 h = .inr (11, [.int (zI (Z 0)), .ref (h + 1), .ref (h + 2), .ref (h + 3), .ref (h + 4), .ref (h + 5), .ref (h + 6), .ref (h + 7), .ref (h + 8), .int (zI (Z 9)), .int (zI (Z 10)), .int (zI (Z 11)), .int (zI (Z 12)), .int (zI (Z 13)), .int (zI (Z 14)), .int (zI 0), .int (zI (Z 16)), .ref (h + 9), .ref (h + 10), .ref (h + 11), .int (zI (Z 20)), .int (zI (Z 21)), .int (zI (Z 22)), .ref (h + 12)]) := hm228
        refine g_if_ne (tgt := 268) hx hb dX9_does_230 (by decide) (by decide) (fun c230 => ?_) (fun c230 => ?_)
        · exact absurd c230 (by decide)
        · skip
          refine lv_aload_n hx hb dX9_does_233 rfl (lv_at hl 0 rfl) ?_
          refine lv_iload_n hx hb dX9_does_234 rfl (lv_at hl 3 rfl) ?_
          refine g_i2l hx hb dX9_does_235 hrb ?_
          refine g_lconst (z := 0) hx hb dX9_does_236 (by decide) ?_
          refine g_ldc2 (z := 2) hx hb hown (hts _ u_1241) dX9_does_237 (by decide) ?_
          have hC231 := c_X9_in l g b0 n f222 b 0 2 (rI_L hrb) (by decide) (by decide)
          refine g_callSi (As := [.long (zL b), .long (zL 0), .long (zL 2)]) (rest := [.ref h]) ⟨hx, hb, hml, hown, hts⟩ hK hM hC231 (cuS (n := 3) hts u_1240 u_1238 u_10 (by decide) u_1239 ⟨Nat.le_of_ble_eq_true rfl, Nat.le_of_ble_eq_true rfl⟩) rfl hl.1 rfl (Nat.le_of_ble_eq_true rfl) dX9_does_240 ⟨Nat.zero_le _, Nat.zero_le _⟩ (fun r240 f232 H locs hM hp233 => ?_)
          obtain ⟨rfl, rfl⟩ := hp233
          refine g_ifb_ne (tgt := 250) hx hb dX9_does_243 (by decide) (fun c243 => ?_) (fun c243 => ?_)
          · skip
            refine g_iconst hx hb dX9_does_250 ?_
            refine g_iconst hx hb dX9_does_251 ?_
            have hC234 := c_X9_refuses l g b0 n f222 h (pu Z 15 0) 0 2 ho230 hrg (pu_s _ _ _) (Or.inl rfl) (by decide)
            refine g_callVi (ci := 11) (C := RX9) (T := TX9) (N := 24) (As := [.int (zI 0), .int (zI 2)]) (rest := []) ⟨hx, hb, hml, hown, hts⟩ hK hM hC234 (cuV (n := 2) hts u_1245 u_1242 u_10 (by decide) u_1244 us_29 ⟨Nat.le_of_ble_eq_true rfl, Nat.le_of_ble_eq_true rfl⟩) ⟨by omega, by omega⟩ ho230 rfl rfl hl.1 rfl (Nat.le_of_ble_eq_true rfl) dX9_does_252 ⟨Nat.zero_le _, Nat.zero_le _⟩ (fun r252 f235 H locs hM hp236 => ?_)
            have hd237 := rf_alt hp236 (Or.inl rfl)
            obtain ⟨rfl, hm241, o239⟩ := hd237.elim (fun q9 => absurd q9.1 (by decide)) (fun q9 => q9.2)
            have ho243 : f235 h = .inr (11, [.int (zI (Z 0)), .ref (h + 1), .ref (h + 2), .ref (h + 3), .ref (h + 4), .ref (h + 5), .ref (h + 6), .ref (h + 7), .ref (h + 8), .int (zI (Z 9)), .int (zI (Z 10)), .int (zI (Z 11)), .int (zI (Z 12)), .int (zI (Z 13)), .int (zI (Z 14)), .int (zI 0), .int (zI (Z 16)), .ref (h + 9), .ref (h + 10), .ref (h + 11), .int (zI (Z 20)), .int (zI (Z 21)), .int (zI (Z 22)), .ref (h + 12)]) := hm241
            refine g_if_ne (tgt := 268) hx hb dX9_does_255 (by decide) (by decide) (fun c255 => ?_) (fun c255 => ?_)
            · exact absurd c255 (by decide)
            · skip
              refine lv_aload_n hx hb dX9_does_258 rfl (lv_at hl 0 rfl) ?_
              refine lv_iload hx hb dX9_does_259 (lv_at hl 6 rfl) ?_
              refine g_iconst hx hb dX9_does_261 ?_
              have hC244 := c_X9_refuses l g b0 n f235 h (pu Z 15 0) fl 3 ho243 hrg (pu_s _ _ _) hfl (by decide)
              refine g_callVi (ci := 11) (C := RX9) (T := TX9) (N := 24) (As := [.int (zI fl), .int (zI 3)]) (rest := []) ⟨hx, hb, hml, hown, hts⟩ hK hM hC244 (cuV (n := 2) hts u_1245 u_1242 u_10 (by decide) u_1244 us_29 ⟨Nat.le_of_ble_eq_true rfl, Nat.le_of_ble_eq_true rfl⟩) ⟨by omega, by omega⟩ ho243 rfl rfl hl.1 rfl (Nat.le_of_ble_eq_true rfl) dX9_does_262 ⟨Nat.zero_le _, Nat.zero_le _⟩ (fun r262 f245 H locs hM hp246 => ?_)
              have hd247 := rf_alt hp246 hfl
              rcases hd247 with ⟨hq252, rfl, hm250, o248⟩ | ⟨hq252, rfl, hm251, o249⟩
              · skip
                have ho253 : f245 h = .inr (11, [.int (zI (Z 0)), .ref (h + 1), .ref (h + 2), .ref (h + 3), .ref (h + 4), .ref (h + 5), .ref (h + 6), .ref (h + 7), .ref (h + 8), .int (zI (Z 9)), .int (zI (Z 10)), .int (zI (Z 11)), .int (zI (Z 12)), .int (zI (Z 13)), .int (zI (Z 14)), .int (zI 3), .int (zI (Z 16)), .ref (h + 9), .ref (h + 10), .ref (h + 11), .int (zI (Z 20)), .int (zI (Z 21)), .int (zI (Z 22)), .ref (h + 12)]) := hm250
                refine g_if_eq (tgt := 270) hx hb dX9_does_265 (by decide) (by decide) (fun c265 => ?_) (fun c265 => ?_)
                · exact absurd c265 (by decide)
                · skip
                  refine g_iconst hx hb dX9_does_268 ?_
                  have hf254 := hf217.kept (fun q h1 h2 => ((o248 (q) (by omega)).trans ((o239 (q) (by omega)).trans (o226 (q) (by omega)))))
                  have hf255 := hsc.kept (fun q h1 h2 => ((o248 (q) (by omega)).trans ((o239 (q) (by omega)).trans ((o226 (q) (by omega)).trans (o2 (q) (by omega))))))
                  refine g_iret hx hb hr hlk hK hM dX9_does_269 ?_
                  have hS : sRef P 2 a b x y (fl = 1) = 3 := by
                    rw [rf_2]
                    (repeat' split) <;> first | rfl | omega
                  obtain ⟨e1, e2, e3⟩ := d_no hS (by decide)
                  exact ⟨by rw [e1]; exact ho253, by rw [e2], by rw [e3]; exact hf254, hf255, (fun q hq => ((o248 (q) (by omega)).trans ((o239 (q) (by omega)).trans ((o226 (q) (by omega)).trans (o2 (q) (by omega))))))⟩
              · skip
                have ho256 : f245 h = .inr (11, [.int (zI (Z 0)), .ref (h + 1), .ref (h + 2), .ref (h + 3), .ref (h + 4), .ref (h + 5), .ref (h + 6), .ref (h + 7), .ref (h + 8), .int (zI (Z 9)), .int (zI (Z 10)), .int (zI (Z 11)), .int (zI (Z 12)), .int (zI (Z 13)), .int (zI (Z 14)), .int (zI 0), .int (zI (Z 16)), .ref (h + 9), .ref (h + 10), .ref (h + 11), .int (zI (Z 20)), .int (zI (Z 21)), .int (zI (Z 22)), .ref (h + 12)]) := hm251
                refine g_if_eq (tgt := 270) hx hb dX9_does_265 (by decide) (by decide) (fun c265 => ?_) (fun c265 => ?_)
                · skip
                  refine lv_aload_n hx hb dX9_does_270 rfl (lv_at hl 0 rfl) ?_
                  refine g_bipush hx hb dX9_does_271 (by decide) ?_
                  refine g_iconst hx hb dX9_does_273 ?_
                  refine lv_iload_n hx hb dX9_does_274 rfl (lv_at hl 2 rfl) ?_
                  refine g_imul hx hb dX9_does_275 ?_
                  refine g_iadd hx hb dX9_does_276 ?_
                  refine g_iconst hx hb dX9_does_277 ?_
                  refine g_iadd hx hb dX9_does_278 ?_
                  refine lv_iload_n hx hb dX9_does_279 rfl (lv_at hl 3 rfl) ?_
                  have hf257 := hf217.kept (fun q h1 h2 => ((o249 (q) (by omega)).trans ((o239 (q) (by omega)).trans (o226 (q) (by omega)))))
                  have hC258 := c_X9_swaps l g b0 n f245 h (pu Z 15 0) M aa P ((11 + (4 * a)) + 2) (13 + 4 * a.toNat) b ho256 hf257 hrg hat haa (by omega) (by omega) hrb
                  refine g_callVi (ci := 11) (C := RX9) (T := TX9) (N := 24) (As := [.int (zI ((11 + (4 * a)) + 2)), .int (zI b)]) (rest := []) ⟨hx, hb, hml, hown, hts⟩ hK hM hC258 (cuV (n := 2) hts u_1269 u_1266 u_10 (by decide) u_1268 us_35 ⟨Nat.le_of_ble_eq_true rfl, Nat.le_of_ble_eq_true rfl⟩) ⟨by omega, by omega⟩ ho256 rfl rfl hl.1 rfl (Nat.le_of_ble_eq_true rfl) dX9_does_280 ⟨Nat.zero_le _, Nat.zero_le _⟩ (fun r280 f259 H locs hM hp260 => ?_)
                  obtain ⟨rfl, hn261, o262⟩ := hp260
                  obtain ⟨P1, hP1⟩ : ∃ Q : Nat → Int, Q = pu P (13 + 4 * a.toNat) b := ⟨_, rfl⟩
                  rw [← hP1] at hn261
                  have hf264 : f259 (h) = .inr (11, [.int (zI (Z 0)), .ref (h + 1), .ref (h + 2), .ref (h + 3), .ref (h + 4), .ref (h + 5), .ref (h + 6), .ref (h + 7), .ref (h + 8), .int (zI (Z 9)), .int (zI (Z 10)), .int (zI (Z 11)), .int (zI (Z 12)), .int (zI (Z 13)), .int (zI (Z 14)), .int (zI 0), .int (zI (Z 16)), .ref (h + 9), .ref (h + 10), .ref (h + 11), .int (zI (Z 20)), .int (zI (Z 21)), .int (zI (Z 22)), .ref (h + 12)]) := (o262 (h) (by omega)).trans ho256
                  have hf265 := hsc.kept (fun q h1 h2 => ((o262 (q) (by omega)).trans ((o249 (q) (by omega)).trans ((o239 (q) (by omega)).trans ((o226 (q) (by omega)).trans (o2 (q) (by omega)))))))
                  refine g_iret hx hb hr hlk hK hM dX9_does_283 ?_
                  have hS : sRef P 2 a b x y (fl = 1) = 0 := by
                    rw [rf_2]
                    (repeat' split) <;> first | rfl | omega
                  have hF : sPf P 2 a b x y = ((P (13 + 4 * a.toNat)), P1) := by
                    unfold sPf
                    rw [if_neg (by omega), if_neg (by omega), if_pos rfl, hP1]
                  obtain ⟨e1, e2, e3⟩ := d_yes hS hF
                  exact ⟨by rw [e1]; exact hf264, by rw [e2], by rw [e3]; exact hn261, hf265, (fun q hq => ((o262 (q) (by omega)).trans ((o249 (q) (by omega)).trans ((o239 (q) (by omega)).trans ((o226 (q) (by omega)).trans (o2 (q) (by omega)))))))⟩
                · exact absurd c265 (by decide)
          · skip
            refine g_iconst hx hb dX9_does_246 ?_
            refine lv_goto (tgt := 251) hx hb dX9_does_247 (by decide) ?_
            refine g_iconst hx hb dX9_does_251 ?_
            have hC266 := c_X9_refuses l g b0 n f222 h (pu Z 15 0) 1 2 ho230 hrg (pu_s _ _ _) (Or.inr rfl) (by decide)
            refine g_callVi (ci := 11) (C := RX9) (T := TX9) (N := 24) (As := [.int (zI 1), .int (zI 2)]) (rest := []) ⟨hx, hb, hml, hown, hts⟩ hK hM hC266 (cuV (n := 2) hts u_1245 u_1242 u_10 (by decide) u_1244 us_29 ⟨Nat.le_of_ble_eq_true rfl, Nat.le_of_ble_eq_true rfl⟩) ⟨by omega, by omega⟩ ho230 rfl rfl hl.1 rfl (Nat.le_of_ble_eq_true rfl) dX9_does_252 ⟨Nat.zero_le _, Nat.zero_le _⟩ (fun r252 f267 H locs hM hp268 => ?_)
            have hd269 := rf_alt hp268 (Or.inr rfl)
            obtain ⟨rfl, hm272, o270⟩ := hd269.elim (fun q9 => q9.2) (fun q9 => absurd q9.1 (by decide))
            have ho275 : f267 h = .inr (11, [.int (zI (Z 0)), .ref (h + 1), .ref (h + 2), .ref (h + 3), .ref (h + 4), .ref (h + 5), .ref (h + 6), .ref (h + 7), .ref (h + 8), .int (zI (Z 9)), .int (zI (Z 10)), .int (zI (Z 11)), .int (zI (Z 12)), .int (zI (Z 13)), .int (zI (Z 14)), .int (zI 2), .int (zI (Z 16)), .ref (h + 9), .ref (h + 10), .ref (h + 11), .int (zI (Z 20)), .int (zI (Z 21)), .int (zI (Z 22)), .ref (h + 12)]) := hm272
            refine g_if_ne (tgt := 268) hx hb dX9_does_255 (by decide) (by decide) (fun c255 => ?_) (fun c255 => ?_)
            · skip
              refine g_iconst hx hb dX9_does_268 ?_
              have hf276 := hf217.kept (fun q h1 h2 => ((o270 (q) (by omega)).trans (o226 (q) (by omega))))
              have hf277 := hsc.kept (fun q h1 h2 => ((o270 (q) (by omega)).trans ((o226 (q) (by omega)).trans (o2 (q) (by omega)))))
              refine g_iret hx hb hr hlk hK hM dX9_does_269 ?_
              have hS : sRef P 2 a b x y (fl = 1) = 2 := by
                rw [rf_2]
                (repeat' split) <;> first | rfl | omega
              obtain ⟨e1, e2, e3⟩ := d_no hS (by decide)
              exact ⟨by rw [e1]; exact ho275, by rw [e2], by rw [e3]; exact hf276, hf277, (fun q hq => ((o270 (q) (by omega)).trans ((o226 (q) (by omega)).trans (o2 (q) (by omega)))))⟩
            · exact absurd c255 (by decide)
      · skip
        refine g_iconst hx hb dX9_does_221 ?_
        refine lv_goto (tgt := 226) hx hb dX9_does_222 (by decide) ?_
        refine g_iconst hx hb dX9_does_226 ?_
        have hC278 := c_X9_refuses l g b0 n f1 h (pu Z 15 0) 1 1 hf3 hrg (pu_s _ _ _) (Or.inr rfl) (by decide)
        refine g_callVi (ci := 11) (C := RX9) (T := TX9) (N := 24) (As := [.int (zI 1), .int (zI 1)]) (rest := []) ⟨hx, hb, hml, hown, hts⟩ hK hM hC278 (cuV (n := 2) hts u_1245 u_1242 u_10 (by decide) u_1244 us_29 ⟨Nat.le_of_ble_eq_true rfl, Nat.le_of_ble_eq_true rfl⟩) ⟨by omega, by omega⟩ hf3 rfl rfl hl.1 rfl (Nat.le_of_ble_eq_true rfl) dX9_does_227 ⟨Nat.zero_le _, Nat.zero_le _⟩ (fun r227 f279 H locs hM hp280 => ?_)
        have hd281 := rf_alt hp280 (Or.inr rfl)
        obtain ⟨rfl, hm284, o282⟩ := hd281.elim (fun q9 => q9.2) (fun q9 => absurd q9.1 (by decide))
        have ho287 : f279 h = .inr (11, [.int (zI (Z 0)), .ref (h + 1), .ref (h + 2), .ref (h + 3), .ref (h + 4), .ref (h + 5), .ref (h + 6), .ref (h + 7), .ref (h + 8), .int (zI (Z 9)), .int (zI (Z 10)), .int (zI (Z 11)), .int (zI (Z 12)), .int (zI (Z 13)), .int (zI (Z 14)), .int (zI 1), .int (zI (Z 16)), .ref (h + 9), .ref (h + 10), .ref (h + 11), .int (zI (Z 20)), .int (zI (Z 21)), .int (zI (Z 22)), .ref (h + 12)]) := hm284
        refine g_if_ne (tgt := 268) hx hb dX9_does_230 (by decide) (by decide) (fun c230 => ?_) (fun c230 => ?_)
        · skip
          refine g_iconst hx hb dX9_does_268 ?_
          have hf288 := hf217.kept (fun q h1 h2 => (o282 (q) (by omega)))
          have hf289 := hsc.kept (fun q h1 h2 => ((o282 (q) (by omega)).trans (o2 (q) (by omega))))
          refine g_iret hx hb hr hlk hK hM dX9_does_269 ?_
          have hS : sRef P 2 a b x y (fl = 1) = 1 := by
            rw [rf_2]
            (repeat' split) <;> first | rfl | omega
          obtain ⟨e1, e2, e3⟩ := d_no hS (by decide)
          exact ⟨by rw [e1]; exact ho287, by rw [e2], by rw [e3]; exact hf288, hf289, (fun q hq => ((o282 (q) (by omega)).trans (o2 (q) (by omega))))⟩
        · exact absurd c230 (by decide)
    · refine lv_tableIn (off := 278) (tgt := 284) hx hb dX9_does_6 (by rw [hz6, c6]; decide) (by rw [hz6, c6]; decide) (by rw [hz6, c6]; decide) (by decide) ?_
      subst c6
      refine lv_aload_n hx hb dX9_does_284 rfl (lv_at hl 0 rfl) ?_
      refine lv_aload_n hx hb dX9_does_285 rfl (lv_at hl 0 rfl) ?_
      refine lv_iload_n hx hb dX9_does_286 rfl (lv_at hl 3 rfl) ?_
      have hf290 := hP.kept (fun q h1 h2 => (o2 (q) (by omega)))
      have hC291 := c_X9_isEnvelope l g b0 n f1 h (pu Z 15 0) M aa P b hf3 hf290 hrg hat haa hcn7 hrb
      refine g_callVi (ci := 11) (C := RX9) (T := TX9) (N := 24) (As := [.int (zI b)]) (rest := [.ref h]) ⟨hx, hb, hml, hown, hts⟩ hK hM hC291 (cuV (n := 1) hts u_1265 u_1262 u_10 (by decide) u_1264 us_34 ⟨Nat.le_of_ble_eq_true rfl, Nat.le_of_ble_eq_true rfl⟩) ⟨by omega, by omega⟩ hf3 rfl rfl hl.1 rfl (Nat.le_of_ble_eq_true rfl) dX9_does_287 ⟨Nat.zero_le _, Nat.zero_le _⟩ (fun r287 f292 H locs hM hp293 => ?_)
      obtain ⟨rfl, rfl⟩ := hp293
      refine g_ifb_ne (tgt := 297) hx hb dX9_does_290 (by decide) (fun c290 => ?_) (fun c290 => ?_)
      · skip
        refine g_iconst hx hb dX9_does_297 ?_
        refine g_iconst hx hb dX9_does_298 ?_
        have hC294 := c_X9_refuses l g b0 n f1 h (pu Z 15 0) 0 1 hf3 hrg (pu_s _ _ _) (Or.inl rfl) (by decide)
        refine g_callVi (ci := 11) (C := RX9) (T := TX9) (N := 24) (As := [.int (zI 0), .int (zI 1)]) (rest := []) ⟨hx, hb, hml, hown, hts⟩ hK hM hC294 (cuV (n := 2) hts u_1245 u_1242 u_10 (by decide) u_1244 us_29 ⟨Nat.le_of_ble_eq_true rfl, Nat.le_of_ble_eq_true rfl⟩) ⟨by omega, by omega⟩ hf3 rfl rfl hl.1 rfl (Nat.le_of_ble_eq_true rfl) dX9_does_299 ⟨Nat.zero_le _, Nat.zero_le _⟩ (fun r299 f295 H locs hM hp296 => ?_)
        have hd297 := rf_alt hp296 (Or.inl rfl)
        obtain ⟨rfl, hm301, o299⟩ := hd297.elim (fun q9 => absurd q9.1 (by decide)) (fun q9 => q9.2)
        have ho303 : f295 h = .inr (11, [.int (zI (Z 0)), .ref (h + 1), .ref (h + 2), .ref (h + 3), .ref (h + 4), .ref (h + 5), .ref (h + 6), .ref (h + 7), .ref (h + 8), .int (zI (Z 9)), .int (zI (Z 10)), .int (zI (Z 11)), .int (zI (Z 12)), .int (zI (Z 13)), .int (zI (Z 14)), .int (zI 0), .int (zI (Z 16)), .ref (h + 9), .ref (h + 10), .ref (h + 11), .int (zI (Z 20)), .int (zI (Z 21)), .int (zI (Z 22)), .ref (h + 12)]) := hm301
        refine g_if_ne (tgt := 356) hx hb dX9_does_302 (by decide) (by decide) (fun c302 => ?_) (fun c302 => ?_)
        · exact absurd c302 (by decide)
        · skip
          refine lv_aload_n hx hb dX9_does_305 rfl (lv_at hl 0 rfl) ?_
          refine lv_iload_n hx hb dX9_does_306 rfl (lv_at hl 2 rfl) ?_
          refine lv_iload hx hb dX9_does_307 (lv_at hl 4 rfl) ?_
          have hC304 := c_X9_isNumber l g b0 n f295 a x hra hrx
          refine g_callSi (As := [.int (zI a), .int (zI x)]) (rest := [.ref h]) ⟨hx, hb, hml, hown, hts⟩ hK hM hC304 (cuS (n := 2) hts u_1272 u_1270 u_10 (by decide) u_1271 ⟨Nat.le_of_ble_eq_true rfl, Nat.le_of_ble_eq_true rfl⟩) rfl hl.1 rfl (Nat.le_of_ble_eq_true rfl) dX9_does_309 ⟨Nat.zero_le _, Nat.zero_le _⟩ (fun r309 f305 H locs hM hp306 => ?_)
          obtain ⟨rfl, rfl⟩ := hp306
          refine g_ifb_ne (tgt := 319) hx hb dX9_does_312 (by decide) (fun c312 => ?_) (fun c312 => ?_)
          · skip
            refine g_iconst hx hb dX9_does_319 ?_
            refine g_iconst hx hb dX9_does_320 ?_
            have hC307 := c_X9_refuses l g b0 n f295 h (pu Z 15 0) 0 2 ho303 hrg (pu_s _ _ _) (Or.inl rfl) (by decide)
            refine g_callVi (ci := 11) (C := RX9) (T := TX9) (N := 24) (As := [.int (zI 0), .int (zI 2)]) (rest := []) ⟨hx, hb, hml, hown, hts⟩ hK hM hC307 (cuV (n := 2) hts u_1245 u_1242 u_10 (by decide) u_1244 us_29 ⟨Nat.le_of_ble_eq_true rfl, Nat.le_of_ble_eq_true rfl⟩) ⟨by omega, by omega⟩ ho303 rfl rfl hl.1 rfl (Nat.le_of_ble_eq_true rfl) dX9_does_321 ⟨Nat.zero_le _, Nat.zero_le _⟩ (fun r321 f308 H locs hM hp309 => ?_)
            have hd310 := rf_alt hp309 (Or.inl rfl)
            obtain ⟨rfl, hm314, o312⟩ := hd310.elim (fun q9 => absurd q9.1 (by decide)) (fun q9 => q9.2)
            have ho316 : f308 h = .inr (11, [.int (zI (Z 0)), .ref (h + 1), .ref (h + 2), .ref (h + 3), .ref (h + 4), .ref (h + 5), .ref (h + 6), .ref (h + 7), .ref (h + 8), .int (zI (Z 9)), .int (zI (Z 10)), .int (zI (Z 11)), .int (zI (Z 12)), .int (zI (Z 13)), .int (zI (Z 14)), .int (zI 0), .int (zI (Z 16)), .ref (h + 9), .ref (h + 10), .ref (h + 11), .int (zI (Z 20)), .int (zI (Z 21)), .int (zI (Z 22)), .ref (h + 12)]) := hm314
            refine g_if_ne (tgt := 356) hx hb dX9_does_324 (by decide) (by decide) (fun c324 => ?_) (fun c324 => ?_)
            · exact absurd c324 (by decide)
            · skip
              refine lv_aload_n hx hb dX9_does_327 rfl (lv_at hl 0 rfl) ?_
              refine lv_aload_n hx hb dX9_does_328 rfl (lv_at hl 0 rfl) ?_
              refine g_bipush hx hb dX9_does_329 (by decide) ?_
              have hf317 := hf290.kept (fun q h1 h2 => ((o312 (q) (by omega)).trans (o299 (q) (by omega))))
              have hC318 := c_X9_n l g b0 n f308 h (pu Z 15 0) M aa P 8 (8) ho316 hf317 hrg hat haa (by omega) (by omega)
              refine g_callVi (ci := 11) (C := RX9) (T := TX9) (N := 24) (As := [.int (zI 8)]) (rest := [.ref h]) ⟨hx, hb, hml, hown, hts⟩ hK hM hC318 (cuV (n := 1) hts u_1249 u_1246 u_10 (by decide) u_1248 us_30 ⟨Nat.le_of_ble_eq_true rfl, Nat.le_of_ble_eq_true rfl⟩) ⟨by omega, by omega⟩ ho316 rfl rfl hl.1 rfl (Nat.le_of_ble_eq_true rfl) dX9_does_331 ⟨Nat.zero_le _, Nat.zero_le _⟩ (fun r331 f319 H locs hM hp320 => ?_)
              obtain ⟨rfl, rfl⟩ := hp320
              refine g_bipush hx hb dX9_does_334 (by decide) ?_
              refine g_icmp_eq (tgt := 344) hx hb dX9_does_336 (by decide) ⟨by omega, by omega⟩ (by decide) (fun c336 => ?_) (fun c336 => ?_)
              · skip
                refine g_iconst hx hb dX9_does_344 ?_
                refine lv_goto (tgt := 349) hx hb dX9_does_345 (by decide) ?_
                refine g_iconst hx hb dX9_does_349 ?_
                have hC321 := c_X9_refuses l g b0 n f308 h (pu Z 15 0) 1 3 ho316 hrg (pu_s _ _ _) (Or.inr rfl) (by decide)
                refine g_callVi (ci := 11) (C := RX9) (T := TX9) (N := 24) (As := [.int (zI 1), .int (zI 3)]) (rest := []) ⟨hx, hb, hml, hown, hts⟩ hK hM hC321 (cuV (n := 2) hts u_1245 u_1242 u_10 (by decide) u_1244 us_29 ⟨Nat.le_of_ble_eq_true rfl, Nat.le_of_ble_eq_true rfl⟩) ⟨by omega, by omega⟩ ho316 rfl rfl hl.1 rfl (Nat.le_of_ble_eq_true rfl) dX9_does_350 ⟨Nat.zero_le _, Nat.zero_le _⟩ (fun r350 f322 H locs hM hp323 => ?_)
                have hd324 := rf_alt hp323 (Or.inr rfl)
                obtain ⟨rfl, hm327, o325⟩ := hd324.elim (fun q9 => q9.2) (fun q9 => absurd q9.1 (by decide))
                have ho330 : f322 h = .inr (11, [.int (zI (Z 0)), .ref (h + 1), .ref (h + 2), .ref (h + 3), .ref (h + 4), .ref (h + 5), .ref (h + 6), .ref (h + 7), .ref (h + 8), .int (zI (Z 9)), .int (zI (Z 10)), .int (zI (Z 11)), .int (zI (Z 12)), .int (zI (Z 13)), .int (zI (Z 14)), .int (zI 3), .int (zI (Z 16)), .ref (h + 9), .ref (h + 10), .ref (h + 11), .int (zI (Z 20)), .int (zI (Z 21)), .int (zI (Z 22)), .ref (h + 12)]) := hm327
                refine g_if_eq (tgt := 358) hx hb dX9_does_353 (by decide) (by decide) (fun c353 => ?_) (fun c353 => ?_)
                · exact absurd c353 (by decide)
                · skip
                  refine g_iconst hx hb dX9_does_356 ?_
                  have hf331 := hf317.kept (fun q h1 h2 => (o325 (q) (by omega)))
                  have hf332 := hsc.kept (fun q h1 h2 => ((o325 (q) (by omega)).trans ((o312 (q) (by omega)).trans ((o299 (q) (by omega)).trans (o2 (q) (by omega))))))
                  refine g_iret hx hb hr hlk hK hM dX9_does_357 ?_
                  have hS : sRef P 3 a b x y (fl = 1) = 3 := by
                    rw [rf_3]
                    (repeat' split) <;> first | rfl | omega
                  obtain ⟨e1, e2, e3⟩ := d_no hS (by decide)
                  exact ⟨by rw [e1]; exact ho330, by rw [e2], by rw [e3]; exact hf331, hf332, (fun q hq => ((o325 (q) (by omega)).trans ((o312 (q) (by omega)).trans ((o299 (q) (by omega)).trans (o2 (q) (by omega))))))⟩
              · skip
                refine lv_iload hx hb dX9_does_339 (lv_at hl 6 rfl) ?_
                refine g_if_eq (tgt := 348) hx hb dX9_does_341 (by decide) ⟨by omega, by omega⟩ (fun c341 => ?_) (fun c341 => ?_)
                · skip
                  refine g_iconst hx hb dX9_does_348 ?_
                  refine g_iconst hx hb dX9_does_349 ?_
                  have hC333 := c_X9_refuses l g b0 n f308 h (pu Z 15 0) 0 3 ho316 hrg (pu_s _ _ _) (Or.inl rfl) (by decide)
                  refine g_callVi (ci := 11) (C := RX9) (T := TX9) (N := 24) (As := [.int (zI 0), .int (zI 3)]) (rest := []) ⟨hx, hb, hml, hown, hts⟩ hK hM hC333 (cuV (n := 2) hts u_1245 u_1242 u_10 (by decide) u_1244 us_29 ⟨Nat.le_of_ble_eq_true rfl, Nat.le_of_ble_eq_true rfl⟩) ⟨by omega, by omega⟩ ho316 rfl rfl hl.1 rfl (Nat.le_of_ble_eq_true rfl) dX9_does_350 ⟨Nat.zero_le _, Nat.zero_le _⟩ (fun r350 f334 H locs hM hp335 => ?_)
                  have hd336 := rf_alt hp335 (Or.inl rfl)
                  obtain ⟨rfl, hm340, o338⟩ := hd336.elim (fun q9 => absurd q9.1 (by decide)) (fun q9 => q9.2)
                  have ho342 : f334 h = .inr (11, [.int (zI (Z 0)), .ref (h + 1), .ref (h + 2), .ref (h + 3), .ref (h + 4), .ref (h + 5), .ref (h + 6), .ref (h + 7), .ref (h + 8), .int (zI (Z 9)), .int (zI (Z 10)), .int (zI (Z 11)), .int (zI (Z 12)), .int (zI (Z 13)), .int (zI (Z 14)), .int (zI 0), .int (zI (Z 16)), .ref (h + 9), .ref (h + 10), .ref (h + 11), .int (zI (Z 20)), .int (zI (Z 21)), .int (zI (Z 22)), .ref (h + 12)]) := hm340
                  refine g_if_eq (tgt := 358) hx hb dX9_does_353 (by decide) (by decide) (fun c353 => ?_) (fun c353 => ?_)
                  · skip
                    obtain ⟨c0, hc0⟩ : ∃ q : Nat, P 8 = q := ⟨(P 8).toNat, by omega⟩
                    refine lv_aload_n hx hb dX9_does_358 rfl (lv_at hl 0 rfl) ?_
                    refine g_bipush hx hb dX9_does_359 (by decide) ?_
                    refine g_iconst hx hb dX9_does_361 ?_
                    refine g_bipush hx hb dX9_does_362 (by decide) ?_
                    refine lv_iload_n hx hb dX9_does_364 rfl (lv_at hl 2 rfl) ?_
                    refine lv_iload_n hx hb dX9_does_365 rfl (lv_at hl 3 rfl) ?_
                    refine lv_iload hx hb dX9_does_366 (lv_at hl 4 rfl) ?_
                    refine g_iconst hx hb dX9_does_368 ?_
                    have hf343 := hf317.kept (fun q h1 h2 => (o338 (q) (by omega)))
                    have hC344 := c_X9_row3 l g b0 n f334 h (pu Z 15 0) M aa P c0 a b x 0 ho342 hf343 hrg hat haa hc0 (by omega) hra hrb hrx (by decide)
                    refine g_callVi (ci := 11) (C := RX9) (T := TX9) (N := 24) (As := [.int (zI 51), .int (zI 3), .int (zI 8), .int (zI a), .int (zI b), .int (zI x), .int (zI 0)]) (rest := []) ⟨hx, hb, hml, hown, hts⟩ hK hM hC344 (cuV (n := 7) hts u_1253 u_1250 u_10 (by decide) u_1252 us_31 ⟨Nat.le_of_ble_eq_true rfl, Nat.le_of_ble_eq_true rfl⟩) ⟨by omega, by omega⟩ ho342 rfl rfl hl.1 rfl (Nat.le_of_ble_eq_true rfl) dX9_does_369 ⟨Nat.zero_le _, Nat.zero_le _⟩ (fun r369 f345 H locs hM hp346 => ?_)
                    obtain ⟨rfl, hn347, o348⟩ := hp346
                    obtain ⟨P1, hP1⟩ : ∃ Q : Nat → Int, Q = (sApp3 P c0 a b x) := ⟨_, rfl⟩
                    rw [← hP1] at hn347
                    have hf349 : f345 (h) = .inr (11, [.int (zI (Z 0)), .ref (h + 1), .ref (h + 2), .ref (h + 3), .ref (h + 4), .ref (h + 5), .ref (h + 6), .ref (h + 7), .ref (h + 8), .int (zI (Z 9)), .int (zI (Z 10)), .int (zI (Z 11)), .int (zI (Z 12)), .int (zI (Z 13)), .int (zI (Z 14)), .int (zI 0), .int (zI (Z 16)), .ref (h + 9), .ref (h + 10), .ref (h + 11), .int (zI (Z 20)), .int (zI (Z 21)), .int (zI (Z 22)), .ref (h + 12)]) := (o348 (h) (by omega)).trans ho342
                    have hf350 := hsc.kept (fun q h1 h2 => ((o348 (q) (by omega)).trans ((o338 (q) (by omega)).trans ((o312 (q) (by omega)).trans ((o299 (q) (by omega)).trans (o2 (q) (by omega)))))))
                    refine g_iret hx hb hr hlk hK hM dX9_does_372 ?_
                    have hS : sRef P 3 a b x y (fl = 1) = 0 := by
                      rw [rf_3]
                      (repeat' split) <;> first | rfl | omega
                    have hF : sPf P 3 a b x y = ((↑c0 : Int), P1) := by
                      unfold sPf
                      rw [if_neg (by omega), if_neg (by omega), if_neg (by omega), if_pos rfl, hc0, Int.toNat_natCast, hP1]
                    obtain ⟨e1, e2, e3⟩ := d_yes hS hF
                    exact ⟨by rw [e1]; exact hf349, by rw [e2], by rw [e3]; exact hn347, hf350, (fun q hq => ((o348 (q) (by omega)).trans ((o338 (q) (by omega)).trans ((o312 (q) (by omega)).trans ((o299 (q) (by omega)).trans (o2 (q) (by omega)))))))⟩
                  · exact absurd c353 (by decide)
                · skip
                  refine g_iconst hx hb dX9_does_344 ?_
                  refine lv_goto (tgt := 349) hx hb dX9_does_345 (by decide) ?_
                  refine g_iconst hx hb dX9_does_349 ?_
                  have hC351 := c_X9_refuses l g b0 n f308 h (pu Z 15 0) 1 3 ho316 hrg (pu_s _ _ _) (Or.inr rfl) (by decide)
                  refine g_callVi (ci := 11) (C := RX9) (T := TX9) (N := 24) (As := [.int (zI 1), .int (zI 3)]) (rest := []) ⟨hx, hb, hml, hown, hts⟩ hK hM hC351 (cuV (n := 2) hts u_1245 u_1242 u_10 (by decide) u_1244 us_29 ⟨Nat.le_of_ble_eq_true rfl, Nat.le_of_ble_eq_true rfl⟩) ⟨by omega, by omega⟩ ho316 rfl rfl hl.1 rfl (Nat.le_of_ble_eq_true rfl) dX9_does_350 ⟨Nat.zero_le _, Nat.zero_le _⟩ (fun r350 f352 H locs hM hp353 => ?_)
                  have hd354 := rf_alt hp353 (Or.inr rfl)
                  obtain ⟨rfl, hm357, o355⟩ := hd354.elim (fun q9 => q9.2) (fun q9 => absurd q9.1 (by decide))
                  have ho360 : f352 h = .inr (11, [.int (zI (Z 0)), .ref (h + 1), .ref (h + 2), .ref (h + 3), .ref (h + 4), .ref (h + 5), .ref (h + 6), .ref (h + 7), .ref (h + 8), .int (zI (Z 9)), .int (zI (Z 10)), .int (zI (Z 11)), .int (zI (Z 12)), .int (zI (Z 13)), .int (zI (Z 14)), .int (zI 3), .int (zI (Z 16)), .ref (h + 9), .ref (h + 10), .ref (h + 11), .int (zI (Z 20)), .int (zI (Z 21)), .int (zI (Z 22)), .ref (h + 12)]) := hm357
                  refine g_if_eq (tgt := 358) hx hb dX9_does_353 (by decide) (by decide) (fun c353 => ?_) (fun c353 => ?_)
                  · exact absurd c353 (by decide)
                  · skip
                    refine g_iconst hx hb dX9_does_356 ?_
                    have hf361 := hf317.kept (fun q h1 h2 => (o355 (q) (by omega)))
                    have hf362 := hsc.kept (fun q h1 h2 => ((o355 (q) (by omega)).trans ((o312 (q) (by omega)).trans ((o299 (q) (by omega)).trans (o2 (q) (by omega))))))
                    refine g_iret hx hb hr hlk hK hM dX9_does_357 ?_
                    have hS : sRef P 3 a b x y (fl = 1) = 3 := by
                      rw [rf_3]
                      (repeat' split) <;> first | rfl | omega
                    obtain ⟨e1, e2, e3⟩ := d_no hS (by decide)
                    exact ⟨by rw [e1]; exact ho360, by rw [e2], by rw [e3]; exact hf361, hf362, (fun q hq => ((o355 (q) (by omega)).trans ((o312 (q) (by omega)).trans ((o299 (q) (by omega)).trans (o2 (q) (by omega))))))⟩
          · skip
            refine g_iconst hx hb dX9_does_315 ?_
            refine lv_goto (tgt := 320) hx hb dX9_does_316 (by decide) ?_
            refine g_iconst hx hb dX9_does_320 ?_
            have hC363 := c_X9_refuses l g b0 n f295 h (pu Z 15 0) 1 2 ho303 hrg (pu_s _ _ _) (Or.inr rfl) (by decide)
            refine g_callVi (ci := 11) (C := RX9) (T := TX9) (N := 24) (As := [.int (zI 1), .int (zI 2)]) (rest := []) ⟨hx, hb, hml, hown, hts⟩ hK hM hC363 (cuV (n := 2) hts u_1245 u_1242 u_10 (by decide) u_1244 us_29 ⟨Nat.le_of_ble_eq_true rfl, Nat.le_of_ble_eq_true rfl⟩) ⟨by omega, by omega⟩ ho303 rfl rfl hl.1 rfl (Nat.le_of_ble_eq_true rfl) dX9_does_321 ⟨Nat.zero_le _, Nat.zero_le _⟩ (fun r321 f364 H locs hM hp365 => ?_)
            have hd366 := rf_alt hp365 (Or.inr rfl)
            obtain ⟨rfl, hm369, o367⟩ := hd366.elim (fun q9 => q9.2) (fun q9 => absurd q9.1 (by decide))
            have ho372 : f364 h = .inr (11, [.int (zI (Z 0)), .ref (h + 1), .ref (h + 2), .ref (h + 3), .ref (h + 4), .ref (h + 5), .ref (h + 6), .ref (h + 7), .ref (h + 8), .int (zI (Z 9)), .int (zI (Z 10)), .int (zI (Z 11)), .int (zI (Z 12)), .int (zI (Z 13)), .int (zI (Z 14)), .int (zI 2), .int (zI (Z 16)), .ref (h + 9), .ref (h + 10), .ref (h + 11), .int (zI (Z 20)), .int (zI (Z 21)), .int (zI (Z 22)), .ref (h + 12)]) := hm369
            refine g_if_ne (tgt := 356) hx hb dX9_does_324 (by decide) (by decide) (fun c324 => ?_) (fun c324 => ?_)
            · skip
              refine g_iconst hx hb dX9_does_356 ?_
              have hf373 := hf290.kept (fun q h1 h2 => ((o367 (q) (by omega)).trans (o299 (q) (by omega))))
              have hf374 := hsc.kept (fun q h1 h2 => ((o367 (q) (by omega)).trans ((o299 (q) (by omega)).trans (o2 (q) (by omega)))))
              refine g_iret hx hb hr hlk hK hM dX9_does_357 ?_
              have hS : sRef P 3 a b x y (fl = 1) = 2 := by
                rw [rf_3]
                (repeat' split) <;> first | rfl | omega
              obtain ⟨e1, e2, e3⟩ := d_no hS (by decide)
              exact ⟨by rw [e1]; exact ho372, by rw [e2], by rw [e3]; exact hf373, hf374, (fun q hq => ((o367 (q) (by omega)).trans ((o299 (q) (by omega)).trans (o2 (q) (by omega)))))⟩
            · exact absurd c324 (by decide)
      · skip
        refine g_iconst hx hb dX9_does_293 ?_
        refine lv_goto (tgt := 298) hx hb dX9_does_294 (by decide) ?_
        refine g_iconst hx hb dX9_does_298 ?_
        have hC375 := c_X9_refuses l g b0 n f1 h (pu Z 15 0) 1 1 hf3 hrg (pu_s _ _ _) (Or.inr rfl) (by decide)
        refine g_callVi (ci := 11) (C := RX9) (T := TX9) (N := 24) (As := [.int (zI 1), .int (zI 1)]) (rest := []) ⟨hx, hb, hml, hown, hts⟩ hK hM hC375 (cuV (n := 2) hts u_1245 u_1242 u_10 (by decide) u_1244 us_29 ⟨Nat.le_of_ble_eq_true rfl, Nat.le_of_ble_eq_true rfl⟩) ⟨by omega, by omega⟩ hf3 rfl rfl hl.1 rfl (Nat.le_of_ble_eq_true rfl) dX9_does_299 ⟨Nat.zero_le _, Nat.zero_le _⟩ (fun r299 f376 H locs hM hp377 => ?_)
        have hd378 := rf_alt hp377 (Or.inr rfl)
        obtain ⟨rfl, hm381, o379⟩ := hd378.elim (fun q9 => q9.2) (fun q9 => absurd q9.1 (by decide))
        have ho384 : f376 h = .inr (11, [.int (zI (Z 0)), .ref (h + 1), .ref (h + 2), .ref (h + 3), .ref (h + 4), .ref (h + 5), .ref (h + 6), .ref (h + 7), .ref (h + 8), .int (zI (Z 9)), .int (zI (Z 10)), .int (zI (Z 11)), .int (zI (Z 12)), .int (zI (Z 13)), .int (zI (Z 14)), .int (zI 1), .int (zI (Z 16)), .ref (h + 9), .ref (h + 10), .ref (h + 11), .int (zI (Z 20)), .int (zI (Z 21)), .int (zI (Z 22)), .ref (h + 12)]) := hm381
        refine g_if_ne (tgt := 356) hx hb dX9_does_302 (by decide) (by decide) (fun c302 => ?_) (fun c302 => ?_)
        · skip
          refine g_iconst hx hb dX9_does_356 ?_
          have hf385 := hf290.kept (fun q h1 h2 => (o379 (q) (by omega)))
          have hf386 := hsc.kept (fun q h1 h2 => ((o379 (q) (by omega)).trans (o2 (q) (by omega))))
          refine g_iret hx hb hr hlk hK hM dX9_does_357 ?_
          have hS : sRef P 3 a b x y (fl = 1) = 1 := by
            rw [rf_3]
            (repeat' split) <;> first | rfl | omega
          obtain ⟨e1, e2, e3⟩ := d_no hS (by decide)
          exact ⟨by rw [e1]; exact ho384, by rw [e2], by rw [e3]; exact hf385, hf386, (fun q hq => ((o379 (q) (by omega)).trans (o2 (q) (by omega))))⟩
        · exact absurd c302 (by decide)
    · refine lv_tableIn (off := 367) (tgt := 373) hx hb dX9_does_6 (by rw [hz6, c6]; decide) (by rw [hz6, c6]; decide) (by rw [hz6, c6]; decide) (by decide) ?_
      subst c6
      refine lv_aload_n hx hb dX9_does_373 rfl (lv_at hl 0 rfl) ?_
      refine lv_iload_n hx hb dX9_does_374 rfl (lv_at hl 2 rfl) ?_
      refine g_i2l hx hb dX9_does_375 hra ?_
      refine g_lconst (z := 0) hx hb dX9_does_376 (by decide) ?_
      refine lv_aload_n hx hb dX9_does_377 rfl (lv_at hl 0 rfl) ?_
      refine g_bipush hx hb dX9_does_378 (by decide) ?_
      have hf387 := hP.kept (fun q h1 h2 => (o2 (q) (by omega)))
      have hC388 := c_X9_n l g b0 n f1 h (pu Z 15 0) M aa P 8 (8) hf3 hf387 hrg hat haa (by omega) (by omega)
      refine g_callVi (ci := 11) (C := RX9) (T := TX9) (N := 24) (As := [.int (zI 8)]) (rest := [.long (zL 0), .long (zL a), .ref h]) ⟨hx, hb, hml, hown, hts⟩ hK hM hC388 (cuV (n := 1) hts u_1249 u_1246 u_10 (by decide) u_1248 us_30 ⟨Nat.le_of_ble_eq_true rfl, Nat.le_of_ble_eq_true rfl⟩) ⟨by omega, by omega⟩ hf3 rfl rfl hl.1 rfl (Nat.le_of_ble_eq_true rfl) dX9_does_380 ⟨Nat.zero_le _, Nat.zero_le _⟩ (fun r380 f389 H locs hM hp390 => ?_)
      obtain ⟨rfl, rfl⟩ := hp390
      refine g_iconst hx hb dX9_does_383 ?_
      refine g_isub hx hb dX9_does_384 ?_
      refine g_i2l hx hb dX9_does_385 ⟨by omega, by omega⟩ ?_
      have hC391 := c_X9_in l g b0 n f1 a 0 ((P 8) - 1) (rI_L hra) (by decide) ⟨by omega, by omega⟩
      refine g_callSi (As := [.long (zL a), .long (zL 0), .long (zL ((P 8) - 1))]) (rest := [.ref h]) ⟨hx, hb, hml, hown, hts⟩ hK hM hC391 (cuS (n := 3) hts u_1240 u_1238 u_10 (by decide) u_1239 ⟨Nat.le_of_ble_eq_true rfl, Nat.le_of_ble_eq_true rfl⟩) rfl hl.1 rfl (Nat.le_of_ble_eq_true rfl) dX9_does_386 ⟨Nat.zero_le _, Nat.zero_le _⟩ (fun r386 f392 H locs hM hp393 => ?_)
      obtain ⟨rfl, rfl⟩ := hp393
      refine g_ifb_ne (tgt := 396) hx hb dX9_does_389 (by decide) (fun c389 => ?_) (fun c389 => ?_)
      · skip
        refine g_iconst hx hb dX9_does_396 ?_
        refine g_iconst hx hb dX9_does_397 ?_
        have hC394 := c_X9_refuses l g b0 n f1 h (pu Z 15 0) 0 1 hf3 hrg (pu_s _ _ _) (Or.inl rfl) (by decide)
        refine g_callVi (ci := 11) (C := RX9) (T := TX9) (N := 24) (As := [.int (zI 0), .int (zI 1)]) (rest := []) ⟨hx, hb, hml, hown, hts⟩ hK hM hC394 (cuV (n := 2) hts u_1245 u_1242 u_10 (by decide) u_1244 us_29 ⟨Nat.le_of_ble_eq_true rfl, Nat.le_of_ble_eq_true rfl⟩) ⟨by omega, by omega⟩ hf3 rfl rfl hl.1 rfl (Nat.le_of_ble_eq_true rfl) dX9_does_398 ⟨Nat.zero_le _, Nat.zero_le _⟩ (fun r398 f395 H locs hM hp396 => ?_)
        have hd397 := rf_alt hp396 (Or.inl rfl)
        obtain ⟨rfl, hm401, o399⟩ := hd397.elim (fun q9 => absurd q9.1 (by decide)) (fun q9 => q9.2)
        have ho403 : f395 h = .inr (11, [.int (zI (Z 0)), .ref (h + 1), .ref (h + 2), .ref (h + 3), .ref (h + 4), .ref (h + 5), .ref (h + 6), .ref (h + 7), .ref (h + 8), .int (zI (Z 9)), .int (zI (Z 10)), .int (zI (Z 11)), .int (zI (Z 12)), .int (zI (Z 13)), .int (zI (Z 14)), .int (zI 0), .int (zI (Z 16)), .ref (h + 9), .ref (h + 10), .ref (h + 11), .int (zI (Z 20)), .int (zI (Z 21)), .int (zI (Z 22)), .ref (h + 12)]) := hm401
        refine g_if_ne (tgt := 414) hx hb dX9_does_401 (by decide) (by decide) (fun c401 => ?_) (fun c401 => ?_)
        · exact absurd c401 (by decide)
        · skip
          refine lv_aload_n hx hb dX9_does_404 rfl (lv_at hl 0 rfl) ?_
          refine lv_iload hx hb dX9_does_405 (lv_at hl 6 rfl) ?_
          refine g_iconst hx hb dX9_does_407 ?_
          have hC404 := c_X9_refuses l g b0 n f395 h (pu Z 15 0) fl 3 ho403 hrg (pu_s _ _ _) hfl (by decide)
          refine g_callVi (ci := 11) (C := RX9) (T := TX9) (N := 24) (As := [.int (zI fl), .int (zI 3)]) (rest := []) ⟨hx, hb, hml, hown, hts⟩ hK hM hC404 (cuV (n := 2) hts u_1245 u_1242 u_10 (by decide) u_1244 us_29 ⟨Nat.le_of_ble_eq_true rfl, Nat.le_of_ble_eq_true rfl⟩) ⟨by omega, by omega⟩ ho403 rfl rfl hl.1 rfl (Nat.le_of_ble_eq_true rfl) dX9_does_408 ⟨Nat.zero_le _, Nat.zero_le _⟩ (fun r408 f405 H locs hM hp406 => ?_)
          have hd407 := rf_alt hp406 hfl
          rcases hd407 with ⟨hq412, rfl, hm410, o408⟩ | ⟨hq412, rfl, hm411, o409⟩
          · skip
            have ho413 : f405 h = .inr (11, [.int (zI (Z 0)), .ref (h + 1), .ref (h + 2), .ref (h + 3), .ref (h + 4), .ref (h + 5), .ref (h + 6), .ref (h + 7), .ref (h + 8), .int (zI (Z 9)), .int (zI (Z 10)), .int (zI (Z 11)), .int (zI (Z 12)), .int (zI (Z 13)), .int (zI (Z 14)), .int (zI 3), .int (zI (Z 16)), .ref (h + 9), .ref (h + 10), .ref (h + 11), .int (zI (Z 20)), .int (zI (Z 21)), .int (zI (Z 22)), .ref (h + 12)]) := hm410
            refine g_if_eq (tgt := 416) hx hb dX9_does_411 (by decide) (by decide) (fun c411 => ?_) (fun c411 => ?_)
            · exact absurd c411 (by decide)
            · skip
              refine g_iconst hx hb dX9_does_414 ?_
              have hf414 := hf387.kept (fun q h1 h2 => ((o408 (q) (by omega)).trans (o399 (q) (by omega))))
              have hf415 := hsc.kept (fun q h1 h2 => ((o408 (q) (by omega)).trans ((o399 (q) (by omega)).trans (o2 (q) (by omega)))))
              refine g_iret hx hb hr hlk hK hM dX9_does_415 ?_
              have hS : sRef P 4 a b x y (fl = 1) = 3 := by
                rw [rf_4]
                (repeat' split) <;> first | rfl | omega
              obtain ⟨e1, e2, e3⟩ := d_no hS (by decide)
              exact ⟨by rw [e1]; exact ho413, by rw [e2], by rw [e3]; exact hf414, hf415, (fun q hq => ((o408 (q) (by omega)).trans ((o399 (q) (by omega)).trans (o2 (q) (by omega)))))⟩
          · skip
            have ho416 : f405 h = .inr (11, [.int (zI (Z 0)), .ref (h + 1), .ref (h + 2), .ref (h + 3), .ref (h + 4), .ref (h + 5), .ref (h + 6), .ref (h + 7), .ref (h + 8), .int (zI (Z 9)), .int (zI (Z 10)), .int (zI (Z 11)), .int (zI (Z 12)), .int (zI (Z 13)), .int (zI (Z 14)), .int (zI 0), .int (zI (Z 16)), .ref (h + 9), .ref (h + 10), .ref (h + 11), .int (zI (Z 20)), .int (zI (Z 21)), .int (zI (Z 22)), .ref (h + 12)]) := hm411
            refine g_if_eq (tgt := 416) hx hb dX9_does_411 (by decide) (by decide) (fun c411 => ?_) (fun c411 => ?_)
            · skip
              have hae : ((a.toNat : Nat) : Int) = a := by omega
              refine lv_aload_n hx hb dX9_does_416 rfl (lv_at hl 0 rfl) ?_
              refine g_bipush hx hb dX9_does_417 (by decide) ?_
              refine g_iconst hx hb dX9_does_419 ?_
              refine g_bipush hx hb dX9_does_420 (by decide) ?_
              refine lv_iload_n hx hb dX9_does_422 rfl (lv_at hl 2 rfl) ?_
              have hf417 := hf387.kept (fun q h1 h2 => ((o409 (q) (by omega)).trans (o399 (q) (by omega))))
              have hq418 := c_X9_removes3 l g b0 n f405 h (pu Z 15 0) M aa P a.toNat ho416 hf417 hrg hat haa hcn8 (by omega)
              rw [hae] at hq418
              have hC419 := hq418
              refine g_callVi (ci := 11) (C := RX9) (T := TX9) (N := 24) (As := [.int (zI 51), .int (zI 3), .int (zI 8), .int (zI a)]) (rest := []) ⟨hx, hb, hml, hown, hts⟩ hK hM hC419 (cuV (n := 4) hts u_1279 u_1276 u_10 (by decide) u_1278 us_36 ⟨Nat.le_of_ble_eq_true rfl, Nat.le_of_ble_eq_true rfl⟩) ⟨by omega, by omega⟩ ho416 rfl rfl hl.1 rfl (Nat.le_of_ble_eq_true rfl) dX9_does_423 ⟨Nat.zero_le _, Nat.zero_le _⟩ (fun r423 f420 H locs hM hp421 => ?_)
              obtain ⟨rfl, hn422, o423⟩ := hp421
              obtain ⟨P1, hP1⟩ : ∃ Q : Nat → Int, Q = (sRem P 51 3 8 a.toNat) := ⟨_, rfl⟩
              rw [← hP1] at hn422
              have hf424 : f420 (h) = .inr (11, [.int (zI (Z 0)), .ref (h + 1), .ref (h + 2), .ref (h + 3), .ref (h + 4), .ref (h + 5), .ref (h + 6), .ref (h + 7), .ref (h + 8), .int (zI (Z 9)), .int (zI (Z 10)), .int (zI (Z 11)), .int (zI (Z 12)), .int (zI (Z 13)), .int (zI (Z 14)), .int (zI 0), .int (zI (Z 16)), .ref (h + 9), .ref (h + 10), .ref (h + 11), .int (zI (Z 20)), .int (zI (Z 21)), .int (zI (Z 22)), .ref (h + 12)]) := (o423 (h) (by omega)).trans ho416
              have hf425 := hsc.kept (fun q h1 h2 => ((o423 (q) (by omega)).trans ((o409 (q) (by omega)).trans ((o399 (q) (by omega)).trans (o2 (q) (by omega))))))
              refine g_iret hx hb hr hlk hK hM dX9_does_426 ?_
              have hS : sRef P 4 a b x y (fl = 1) = 0 := by
                rw [rf_4]
                (repeat' split) <;> first | rfl | omega
              have hF : sPf P 4 a b x y = ((P 8 - 1), P1) := by
                unfold sPf
                rw [if_neg (by omega), if_neg (by omega), if_neg (by omega), if_neg (by omega), if_pos rfl, hP1]
              obtain ⟨e1, e2, e3⟩ := d_yes hS hF
              exact ⟨by rw [e1]; exact hf424, by rw [e2], by rw [e3]; exact hn422, hf425, (fun q hq => ((o423 (q) (by omega)).trans ((o409 (q) (by omega)).trans ((o399 (q) (by omega)).trans (o2 (q) (by omega))))))⟩
            · exact absurd c411 (by decide)
      · skip
        refine g_iconst hx hb dX9_does_392 ?_
        refine lv_goto (tgt := 397) hx hb dX9_does_393 (by decide) ?_
        refine g_iconst hx hb dX9_does_397 ?_
        have hC426 := c_X9_refuses l g b0 n f1 h (pu Z 15 0) 1 1 hf3 hrg (pu_s _ _ _) (Or.inr rfl) (by decide)
        refine g_callVi (ci := 11) (C := RX9) (T := TX9) (N := 24) (As := [.int (zI 1), .int (zI 1)]) (rest := []) ⟨hx, hb, hml, hown, hts⟩ hK hM hC426 (cuV (n := 2) hts u_1245 u_1242 u_10 (by decide) u_1244 us_29 ⟨Nat.le_of_ble_eq_true rfl, Nat.le_of_ble_eq_true rfl⟩) ⟨by omega, by omega⟩ hf3 rfl rfl hl.1 rfl (Nat.le_of_ble_eq_true rfl) dX9_does_398 ⟨Nat.zero_le _, Nat.zero_le _⟩ (fun r398 f427 H locs hM hp428 => ?_)
        have hd429 := rf_alt hp428 (Or.inr rfl)
        obtain ⟨rfl, hm432, o430⟩ := hd429.elim (fun q9 => q9.2) (fun q9 => absurd q9.1 (by decide))
        have ho435 : f427 h = .inr (11, [.int (zI (Z 0)), .ref (h + 1), .ref (h + 2), .ref (h + 3), .ref (h + 4), .ref (h + 5), .ref (h + 6), .ref (h + 7), .ref (h + 8), .int (zI (Z 9)), .int (zI (Z 10)), .int (zI (Z 11)), .int (zI (Z 12)), .int (zI (Z 13)), .int (zI (Z 14)), .int (zI 1), .int (zI (Z 16)), .ref (h + 9), .ref (h + 10), .ref (h + 11), .int (zI (Z 20)), .int (zI (Z 21)), .int (zI (Z 22)), .ref (h + 12)]) := hm432
        refine g_if_ne (tgt := 414) hx hb dX9_does_401 (by decide) (by decide) (fun c401 => ?_) (fun c401 => ?_)
        · skip
          refine g_iconst hx hb dX9_does_414 ?_
          have hf436 := hf387.kept (fun q h1 h2 => (o430 (q) (by omega)))
          have hf437 := hsc.kept (fun q h1 h2 => ((o430 (q) (by omega)).trans (o2 (q) (by omega))))
          refine g_iret hx hb hr hlk hK hM dX9_does_415 ?_
          have hS : sRef P 4 a b x y (fl = 1) = 1 := by
            rw [rf_4]
            (repeat' split) <;> first | rfl | omega
          obtain ⟨e1, e2, e3⟩ := d_no hS (by decide)
          exact ⟨by rw [e1]; exact ho435, by rw [e2], by rw [e3]; exact hf436, hf437, (fun q hq => ((o430 (q) (by omega)).trans (o2 (q) (by omega))))⟩
        · exact absurd c401 (by decide)
    · refine lv_tableIn (off := 421) (tgt := 427) hx hb dX9_does_6 (by rw [hz6, c6]; decide) (by rw [hz6, c6]; decide) (by rw [hz6, c6]; decide) (by decide) ?_
      subst c6
      refine lv_aload_n hx hb dX9_does_427 rfl (lv_at hl 0 rfl) ?_
      refine lv_aload_n hx hb dX9_does_428 rfl (lv_at hl 0 rfl) ?_
      refine lv_iload_n hx hb dX9_does_429 rfl (lv_at hl 2 rfl) ?_
      have hf438 := hP.kept (fun q h1 h2 => (o2 (q) (by omega)))
      have hC439 := c_X9_isEnvelope l g b0 n f1 h (pu Z 15 0) M aa P a hf3 hf438 hrg hat haa hcn7 hra
      refine g_callVi (ci := 11) (C := RX9) (T := TX9) (N := 24) (As := [.int (zI a)]) (rest := [.ref h]) ⟨hx, hb, hml, hown, hts⟩ hK hM hC439 (cuV (n := 1) hts u_1265 u_1262 u_10 (by decide) u_1264 us_34 ⟨Nat.le_of_ble_eq_true rfl, Nat.le_of_ble_eq_true rfl⟩) ⟨by omega, by omega⟩ hf3 rfl rfl hl.1 rfl (Nat.le_of_ble_eq_true rfl) dX9_does_430 ⟨Nat.zero_le _, Nat.zero_le _⟩ (fun r430 f440 H locs hM hp441 => ?_)
      obtain ⟨rfl, rfl⟩ := hp441
      refine g_ifb_eq (tgt := 444) hx hb dX9_does_433 (by decide) (fun c433 => ?_) (fun c433 => ?_)
      · skip
        refine g_iconst hx hb dX9_does_444 ?_
        refine lv_goto (tgt := 449) hx hb dX9_does_445 (by decide) ?_
        refine g_iconst hx hb dX9_does_449 ?_
        have hC442 := c_X9_refuses l g b0 n f1 h (pu Z 15 0) 1 1 hf3 hrg (pu_s _ _ _) (Or.inr rfl) (by decide)
        refine g_callVi (ci := 11) (C := RX9) (T := TX9) (N := 24) (As := [.int (zI 1), .int (zI 1)]) (rest := []) ⟨hx, hb, hml, hown, hts⟩ hK hM hC442 (cuV (n := 2) hts u_1245 u_1242 u_10 (by decide) u_1244 us_29 ⟨Nat.le_of_ble_eq_true rfl, Nat.le_of_ble_eq_true rfl⟩) ⟨by omega, by omega⟩ hf3 rfl rfl hl.1 rfl (Nat.le_of_ble_eq_true rfl) dX9_does_450 ⟨Nat.zero_le _, Nat.zero_le _⟩ (fun r450 f443 H locs hM hp444 => ?_)
        have hd445 := rf_alt hp444 (Or.inr rfl)
        obtain ⟨rfl, hm448, o446⟩ := hd445.elim (fun q9 => q9.2) (fun q9 => absurd q9.1 (by decide))
        have ho451 : f443 h = .inr (11, [.int (zI (Z 0)), .ref (h + 1), .ref (h + 2), .ref (h + 3), .ref (h + 4), .ref (h + 5), .ref (h + 6), .ref (h + 7), .ref (h + 8), .int (zI (Z 9)), .int (zI (Z 10)), .int (zI (Z 11)), .int (zI (Z 12)), .int (zI (Z 13)), .int (zI (Z 14)), .int (zI 1), .int (zI (Z 16)), .ref (h + 9), .ref (h + 10), .ref (h + 11), .int (zI (Z 20)), .int (zI (Z 21)), .int (zI (Z 22)), .ref (h + 12)]) := hm448
        refine g_if_ne (tgt := 529) hx hb dX9_does_453 (by decide) (by decide) (fun c453 => ?_) (fun c453 => ?_)
        · skip
          refine g_iconst hx hb dX9_does_529 ?_
          have hf452 := hf438.kept (fun q h1 h2 => (o446 (q) (by omega)))
          have hf453 := hsc.kept (fun q h1 h2 => ((o446 (q) (by omega)).trans (o2 (q) (by omega))))
          refine g_iret hx hb hr hlk hK hM dX9_does_530 ?_
          have hS : sRef P 5 a b x y (fl = 1) = 1 := by
            rw [rf_5]
            (repeat' split) <;> first | rfl | omega
          obtain ⟨e1, e2, e3⟩ := d_no hS (by decide)
          exact ⟨by rw [e1]; exact ho451, by rw [e2], by rw [e3]; exact hf452, hf453, (fun q hq => ((o446 (q) (by omega)).trans (o2 (q) (by omega))))⟩
        · exact absurd c453 (by decide)
      · skip
        refine lv_aload_n hx hb dX9_does_436 rfl (lv_at hl 0 rfl) ?_
        refine lv_iload_n hx hb dX9_does_437 rfl (lv_at hl 3 rfl) ?_
        have hC454 := c_X9_isEnvelope l g b0 n f1 h (pu Z 15 0) M aa P b hf3 hf438 hrg hat haa hcn7 hrb
        refine g_callVi (ci := 11) (C := RX9) (T := TX9) (N := 24) (As := [.int (zI b)]) (rest := [.ref h]) ⟨hx, hb, hml, hown, hts⟩ hK hM hC454 (cuV (n := 1) hts u_1265 u_1262 u_10 (by decide) u_1264 us_34 ⟨Nat.le_of_ble_eq_true rfl, Nat.le_of_ble_eq_true rfl⟩) ⟨by omega, by omega⟩ hf3 rfl rfl hl.1 rfl (Nat.le_of_ble_eq_true rfl) dX9_does_438 ⟨Nat.zero_le _, Nat.zero_le _⟩ (fun r438 f455 H locs hM hp456 => ?_)
        obtain ⟨rfl, rfl⟩ := hp456
        refine g_ifb_ne (tgt := 448) hx hb dX9_does_441 (by decide) (fun c441 => ?_) (fun c441 => ?_)
        · skip
          refine g_iconst hx hb dX9_does_448 ?_
          refine g_iconst hx hb dX9_does_449 ?_
          have hC457 := c_X9_refuses l g b0 n f1 h (pu Z 15 0) 0 1 hf3 hrg (pu_s _ _ _) (Or.inl rfl) (by decide)
          refine g_callVi (ci := 11) (C := RX9) (T := TX9) (N := 24) (As := [.int (zI 0), .int (zI 1)]) (rest := []) ⟨hx, hb, hml, hown, hts⟩ hK hM hC457 (cuV (n := 2) hts u_1245 u_1242 u_10 (by decide) u_1244 us_29 ⟨Nat.le_of_ble_eq_true rfl, Nat.le_of_ble_eq_true rfl⟩) ⟨by omega, by omega⟩ hf3 rfl rfl hl.1 rfl (Nat.le_of_ble_eq_true rfl) dX9_does_450 ⟨Nat.zero_le _, Nat.zero_le _⟩ (fun r450 f458 H locs hM hp459 => ?_)
          have hd460 := rf_alt hp459 (Or.inl rfl)
          obtain ⟨rfl, hm464, o462⟩ := hd460.elim (fun q9 => absurd q9.1 (by decide)) (fun q9 => q9.2)
          have ho466 : f458 h = .inr (11, [.int (zI (Z 0)), .ref (h + 1), .ref (h + 2), .ref (h + 3), .ref (h + 4), .ref (h + 5), .ref (h + 6), .ref (h + 7), .ref (h + 8), .int (zI (Z 9)), .int (zI (Z 10)), .int (zI (Z 11)), .int (zI (Z 12)), .int (zI (Z 13)), .int (zI (Z 14)), .int (zI 0), .int (zI (Z 16)), .ref (h + 9), .ref (h + 10), .ref (h + 11), .int (zI (Z 20)), .int (zI (Z 21)), .int (zI (Z 22)), .ref (h + 12)]) := hm464
          refine g_if_ne (tgt := 529) hx hb dX9_does_453 (by decide) (by decide) (fun c453 => ?_) (fun c453 => ?_)
          · exact absurd c453 (by decide)
          · skip
            refine lv_aload_n hx hb dX9_does_456 rfl (lv_at hl 0 rfl) ?_
            refine lv_iload_n hx hb dX9_does_457 rfl (lv_at hl 2 rfl) ?_
            refine lv_iload_n hx hb dX9_does_458 rfl (lv_at hl 3 rfl) ?_
            refine g_icmp_eq (tgt := 488) hx hb dX9_does_459 (by decide) hra hrb (fun c459 => ?_) (fun c459 => ?_)
            · skip
              refine g_iconst hx hb dX9_does_488 ?_
              refine lv_goto (tgt := 493) hx hb dX9_does_489 (by decide) ?_
              refine g_iconst hx hb dX9_does_493 ?_
              have hC467 := c_X9_refuses l g b0 n f458 h (pu Z 15 0) 1 2 ho466 hrg (pu_s _ _ _) (Or.inr rfl) (by decide)
              refine g_callVi (ci := 11) (C := RX9) (T := TX9) (N := 24) (As := [.int (zI 1), .int (zI 2)]) (rest := []) ⟨hx, hb, hml, hown, hts⟩ hK hM hC467 (cuV (n := 2) hts u_1245 u_1242 u_10 (by decide) u_1244 us_29 ⟨Nat.le_of_ble_eq_true rfl, Nat.le_of_ble_eq_true rfl⟩) ⟨by omega, by omega⟩ ho466 rfl rfl hl.1 rfl (Nat.le_of_ble_eq_true rfl) dX9_does_494 ⟨Nat.zero_le _, Nat.zero_le _⟩ (fun r494 f468 H locs hM hp469 => ?_)
              have hd470 := rf_alt hp469 (Or.inr rfl)
              obtain ⟨rfl, hm473, o471⟩ := hd470.elim (fun q9 => q9.2) (fun q9 => absurd q9.1 (by decide))
              have ho476 : f468 h = .inr (11, [.int (zI (Z 0)), .ref (h + 1), .ref (h + 2), .ref (h + 3), .ref (h + 4), .ref (h + 5), .ref (h + 6), .ref (h + 7), .ref (h + 8), .int (zI (Z 9)), .int (zI (Z 10)), .int (zI (Z 11)), .int (zI (Z 12)), .int (zI (Z 13)), .int (zI (Z 14)), .int (zI 2), .int (zI (Z 16)), .ref (h + 9), .ref (h + 10), .ref (h + 11), .int (zI (Z 20)), .int (zI (Z 21)), .int (zI (Z 22)), .ref (h + 12)]) := hm473
              refine g_if_ne (tgt := 529) hx hb dX9_does_497 (by decide) (by decide) (fun c497 => ?_) (fun c497 => ?_)
              · skip
                refine g_iconst hx hb dX9_does_529 ?_
                have hf477 := hf438.kept (fun q h1 h2 => ((o471 (q) (by omega)).trans (o462 (q) (by omega))))
                have hf478 := hsc.kept (fun q h1 h2 => ((o471 (q) (by omega)).trans ((o462 (q) (by omega)).trans (o2 (q) (by omega)))))
                refine g_iret hx hb hr hlk hK hM dX9_does_530 ?_
                have hS : sRef P 5 a b x y (fl = 1) = 2 := by
                  rw [rf_5]
                  (repeat' split) <;> first | rfl | omega
                obtain ⟨e1, e2, e3⟩ := d_no hS (by decide)
                exact ⟨by rw [e1]; exact ho476, by rw [e2], by rw [e3]; exact hf477, hf478, (fun q hq => ((o471 (q) (by omega)).trans ((o462 (q) (by omega)).trans (o2 (q) (by omega)))))⟩
              · exact absurd c497 (by decide)
            · skip
              refine lv_iload hx hb dX9_does_462 (lv_at hl 4 rfl) ?_
              refine g_i2l hx hb dX9_does_464 hrx ?_
              refine g_lconst (z := 0) hx hb dX9_does_465 (by decide) ?_
              refine g_ldc2 (z := 9000000) hx hb hown (hts _ u_1237) dX9_does_466 (by decide) ?_
              have hC479 := c_X9_in l g b0 n f458 x 0 9000000 (rI_L hrx) (by decide) (by decide)
              refine g_callSi (As := [.long (zL x), .long (zL 0), .long (zL 9000000)]) (rest := [.ref h]) ⟨hx, hb, hml, hown, hts⟩ hK hM hC479 (cuS (n := 3) hts u_1240 u_1238 u_10 (by decide) u_1239 ⟨Nat.le_of_ble_eq_true rfl, Nat.le_of_ble_eq_true rfl⟩) rfl hl.1 rfl (Nat.le_of_ble_eq_true rfl) dX9_does_469 ⟨Nat.zero_le _, Nat.zero_le _⟩ (fun r469 f480 H locs hM hp481 => ?_)
              obtain ⟨rfl, rfl⟩ := hp481
              refine g_ifb_eq (tgt := 488) hx hb dX9_does_472 (by decide) (fun c472 => ?_) (fun c472 => ?_)
              · skip
                refine g_iconst hx hb dX9_does_488 ?_
                refine lv_goto (tgt := 493) hx hb dX9_does_489 (by decide) ?_
                refine g_iconst hx hb dX9_does_493 ?_
                have hC482 := c_X9_refuses l g b0 n f458 h (pu Z 15 0) 1 2 ho466 hrg (pu_s _ _ _) (Or.inr rfl) (by decide)
                refine g_callVi (ci := 11) (C := RX9) (T := TX9) (N := 24) (As := [.int (zI 1), .int (zI 2)]) (rest := []) ⟨hx, hb, hml, hown, hts⟩ hK hM hC482 (cuV (n := 2) hts u_1245 u_1242 u_10 (by decide) u_1244 us_29 ⟨Nat.le_of_ble_eq_true rfl, Nat.le_of_ble_eq_true rfl⟩) ⟨by omega, by omega⟩ ho466 rfl rfl hl.1 rfl (Nat.le_of_ble_eq_true rfl) dX9_does_494 ⟨Nat.zero_le _, Nat.zero_le _⟩ (fun r494 f483 H locs hM hp484 => ?_)
                have hd485 := rf_alt hp484 (Or.inr rfl)
                obtain ⟨rfl, hm488, o486⟩ := hd485.elim (fun q9 => q9.2) (fun q9 => absurd q9.1 (by decide))
                have ho491 : f483 h = .inr (11, [.int (zI (Z 0)), .ref (h + 1), .ref (h + 2), .ref (h + 3), .ref (h + 4), .ref (h + 5), .ref (h + 6), .ref (h + 7), .ref (h + 8), .int (zI (Z 9)), .int (zI (Z 10)), .int (zI (Z 11)), .int (zI (Z 12)), .int (zI (Z 13)), .int (zI (Z 14)), .int (zI 2), .int (zI (Z 16)), .ref (h + 9), .ref (h + 10), .ref (h + 11), .int (zI (Z 20)), .int (zI (Z 21)), .int (zI (Z 22)), .ref (h + 12)]) := hm488
                refine g_if_ne (tgt := 529) hx hb dX9_does_497 (by decide) (by decide) (fun c497 => ?_) (fun c497 => ?_)
                · skip
                  refine g_iconst hx hb dX9_does_529 ?_
                  have hf492 := hf438.kept (fun q h1 h2 => ((o486 (q) (by omega)).trans (o462 (q) (by omega))))
                  have hf493 := hsc.kept (fun q h1 h2 => ((o486 (q) (by omega)).trans ((o462 (q) (by omega)).trans (o2 (q) (by omega)))))
                  refine g_iret hx hb hr hlk hK hM dX9_does_530 ?_
                  have hS : sRef P 5 a b x y (fl = 1) = 2 := by
                    rw [rf_5]
                    (repeat' split) <;> first | rfl | omega
                  obtain ⟨e1, e2, e3⟩ := d_no hS (by decide)
                  exact ⟨by rw [e1]; exact ho491, by rw [e2], by rw [e3]; exact hf492, hf493, (fun q hq => ((o486 (q) (by omega)).trans ((o462 (q) (by omega)).trans (o2 (q) (by omega)))))⟩
                · exact absurd c497 (by decide)
              · skip
                refine lv_iload hx hb dX9_does_475 (lv_at hl 5 rfl) ?_
                refine g_i2l hx hb dX9_does_477 hry ?_
                refine g_lconst (z := 1) hx hb dX9_does_478 (by decide) ?_
                refine g_ldc2 (z := 100) hx hb hown (hts _ u_1274) dX9_does_479 (by decide) ?_
                have hC494 := c_X9_in l g b0 n f458 y 1 100 (rI_L hry) (by decide) (by decide)
                refine g_callSi (As := [.long (zL y), .long (zL 1), .long (zL 100)]) (rest := [.ref h]) ⟨hx, hb, hml, hown, hts⟩ hK hM hC494 (cuS (n := 3) hts u_1240 u_1238 u_10 (by decide) u_1239 ⟨Nat.le_of_ble_eq_true rfl, Nat.le_of_ble_eq_true rfl⟩) rfl hl.1 rfl (Nat.le_of_ble_eq_true rfl) dX9_does_482 ⟨Nat.zero_le _, Nat.zero_le _⟩ (fun r482 f495 H locs hM hp496 => ?_)
                obtain ⟨rfl, rfl⟩ := hp496
                refine g_ifb_ne (tgt := 492) hx hb dX9_does_485 (by decide) (fun c485 => ?_) (fun c485 => ?_)
                · skip
                  refine g_iconst hx hb dX9_does_492 ?_
                  refine g_iconst hx hb dX9_does_493 ?_
                  have hC497 := c_X9_refuses l g b0 n f458 h (pu Z 15 0) 0 2 ho466 hrg (pu_s _ _ _) (Or.inl rfl) (by decide)
                  refine g_callVi (ci := 11) (C := RX9) (T := TX9) (N := 24) (As := [.int (zI 0), .int (zI 2)]) (rest := []) ⟨hx, hb, hml, hown, hts⟩ hK hM hC497 (cuV (n := 2) hts u_1245 u_1242 u_10 (by decide) u_1244 us_29 ⟨Nat.le_of_ble_eq_true rfl, Nat.le_of_ble_eq_true rfl⟩) ⟨by omega, by omega⟩ ho466 rfl rfl hl.1 rfl (Nat.le_of_ble_eq_true rfl) dX9_does_494 ⟨Nat.zero_le _, Nat.zero_le _⟩ (fun r494 f498 H locs hM hp499 => ?_)
                  have hd500 := rf_alt hp499 (Or.inl rfl)
                  obtain ⟨rfl, hm504, o502⟩ := hd500.elim (fun q9 => absurd q9.1 (by decide)) (fun q9 => q9.2)
                  have ho506 : f498 h = .inr (11, [.int (zI (Z 0)), .ref (h + 1), .ref (h + 2), .ref (h + 3), .ref (h + 4), .ref (h + 5), .ref (h + 6), .ref (h + 7), .ref (h + 8), .int (zI (Z 9)), .int (zI (Z 10)), .int (zI (Z 11)), .int (zI (Z 12)), .int (zI (Z 13)), .int (zI (Z 14)), .int (zI 0), .int (zI (Z 16)), .ref (h + 9), .ref (h + 10), .ref (h + 11), .int (zI (Z 20)), .int (zI (Z 21)), .int (zI (Z 22)), .ref (h + 12)]) := hm504
                  refine g_if_ne (tgt := 529) hx hb dX9_does_497 (by decide) (by decide) (fun c497 => ?_) (fun c497 => ?_)
                  · exact absurd c497 (by decide)
                  · skip
                    refine lv_aload_n hx hb dX9_does_500 rfl (lv_at hl 0 rfl) ?_
                    refine lv_aload_n hx hb dX9_does_501 rfl (lv_at hl 0 rfl) ?_
                    refine g_bipush hx hb dX9_does_502 (by decide) ?_
                    have hf507 := hf438.kept (fun q h1 h2 => ((o502 (q) (by omega)).trans (o462 (q) (by omega))))
                    have hC508 := c_X9_n l g b0 n f498 h (pu Z 15 0) M aa P 9 (9) ho506 hf507 hrg hat haa (by omega) (by omega)
                    refine g_callVi (ci := 11) (C := RX9) (T := TX9) (N := 24) (As := [.int (zI 9)]) (rest := [.ref h]) ⟨hx, hb, hml, hown, hts⟩ hK hM hC508 (cuV (n := 1) hts u_1249 u_1246 u_10 (by decide) u_1248 us_30 ⟨Nat.le_of_ble_eq_true rfl, Nat.le_of_ble_eq_true rfl⟩) ⟨by omega, by omega⟩ ho506 rfl rfl hl.1 rfl (Nat.le_of_ble_eq_true rfl) dX9_does_504 ⟨Nat.zero_le _, Nat.zero_le _⟩ (fun r504 f509 H locs hM hp510 => ?_)
                    obtain ⟨rfl, rfl⟩ := hp510
                    refine g_bipush hx hb dX9_does_507 (by decide) ?_
                    refine g_icmp_eq (tgt := 517) hx hb dX9_does_509 (by decide) ⟨by omega, by omega⟩ (by decide) (fun c509 => ?_) (fun c509 => ?_)
                    · skip
                      refine g_iconst hx hb dX9_does_517 ?_
                      refine lv_goto (tgt := 522) hx hb dX9_does_518 (by decide) ?_
                      refine g_iconst hx hb dX9_does_522 ?_
                      have hC511 := c_X9_refuses l g b0 n f498 h (pu Z 15 0) 1 3 ho506 hrg (pu_s _ _ _) (Or.inr rfl) (by decide)
                      refine g_callVi (ci := 11) (C := RX9) (T := TX9) (N := 24) (As := [.int (zI 1), .int (zI 3)]) (rest := []) ⟨hx, hb, hml, hown, hts⟩ hK hM hC511 (cuV (n := 2) hts u_1245 u_1242 u_10 (by decide) u_1244 us_29 ⟨Nat.le_of_ble_eq_true rfl, Nat.le_of_ble_eq_true rfl⟩) ⟨by omega, by omega⟩ ho506 rfl rfl hl.1 rfl (Nat.le_of_ble_eq_true rfl) dX9_does_523 ⟨Nat.zero_le _, Nat.zero_le _⟩ (fun r523 f512 H locs hM hp513 => ?_)
                      have hd514 := rf_alt hp513 (Or.inr rfl)
                      obtain ⟨rfl, hm517, o515⟩ := hd514.elim (fun q9 => q9.2) (fun q9 => absurd q9.1 (by decide))
                      have ho520 : f512 h = .inr (11, [.int (zI (Z 0)), .ref (h + 1), .ref (h + 2), .ref (h + 3), .ref (h + 4), .ref (h + 5), .ref (h + 6), .ref (h + 7), .ref (h + 8), .int (zI (Z 9)), .int (zI (Z 10)), .int (zI (Z 11)), .int (zI (Z 12)), .int (zI (Z 13)), .int (zI (Z 14)), .int (zI 3), .int (zI (Z 16)), .ref (h + 9), .ref (h + 10), .ref (h + 11), .int (zI (Z 20)), .int (zI (Z 21)), .int (zI (Z 22)), .ref (h + 12)]) := hm517
                      refine g_if_eq (tgt := 531) hx hb dX9_does_526 (by decide) (by decide) (fun c526 => ?_) (fun c526 => ?_)
                      · exact absurd c526 (by decide)
                      · skip
                        refine g_iconst hx hb dX9_does_529 ?_
                        have hf521 := hf507.kept (fun q h1 h2 => (o515 (q) (by omega)))
                        have hf522 := hsc.kept (fun q h1 h2 => ((o515 (q) (by omega)).trans ((o502 (q) (by omega)).trans ((o462 (q) (by omega)).trans (o2 (q) (by omega))))))
                        refine g_iret hx hb hr hlk hK hM dX9_does_530 ?_
                        have hS : sRef P 5 a b x y (fl = 1) = 3 := by
                          rw [rf_5]
                          (repeat' split) <;> first | rfl | omega
                        obtain ⟨e1, e2, e3⟩ := d_no hS (by decide)
                        exact ⟨by rw [e1]; exact ho520, by rw [e2], by rw [e3]; exact hf521, hf522, (fun q hq => ((o515 (q) (by omega)).trans ((o502 (q) (by omega)).trans ((o462 (q) (by omega)).trans (o2 (q) (by omega))))))⟩
                    · skip
                      refine lv_iload hx hb dX9_does_512 (lv_at hl 6 rfl) ?_
                      refine g_if_eq (tgt := 521) hx hb dX9_does_514 (by decide) ⟨by omega, by omega⟩ (fun c514 => ?_) (fun c514 => ?_)
                      · skip
                        refine g_iconst hx hb dX9_does_521 ?_
                        refine g_iconst hx hb dX9_does_522 ?_
                        have hC523 := c_X9_refuses l g b0 n f498 h (pu Z 15 0) 0 3 ho506 hrg (pu_s _ _ _) (Or.inl rfl) (by decide)
                        refine g_callVi (ci := 11) (C := RX9) (T := TX9) (N := 24) (As := [.int (zI 0), .int (zI 3)]) (rest := []) ⟨hx, hb, hml, hown, hts⟩ hK hM hC523 (cuV (n := 2) hts u_1245 u_1242 u_10 (by decide) u_1244 us_29 ⟨Nat.le_of_ble_eq_true rfl, Nat.le_of_ble_eq_true rfl⟩) ⟨by omega, by omega⟩ ho506 rfl rfl hl.1 rfl (Nat.le_of_ble_eq_true rfl) dX9_does_523 ⟨Nat.zero_le _, Nat.zero_le _⟩ (fun r523 f524 H locs hM hp525 => ?_)
                        have hd526 := rf_alt hp525 (Or.inl rfl)
                        obtain ⟨rfl, hm530, o528⟩ := hd526.elim (fun q9 => absurd q9.1 (by decide)) (fun q9 => q9.2)
                        have ho532 : f524 h = .inr (11, [.int (zI (Z 0)), .ref (h + 1), .ref (h + 2), .ref (h + 3), .ref (h + 4), .ref (h + 5), .ref (h + 6), .ref (h + 7), .ref (h + 8), .int (zI (Z 9)), .int (zI (Z 10)), .int (zI (Z 11)), .int (zI (Z 12)), .int (zI (Z 13)), .int (zI (Z 14)), .int (zI 0), .int (zI (Z 16)), .ref (h + 9), .ref (h + 10), .ref (h + 11), .int (zI (Z 20)), .int (zI (Z 21)), .int (zI (Z 22)), .ref (h + 12)]) := hm530
                        refine g_if_eq (tgt := 531) hx hb dX9_does_526 (by decide) (by decide) (fun c526 => ?_) (fun c526 => ?_)
                        · skip
                          obtain ⟨c0, hc0⟩ : ∃ q : Nat, P 9 = q := ⟨(P 9).toNat, by omega⟩
                          refine lv_aload_n hx hb dX9_does_531 rfl (lv_at hl 0 rfl) ?_
                          refine g_bipush hx hb dX9_does_532 (by decide) ?_
                          refine g_iconst hx hb dX9_does_534 ?_
                          refine g_bipush hx hb dX9_does_535 (by decide) ?_
                          refine lv_iload_n hx hb dX9_does_537 rfl (lv_at hl 2 rfl) ?_
                          refine lv_iload_n hx hb dX9_does_538 rfl (lv_at hl 3 rfl) ?_
                          refine lv_iload hx hb dX9_does_539 (lv_at hl 4 rfl) ?_
                          refine lv_iload hx hb dX9_does_541 (lv_at hl 5 rfl) ?_
                          have hf533 := hf507.kept (fun q h1 h2 => (o528 (q) (by omega)))
                          have hC534 := c_X9_row5 l g b0 n f524 h (pu Z 15 0) M aa P c0 a b x y ho532 hf533 hrg hat haa hc0 (by omega) hra hrb hrx hry
                          refine g_callVi (ci := 11) (C := RX9) (T := TX9) (N := 24) (As := [.int (zI 69), .int (zI 5), .int (zI 9), .int (zI a), .int (zI b), .int (zI x), .int (zI y)]) (rest := []) ⟨hx, hb, hml, hown, hts⟩ hK hM hC534 (cuV (n := 7) hts u_1253 u_1250 u_10 (by decide) u_1252 us_31 ⟨Nat.le_of_ble_eq_true rfl, Nat.le_of_ble_eq_true rfl⟩) ⟨by omega, by omega⟩ ho532 rfl rfl hl.1 rfl (Nat.le_of_ble_eq_true rfl) dX9_does_543 ⟨Nat.zero_le _, Nat.zero_le _⟩ (fun r543 f535 H locs hM hp536 => ?_)
                          obtain ⟨rfl, hn537, o538⟩ := hp536
                          obtain ⟨P1, hP1⟩ : ∃ Q : Nat → Int, Q = (sApp5 P c0 a b x y) := ⟨_, rfl⟩
                          rw [← hP1] at hn537
                          have hf539 : f535 (h) = .inr (11, [.int (zI (Z 0)), .ref (h + 1), .ref (h + 2), .ref (h + 3), .ref (h + 4), .ref (h + 5), .ref (h + 6), .ref (h + 7), .ref (h + 8), .int (zI (Z 9)), .int (zI (Z 10)), .int (zI (Z 11)), .int (zI (Z 12)), .int (zI (Z 13)), .int (zI (Z 14)), .int (zI 0), .int (zI (Z 16)), .ref (h + 9), .ref (h + 10), .ref (h + 11), .int (zI (Z 20)), .int (zI (Z 21)), .int (zI (Z 22)), .ref (h + 12)]) := (o538 (h) (by omega)).trans ho532
                          have hf540 := hsc.kept (fun q h1 h2 => ((o538 (q) (by omega)).trans ((o528 (q) (by omega)).trans ((o502 (q) (by omega)).trans ((o462 (q) (by omega)).trans (o2 (q) (by omega)))))))
                          refine g_iret hx hb hr hlk hK hM dX9_does_546 ?_
                          have hS : sRef P 5 a b x y (fl = 1) = 0 := by
                            rw [rf_5]
                            (repeat' split) <;> first | rfl | omega
                          have hF : sPf P 5 a b x y = ((↑c0 : Int), P1) := by
                            unfold sPf
                            rw [if_neg (by omega), if_neg (by omega), if_neg (by omega), if_neg (by omega), if_neg (by omega), if_pos rfl, hc0, Int.toNat_natCast, hP1]
                          obtain ⟨e1, e2, e3⟩ := d_yes hS hF
                          exact ⟨by rw [e1]; exact hf539, by rw [e2], by rw [e3]; exact hn537, hf540, (fun q hq => ((o538 (q) (by omega)).trans ((o528 (q) (by omega)).trans ((o502 (q) (by omega)).trans ((o462 (q) (by omega)).trans (o2 (q) (by omega)))))))⟩
                        · exact absurd c526 (by decide)
                      · skip
                        refine g_iconst hx hb dX9_does_517 ?_
                        refine lv_goto (tgt := 522) hx hb dX9_does_518 (by decide) ?_
                        refine g_iconst hx hb dX9_does_522 ?_
                        have hC541 := c_X9_refuses l g b0 n f498 h (pu Z 15 0) 1 3 ho506 hrg (pu_s _ _ _) (Or.inr rfl) (by decide)
                        refine g_callVi (ci := 11) (C := RX9) (T := TX9) (N := 24) (As := [.int (zI 1), .int (zI 3)]) (rest := []) ⟨hx, hb, hml, hown, hts⟩ hK hM hC541 (cuV (n := 2) hts u_1245 u_1242 u_10 (by decide) u_1244 us_29 ⟨Nat.le_of_ble_eq_true rfl, Nat.le_of_ble_eq_true rfl⟩) ⟨by omega, by omega⟩ ho506 rfl rfl hl.1 rfl (Nat.le_of_ble_eq_true rfl) dX9_does_523 ⟨Nat.zero_le _, Nat.zero_le _⟩ (fun r523 f542 H locs hM hp543 => ?_)
                        have hd544 := rf_alt hp543 (Or.inr rfl)
                        obtain ⟨rfl, hm547, o545⟩ := hd544.elim (fun q9 => q9.2) (fun q9 => absurd q9.1 (by decide))
                        have ho550 : f542 h = .inr (11, [.int (zI (Z 0)), .ref (h + 1), .ref (h + 2), .ref (h + 3), .ref (h + 4), .ref (h + 5), .ref (h + 6), .ref (h + 7), .ref (h + 8), .int (zI (Z 9)), .int (zI (Z 10)), .int (zI (Z 11)), .int (zI (Z 12)), .int (zI (Z 13)), .int (zI (Z 14)), .int (zI 3), .int (zI (Z 16)), .ref (h + 9), .ref (h + 10), .ref (h + 11), .int (zI (Z 20)), .int (zI (Z 21)), .int (zI (Z 22)), .ref (h + 12)]) := hm547
                        refine g_if_eq (tgt := 531) hx hb dX9_does_526 (by decide) (by decide) (fun c526 => ?_) (fun c526 => ?_)
                        · exact absurd c526 (by decide)
                        · skip
                          refine g_iconst hx hb dX9_does_529 ?_
                          have hf551 := hf507.kept (fun q h1 h2 => (o545 (q) (by omega)))
                          have hf552 := hsc.kept (fun q h1 h2 => ((o545 (q) (by omega)).trans ((o502 (q) (by omega)).trans ((o462 (q) (by omega)).trans (o2 (q) (by omega))))))
                          refine g_iret hx hb hr hlk hK hM dX9_does_530 ?_
                          have hS : sRef P 5 a b x y (fl = 1) = 3 := by
                            rw [rf_5]
                            (repeat' split) <;> first | rfl | omega
                          obtain ⟨e1, e2, e3⟩ := d_no hS (by decide)
                          exact ⟨by rw [e1]; exact ho550, by rw [e2], by rw [e3]; exact hf551, hf552, (fun q hq => ((o545 (q) (by omega)).trans ((o502 (q) (by omega)).trans ((o462 (q) (by omega)).trans (o2 (q) (by omega))))))⟩
                · skip
                  refine g_iconst hx hb dX9_does_488 ?_
                  refine lv_goto (tgt := 493) hx hb dX9_does_489 (by decide) ?_
                  refine g_iconst hx hb dX9_does_493 ?_
                  have hC553 := c_X9_refuses l g b0 n f458 h (pu Z 15 0) 1 2 ho466 hrg (pu_s _ _ _) (Or.inr rfl) (by decide)
                  refine g_callVi (ci := 11) (C := RX9) (T := TX9) (N := 24) (As := [.int (zI 1), .int (zI 2)]) (rest := []) ⟨hx, hb, hml, hown, hts⟩ hK hM hC553 (cuV (n := 2) hts u_1245 u_1242 u_10 (by decide) u_1244 us_29 ⟨Nat.le_of_ble_eq_true rfl, Nat.le_of_ble_eq_true rfl⟩) ⟨by omega, by omega⟩ ho466 rfl rfl hl.1 rfl (Nat.le_of_ble_eq_true rfl) dX9_does_494 ⟨Nat.zero_le _, Nat.zero_le _⟩ (fun r494 f554 H locs hM hp555 => ?_)
                  have hd556 := rf_alt hp555 (Or.inr rfl)
                  obtain ⟨rfl, hm559, o557⟩ := hd556.elim (fun q9 => q9.2) (fun q9 => absurd q9.1 (by decide))
                  have ho562 : f554 h = .inr (11, [.int (zI (Z 0)), .ref (h + 1), .ref (h + 2), .ref (h + 3), .ref (h + 4), .ref (h + 5), .ref (h + 6), .ref (h + 7), .ref (h + 8), .int (zI (Z 9)), .int (zI (Z 10)), .int (zI (Z 11)), .int (zI (Z 12)), .int (zI (Z 13)), .int (zI (Z 14)), .int (zI 2), .int (zI (Z 16)), .ref (h + 9), .ref (h + 10), .ref (h + 11), .int (zI (Z 20)), .int (zI (Z 21)), .int (zI (Z 22)), .ref (h + 12)]) := hm559
                  refine g_if_ne (tgt := 529) hx hb dX9_does_497 (by decide) (by decide) (fun c497 => ?_) (fun c497 => ?_)
                  · skip
                    refine g_iconst hx hb dX9_does_529 ?_
                    have hf563 := hf438.kept (fun q h1 h2 => ((o557 (q) (by omega)).trans (o462 (q) (by omega))))
                    have hf564 := hsc.kept (fun q h1 h2 => ((o557 (q) (by omega)).trans ((o462 (q) (by omega)).trans (o2 (q) (by omega)))))
                    refine g_iret hx hb hr hlk hK hM dX9_does_530 ?_
                    have hS : sRef P 5 a b x y (fl = 1) = 2 := by
                      rw [rf_5]
                      (repeat' split) <;> first | rfl | omega
                    obtain ⟨e1, e2, e3⟩ := d_no hS (by decide)
                    exact ⟨by rw [e1]; exact ho562, by rw [e2], by rw [e3]; exact hf563, hf564, (fun q hq => ((o557 (q) (by omega)).trans ((o462 (q) (by omega)).trans (o2 (q) (by omega)))))⟩
                  · exact absurd c497 (by decide)
        · skip
          refine g_iconst hx hb dX9_does_444 ?_
          refine lv_goto (tgt := 449) hx hb dX9_does_445 (by decide) ?_
          refine g_iconst hx hb dX9_does_449 ?_
          have hC565 := c_X9_refuses l g b0 n f1 h (pu Z 15 0) 1 1 hf3 hrg (pu_s _ _ _) (Or.inr rfl) (by decide)
          refine g_callVi (ci := 11) (C := RX9) (T := TX9) (N := 24) (As := [.int (zI 1), .int (zI 1)]) (rest := []) ⟨hx, hb, hml, hown, hts⟩ hK hM hC565 (cuV (n := 2) hts u_1245 u_1242 u_10 (by decide) u_1244 us_29 ⟨Nat.le_of_ble_eq_true rfl, Nat.le_of_ble_eq_true rfl⟩) ⟨by omega, by omega⟩ hf3 rfl rfl hl.1 rfl (Nat.le_of_ble_eq_true rfl) dX9_does_450 ⟨Nat.zero_le _, Nat.zero_le _⟩ (fun r450 f566 H locs hM hp567 => ?_)
          have hd568 := rf_alt hp567 (Or.inr rfl)
          obtain ⟨rfl, hm571, o569⟩ := hd568.elim (fun q9 => q9.2) (fun q9 => absurd q9.1 (by decide))
          have ho574 : f566 h = .inr (11, [.int (zI (Z 0)), .ref (h + 1), .ref (h + 2), .ref (h + 3), .ref (h + 4), .ref (h + 5), .ref (h + 6), .ref (h + 7), .ref (h + 8), .int (zI (Z 9)), .int (zI (Z 10)), .int (zI (Z 11)), .int (zI (Z 12)), .int (zI (Z 13)), .int (zI (Z 14)), .int (zI 1), .int (zI (Z 16)), .ref (h + 9), .ref (h + 10), .ref (h + 11), .int (zI (Z 20)), .int (zI (Z 21)), .int (zI (Z 22)), .ref (h + 12)]) := hm571
          refine g_if_ne (tgt := 529) hx hb dX9_does_453 (by decide) (by decide) (fun c453 => ?_) (fun c453 => ?_)
          · skip
            refine g_iconst hx hb dX9_does_529 ?_
            have hf575 := hf438.kept (fun q h1 h2 => (o569 (q) (by omega)))
            have hf576 := hsc.kept (fun q h1 h2 => ((o569 (q) (by omega)).trans (o2 (q) (by omega))))
            refine g_iret hx hb hr hlk hK hM dX9_does_530 ?_
            have hS : sRef P 5 a b x y (fl = 1) = 1 := by
              rw [rf_5]
              (repeat' split) <;> first | rfl | omega
            obtain ⟨e1, e2, e3⟩ := d_no hS (by decide)
            exact ⟨by rw [e1]; exact ho574, by rw [e2], by rw [e3]; exact hf575, hf576, (fun q hq => ((o569 (q) (by omega)).trans (o2 (q) (by omega))))⟩
          · exact absurd c453 (by decide)
    · refine lv_tableIn (off := 541) (tgt := 547) hx hb dX9_does_6 (by rw [hz6, c6]; decide) (by rw [hz6, c6]; decide) (by rw [hz6, c6]; decide) (by decide) ?_
      subst c6
      refine lv_aload_n hx hb dX9_does_547 rfl (lv_at hl 0 rfl) ?_
      refine lv_iload_n hx hb dX9_does_548 rfl (lv_at hl 2 rfl) ?_
      refine g_i2l hx hb dX9_does_549 hra ?_
      refine g_lconst (z := 0) hx hb dX9_does_550 (by decide) ?_
      refine lv_aload_n hx hb dX9_does_551 rfl (lv_at hl 0 rfl) ?_
      refine g_bipush hx hb dX9_does_552 (by decide) ?_
      have hf577 := hP.kept (fun q h1 h2 => (o2 (q) (by omega)))
      have hC578 := c_X9_n l g b0 n f1 h (pu Z 15 0) M aa P 9 (9) hf3 hf577 hrg hat haa (by omega) (by omega)
      refine g_callVi (ci := 11) (C := RX9) (T := TX9) (N := 24) (As := [.int (zI 9)]) (rest := [.long (zL 0), .long (zL a), .ref h]) ⟨hx, hb, hml, hown, hts⟩ hK hM hC578 (cuV (n := 1) hts u_1249 u_1246 u_10 (by decide) u_1248 us_30 ⟨Nat.le_of_ble_eq_true rfl, Nat.le_of_ble_eq_true rfl⟩) ⟨by omega, by omega⟩ hf3 rfl rfl hl.1 rfl (Nat.le_of_ble_eq_true rfl) dX9_does_554 ⟨Nat.zero_le _, Nat.zero_le _⟩ (fun r554 f579 H locs hM hp580 => ?_)
      obtain ⟨rfl, rfl⟩ := hp580
      refine g_iconst hx hb dX9_does_557 ?_
      refine g_isub hx hb dX9_does_558 ?_
      refine g_i2l hx hb dX9_does_559 ⟨by omega, by omega⟩ ?_
      have hC581 := c_X9_in l g b0 n f1 a 0 ((P 9) - 1) (rI_L hra) (by decide) ⟨by omega, by omega⟩
      refine g_callSi (As := [.long (zL a), .long (zL 0), .long (zL ((P 9) - 1))]) (rest := [.ref h]) ⟨hx, hb, hml, hown, hts⟩ hK hM hC581 (cuS (n := 3) hts u_1240 u_1238 u_10 (by decide) u_1239 ⟨Nat.le_of_ble_eq_true rfl, Nat.le_of_ble_eq_true rfl⟩) rfl hl.1 rfl (Nat.le_of_ble_eq_true rfl) dX9_does_560 ⟨Nat.zero_le _, Nat.zero_le _⟩ (fun r560 f582 H locs hM hp583 => ?_)
      obtain ⟨rfl, rfl⟩ := hp583
      refine g_ifb_ne (tgt := 570) hx hb dX9_does_563 (by decide) (fun c563 => ?_) (fun c563 => ?_)
      · skip
        refine g_iconst hx hb dX9_does_570 ?_
        refine g_iconst hx hb dX9_does_571 ?_
        have hC584 := c_X9_refuses l g b0 n f1 h (pu Z 15 0) 0 1 hf3 hrg (pu_s _ _ _) (Or.inl rfl) (by decide)
        refine g_callVi (ci := 11) (C := RX9) (T := TX9) (N := 24) (As := [.int (zI 0), .int (zI 1)]) (rest := []) ⟨hx, hb, hml, hown, hts⟩ hK hM hC584 (cuV (n := 2) hts u_1245 u_1242 u_10 (by decide) u_1244 us_29 ⟨Nat.le_of_ble_eq_true rfl, Nat.le_of_ble_eq_true rfl⟩) ⟨by omega, by omega⟩ hf3 rfl rfl hl.1 rfl (Nat.le_of_ble_eq_true rfl) dX9_does_572 ⟨Nat.zero_le _, Nat.zero_le _⟩ (fun r572 f585 H locs hM hp586 => ?_)
        have hd587 := rf_alt hp586 (Or.inl rfl)
        obtain ⟨rfl, hm591, o589⟩ := hd587.elim (fun q9 => absurd q9.1 (by decide)) (fun q9 => q9.2)
        have ho593 : f585 h = .inr (11, [.int (zI (Z 0)), .ref (h + 1), .ref (h + 2), .ref (h + 3), .ref (h + 4), .ref (h + 5), .ref (h + 6), .ref (h + 7), .ref (h + 8), .int (zI (Z 9)), .int (zI (Z 10)), .int (zI (Z 11)), .int (zI (Z 12)), .int (zI (Z 13)), .int (zI (Z 14)), .int (zI 0), .int (zI (Z 16)), .ref (h + 9), .ref (h + 10), .ref (h + 11), .int (zI (Z 20)), .int (zI (Z 21)), .int (zI (Z 22)), .ref (h + 12)]) := hm591
        refine g_if_ne (tgt := 588) hx hb dX9_does_575 (by decide) (by decide) (fun c575 => ?_) (fun c575 => ?_)
        · exact absurd c575 (by decide)
        · skip
          refine lv_aload_n hx hb dX9_does_578 rfl (lv_at hl 0 rfl) ?_
          refine lv_iload hx hb dX9_does_579 (lv_at hl 6 rfl) ?_
          refine g_iconst hx hb dX9_does_581 ?_
          have hC594 := c_X9_refuses l g b0 n f585 h (pu Z 15 0) fl 3 ho593 hrg (pu_s _ _ _) hfl (by decide)
          refine g_callVi (ci := 11) (C := RX9) (T := TX9) (N := 24) (As := [.int (zI fl), .int (zI 3)]) (rest := []) ⟨hx, hb, hml, hown, hts⟩ hK hM hC594 (cuV (n := 2) hts u_1245 u_1242 u_10 (by decide) u_1244 us_29 ⟨Nat.le_of_ble_eq_true rfl, Nat.le_of_ble_eq_true rfl⟩) ⟨by omega, by omega⟩ ho593 rfl rfl hl.1 rfl (Nat.le_of_ble_eq_true rfl) dX9_does_582 ⟨Nat.zero_le _, Nat.zero_le _⟩ (fun r582 f595 H locs hM hp596 => ?_)
          have hd597 := rf_alt hp596 hfl
          rcases hd597 with ⟨hq602, rfl, hm600, o598⟩ | ⟨hq602, rfl, hm601, o599⟩
          · skip
            have ho603 : f595 h = .inr (11, [.int (zI (Z 0)), .ref (h + 1), .ref (h + 2), .ref (h + 3), .ref (h + 4), .ref (h + 5), .ref (h + 6), .ref (h + 7), .ref (h + 8), .int (zI (Z 9)), .int (zI (Z 10)), .int (zI (Z 11)), .int (zI (Z 12)), .int (zI (Z 13)), .int (zI (Z 14)), .int (zI 3), .int (zI (Z 16)), .ref (h + 9), .ref (h + 10), .ref (h + 11), .int (zI (Z 20)), .int (zI (Z 21)), .int (zI (Z 22)), .ref (h + 12)]) := hm600
            refine g_if_eq (tgt := 590) hx hb dX9_does_585 (by decide) (by decide) (fun c585 => ?_) (fun c585 => ?_)
            · exact absurd c585 (by decide)
            · skip
              refine g_iconst hx hb dX9_does_588 ?_
              have hf604 := hf577.kept (fun q h1 h2 => ((o598 (q) (by omega)).trans (o589 (q) (by omega))))
              have hf605 := hsc.kept (fun q h1 h2 => ((o598 (q) (by omega)).trans ((o589 (q) (by omega)).trans (o2 (q) (by omega)))))
              refine g_iret hx hb hr hlk hK hM dX9_does_589 ?_
              have hS : sRef P 6 a b x y (fl = 1) = 3 := by
                rw [rf_6]
                (repeat' split) <;> first | rfl | omega
              obtain ⟨e1, e2, e3⟩ := d_no hS (by decide)
              exact ⟨by rw [e1]; exact ho603, by rw [e2], by rw [e3]; exact hf604, hf605, (fun q hq => ((o598 (q) (by omega)).trans ((o589 (q) (by omega)).trans (o2 (q) (by omega)))))⟩
          · skip
            have ho606 : f595 h = .inr (11, [.int (zI (Z 0)), .ref (h + 1), .ref (h + 2), .ref (h + 3), .ref (h + 4), .ref (h + 5), .ref (h + 6), .ref (h + 7), .ref (h + 8), .int (zI (Z 9)), .int (zI (Z 10)), .int (zI (Z 11)), .int (zI (Z 12)), .int (zI (Z 13)), .int (zI (Z 14)), .int (zI 0), .int (zI (Z 16)), .ref (h + 9), .ref (h + 10), .ref (h + 11), .int (zI (Z 20)), .int (zI (Z 21)), .int (zI (Z 22)), .ref (h + 12)]) := hm601
            refine g_if_eq (tgt := 590) hx hb dX9_does_585 (by decide) (by decide) (fun c585 => ?_) (fun c585 => ?_)
            · skip
              have hae : ((a.toNat : Nat) : Int) = a := by omega
              refine lv_aload_n hx hb dX9_does_590 rfl (lv_at hl 0 rfl) ?_
              refine g_bipush hx hb dX9_does_591 (by decide) ?_
              refine g_iconst hx hb dX9_does_593 ?_
              refine g_bipush hx hb dX9_does_594 (by decide) ?_
              refine lv_iload_n hx hb dX9_does_596 rfl (lv_at hl 2 rfl) ?_
              have hf607 := hf577.kept (fun q h1 h2 => ((o599 (q) (by omega)).trans (o589 (q) (by omega))))
              have hq608 := c_X9_removes5 l g b0 n f595 h (pu Z 15 0) M aa P a.toNat ho606 hf607 hrg hat haa hcn9 (by omega)
              rw [hae] at hq608
              have hC609 := hq608
              refine g_callVi (ci := 11) (C := RX9) (T := TX9) (N := 24) (As := [.int (zI 69), .int (zI 5), .int (zI 9), .int (zI a)]) (rest := []) ⟨hx, hb, hml, hown, hts⟩ hK hM hC609 (cuV (n := 4) hts u_1279 u_1276 u_10 (by decide) u_1278 us_36 ⟨Nat.le_of_ble_eq_true rfl, Nat.le_of_ble_eq_true rfl⟩) ⟨by omega, by omega⟩ ho606 rfl rfl hl.1 rfl (Nat.le_of_ble_eq_true rfl) dX9_does_597 ⟨Nat.zero_le _, Nat.zero_le _⟩ (fun r597 f610 H locs hM hp611 => ?_)
              obtain ⟨rfl, hn612, o613⟩ := hp611
              obtain ⟨P1, hP1⟩ : ∃ Q : Nat → Int, Q = (sRem P 69 5 9 a.toNat) := ⟨_, rfl⟩
              rw [← hP1] at hn612
              have hf614 : f610 (h) = .inr (11, [.int (zI (Z 0)), .ref (h + 1), .ref (h + 2), .ref (h + 3), .ref (h + 4), .ref (h + 5), .ref (h + 6), .ref (h + 7), .ref (h + 8), .int (zI (Z 9)), .int (zI (Z 10)), .int (zI (Z 11)), .int (zI (Z 12)), .int (zI (Z 13)), .int (zI (Z 14)), .int (zI 0), .int (zI (Z 16)), .ref (h + 9), .ref (h + 10), .ref (h + 11), .int (zI (Z 20)), .int (zI (Z 21)), .int (zI (Z 22)), .ref (h + 12)]) := (o613 (h) (by omega)).trans ho606
              have hf615 := hsc.kept (fun q h1 h2 => ((o613 (q) (by omega)).trans ((o599 (q) (by omega)).trans ((o589 (q) (by omega)).trans (o2 (q) (by omega))))))
              refine g_iret hx hb hr hlk hK hM dX9_does_600 ?_
              have hS : sRef P 6 a b x y (fl = 1) = 0 := by
                rw [rf_6]
                (repeat' split) <;> first | rfl | omega
              have hF : sPf P 6 a b x y = ((P 9 - 1), P1) := by
                unfold sPf
                rw [if_neg (by omega), if_neg (by omega), if_neg (by omega), if_neg (by omega), if_neg (by omega), if_neg (by omega), if_pos rfl, hP1]
              obtain ⟨e1, e2, e3⟩ := d_yes hS hF
              exact ⟨by rw [e1]; exact hf614, by rw [e2], by rw [e3]; exact hn612, hf615, (fun q hq => ((o613 (q) (by omega)).trans ((o599 (q) (by omega)).trans ((o589 (q) (by omega)).trans (o2 (q) (by omega))))))⟩
            · exact absurd c585 (by decide)
      · skip
        refine g_iconst hx hb dX9_does_566 ?_
        refine lv_goto (tgt := 571) hx hb dX9_does_567 (by decide) ?_
        refine g_iconst hx hb dX9_does_571 ?_
        have hC616 := c_X9_refuses l g b0 n f1 h (pu Z 15 0) 1 1 hf3 hrg (pu_s _ _ _) (Or.inr rfl) (by decide)
        refine g_callVi (ci := 11) (C := RX9) (T := TX9) (N := 24) (As := [.int (zI 1), .int (zI 1)]) (rest := []) ⟨hx, hb, hml, hown, hts⟩ hK hM hC616 (cuV (n := 2) hts u_1245 u_1242 u_10 (by decide) u_1244 us_29 ⟨Nat.le_of_ble_eq_true rfl, Nat.le_of_ble_eq_true rfl⟩) ⟨by omega, by omega⟩ hf3 rfl rfl hl.1 rfl (Nat.le_of_ble_eq_true rfl) dX9_does_572 ⟨Nat.zero_le _, Nat.zero_le _⟩ (fun r572 f617 H locs hM hp618 => ?_)
        have hd619 := rf_alt hp618 (Or.inr rfl)
        obtain ⟨rfl, hm622, o620⟩ := hd619.elim (fun q9 => q9.2) (fun q9 => absurd q9.1 (by decide))
        have ho625 : f617 h = .inr (11, [.int (zI (Z 0)), .ref (h + 1), .ref (h + 2), .ref (h + 3), .ref (h + 4), .ref (h + 5), .ref (h + 6), .ref (h + 7), .ref (h + 8), .int (zI (Z 9)), .int (zI (Z 10)), .int (zI (Z 11)), .int (zI (Z 12)), .int (zI (Z 13)), .int (zI (Z 14)), .int (zI 1), .int (zI (Z 16)), .ref (h + 9), .ref (h + 10), .ref (h + 11), .int (zI (Z 20)), .int (zI (Z 21)), .int (zI (Z 22)), .ref (h + 12)]) := hm622
        refine g_if_ne (tgt := 588) hx hb dX9_does_575 (by decide) (by decide) (fun c575 => ?_) (fun c575 => ?_)
        · skip
          refine g_iconst hx hb dX9_does_588 ?_
          have hf626 := hf577.kept (fun q h1 h2 => (o620 (q) (by omega)))
          have hf627 := hsc.kept (fun q h1 h2 => ((o620 (q) (by omega)).trans (o2 (q) (by omega))))
          refine g_iret hx hb hr hlk hK hM dX9_does_589 ?_
          have hS : sRef P 6 a b x y (fl = 1) = 1 := by
            rw [rf_6]
            (repeat' split) <;> first | rfl | omega
          obtain ⟨e1, e2, e3⟩ := d_no hS (by decide)
          exact ⟨by rw [e1]; exact ho625, by rw [e2], by rw [e3]; exact hf626, hf627, (fun q hq => ((o620 (q) (by omega)).trans (o2 (q) (by omega))))⟩
        · exact absurd c575 (by decide)
    · refine lv_tableIn (off := 595) (tgt := 601) hx hb dX9_does_6 (by rw [hz6, c6]; decide) (by rw [hz6, c6]; decide) (by rw [hz6, c6]; decide) (by decide) ?_
      subst c6
      refine lv_aload_n hx hb dX9_does_601 rfl (lv_at hl 0 rfl) ?_
      refine lv_iload_n hx hb dX9_does_602 rfl (lv_at hl 2 rfl) ?_
      refine lv_iload_n hx hb dX9_does_603 rfl (lv_at hl 3 rfl) ?_
      refine lv_iload hx hb dX9_does_604 (lv_at hl 4 rfl) ?_
      refine lv_iload hx hb dX9_does_606 (lv_at hl 5 rfl) ?_
      refine lv_iload hx hb dX9_does_608 (lv_at hl 6 rfl) ?_
      have hf628 := hP.kept (fun q h1 h2 => (o2 (q) (by omega)))
      have hC629 := c_X9_item l g b0 n f1 h (pu Z 15 0) M aa P a b x y fl v0 hf3 hf628 hrg hat haa (pu_s _ _ _) hfl hra hrb hrx hry hok hv1 hv0
      refine g_callVi (ci := 11) (C := RX9) (T := TX9) (N := 24) (As := [.int (zI a), .int (zI b), .int (zI x), .int (zI y), .int (zI fl)]) (rest := []) ⟨hx, hb, hml, hown, hts⟩ hK hM hC629 (cuV (n := 5) hts u_1287 u_1284 u_10 (by decide) u_1286 us_38 ⟨Nat.le_of_ble_eq_true rfl, Nat.le_of_ble_eq_true rfl⟩) ⟨by omega, by omega⟩ hf3 rfl rfl hl.1 rfl (Nat.le_of_ble_eq_true rfl) dX9_does_610 ⟨Nat.zero_le _, Nat.zero_le _⟩ (fun r610 f630 H locs hM hp631 => ?_)
      obtain ⟨hm632, rfl, hn633, o634⟩ := hp631
      have hf635 := hsc.kept (fun q h1 h2 => ((o634 (q) (by omega)).trans (o2 (q) (by omega))))
      refine g_iret hx hb hr hlk hK hM dX9_does_613 ?_
      exact ⟨hm632, rfl, hn633, hf635, (fun q hq => ((o634 (q) (by omega)).trans (o2 (q) (by omega))))⟩
    · refine lv_tableIn (off := 608) (tgt := 614) hx hb dX9_does_6 (by rw [hz6, c6]; decide) (by rw [hz6, c6]; decide) (by rw [hz6, c6]; decide) (by decide) ?_
      subst c6
      refine lv_aload_n hx hb dX9_does_614 rfl (lv_at hl 0 rfl) ?_
      refine lv_iload_n hx hb dX9_does_615 rfl (lv_at hl 2 rfl) ?_
      refine g_i2l hx hb dX9_does_616 hra ?_
      refine g_lconst (z := 0) hx hb dX9_does_617 (by decide) ?_
      refine lv_aload_n hx hb dX9_does_618 rfl (lv_at hl 0 rfl) ?_
      refine g_bipush hx hb dX9_does_619 (by decide) ?_
      have hf636 := hP.kept (fun q h1 h2 => (o2 (q) (by omega)))
      have hC637 := c_X9_n l g b0 n f1 h (pu Z 15 0) M aa P 10 (10) hf3 hf636 hrg hat haa (by omega) (by omega)
      refine g_callVi (ci := 11) (C := RX9) (T := TX9) (N := 24) (As := [.int (zI 10)]) (rest := [.long (zL 0), .long (zL a), .ref h]) ⟨hx, hb, hml, hown, hts⟩ hK hM hC637 (cuV (n := 1) hts u_1249 u_1246 u_10 (by decide) u_1248 us_30 ⟨Nat.le_of_ble_eq_true rfl, Nat.le_of_ble_eq_true rfl⟩) ⟨by omega, by omega⟩ hf3 rfl rfl hl.1 rfl (Nat.le_of_ble_eq_true rfl) dX9_does_621 ⟨Nat.zero_le _, Nat.zero_le _⟩ (fun r621 f638 H locs hM hp639 => ?_)
      obtain ⟨rfl, rfl⟩ := hp639
      refine g_iconst hx hb dX9_does_624 ?_
      refine g_isub hx hb dX9_does_625 ?_
      refine g_i2l hx hb dX9_does_626 ⟨by omega, by omega⟩ ?_
      have hC640 := c_X9_in l g b0 n f1 a 0 ((P 10) - 1) (rI_L hra) (by decide) ⟨by omega, by omega⟩
      refine g_callSi (As := [.long (zL a), .long (zL 0), .long (zL ((P 10) - 1))]) (rest := [.ref h]) ⟨hx, hb, hml, hown, hts⟩ hK hM hC640 (cuS (n := 3) hts u_1240 u_1238 u_10 (by decide) u_1239 ⟨Nat.le_of_ble_eq_true rfl, Nat.le_of_ble_eq_true rfl⟩) rfl hl.1 rfl (Nat.le_of_ble_eq_true rfl) dX9_does_627 ⟨Nat.zero_le _, Nat.zero_le _⟩ (fun r627 f641 H locs hM hp642 => ?_)
      obtain ⟨rfl, rfl⟩ := hp642
      refine g_ifb_ne (tgt := 637) hx hb dX9_does_630 (by decide) (fun c630 => ?_) (fun c630 => ?_)
      · skip
        refine g_iconst hx hb dX9_does_637 ?_
        refine g_iconst hx hb dX9_does_638 ?_
        have hC643 := c_X9_refuses l g b0 n f1 h (pu Z 15 0) 0 1 hf3 hrg (pu_s _ _ _) (Or.inl rfl) (by decide)
        refine g_callVi (ci := 11) (C := RX9) (T := TX9) (N := 24) (As := [.int (zI 0), .int (zI 1)]) (rest := []) ⟨hx, hb, hml, hown, hts⟩ hK hM hC643 (cuV (n := 2) hts u_1245 u_1242 u_10 (by decide) u_1244 us_29 ⟨Nat.le_of_ble_eq_true rfl, Nat.le_of_ble_eq_true rfl⟩) ⟨by omega, by omega⟩ hf3 rfl rfl hl.1 rfl (Nat.le_of_ble_eq_true rfl) dX9_does_639 ⟨Nat.zero_le _, Nat.zero_le _⟩ (fun r639 f644 H locs hM hp645 => ?_)
        have hd646 := rf_alt hp645 (Or.inl rfl)
        obtain ⟨rfl, hm650, o648⟩ := hd646.elim (fun q9 => absurd q9.1 (by decide)) (fun q9 => q9.2)
        have ho652 : f644 h = .inr (11, [.int (zI (Z 0)), .ref (h + 1), .ref (h + 2), .ref (h + 3), .ref (h + 4), .ref (h + 5), .ref (h + 6), .ref (h + 7), .ref (h + 8), .int (zI (Z 9)), .int (zI (Z 10)), .int (zI (Z 11)), .int (zI (Z 12)), .int (zI (Z 13)), .int (zI (Z 14)), .int (zI 0), .int (zI (Z 16)), .ref (h + 9), .ref (h + 10), .ref (h + 11), .int (zI (Z 20)), .int (zI (Z 21)), .int (zI (Z 22)), .ref (h + 12)]) := hm650
        refine g_if_ne (tgt := 655) hx hb dX9_does_642 (by decide) (by decide) (fun c642 => ?_) (fun c642 => ?_)
        · exact absurd c642 (by decide)
        · skip
          refine lv_aload_n hx hb dX9_does_645 rfl (lv_at hl 0 rfl) ?_
          refine lv_iload hx hb dX9_does_646 (lv_at hl 6 rfl) ?_
          refine g_iconst hx hb dX9_does_648 ?_
          have hC653 := c_X9_refuses l g b0 n f644 h (pu Z 15 0) fl 3 ho652 hrg (pu_s _ _ _) hfl (by decide)
          refine g_callVi (ci := 11) (C := RX9) (T := TX9) (N := 24) (As := [.int (zI fl), .int (zI 3)]) (rest := []) ⟨hx, hb, hml, hown, hts⟩ hK hM hC653 (cuV (n := 2) hts u_1245 u_1242 u_10 (by decide) u_1244 us_29 ⟨Nat.le_of_ble_eq_true rfl, Nat.le_of_ble_eq_true rfl⟩) ⟨by omega, by omega⟩ ho652 rfl rfl hl.1 rfl (Nat.le_of_ble_eq_true rfl) dX9_does_649 ⟨Nat.zero_le _, Nat.zero_le _⟩ (fun r649 f654 H locs hM hp655 => ?_)
          have hd656 := rf_alt hp655 hfl
          rcases hd656 with ⟨hq661, rfl, hm659, o657⟩ | ⟨hq661, rfl, hm660, o658⟩
          · skip
            have ho662 : f654 h = .inr (11, [.int (zI (Z 0)), .ref (h + 1), .ref (h + 2), .ref (h + 3), .ref (h + 4), .ref (h + 5), .ref (h + 6), .ref (h + 7), .ref (h + 8), .int (zI (Z 9)), .int (zI (Z 10)), .int (zI (Z 11)), .int (zI (Z 12)), .int (zI (Z 13)), .int (zI (Z 14)), .int (zI 3), .int (zI (Z 16)), .ref (h + 9), .ref (h + 10), .ref (h + 11), .int (zI (Z 20)), .int (zI (Z 21)), .int (zI (Z 22)), .ref (h + 12)]) := hm659
            refine g_if_eq (tgt := 657) hx hb dX9_does_652 (by decide) (by decide) (fun c652 => ?_) (fun c652 => ?_)
            · exact absurd c652 (by decide)
            · skip
              refine g_iconst hx hb dX9_does_655 ?_
              have hf663 := hf636.kept (fun q h1 h2 => ((o657 (q) (by omega)).trans (o648 (q) (by omega))))
              have hf664 := hsc.kept (fun q h1 h2 => ((o657 (q) (by omega)).trans ((o648 (q) (by omega)).trans (o2 (q) (by omega)))))
              refine g_iret hx hb hr hlk hK hM dX9_does_656 ?_
              have hS : sRef P 8 a b x y (fl = 1) = 3 := by
                rw [rf_8]
                (repeat' split) <;> first | rfl | omega
              obtain ⟨e1, e2, e3⟩ := d_no hS (by decide)
              exact ⟨by rw [e1]; exact ho662, by rw [e2], by rw [e3]; exact hf663, hf664, (fun q hq => ((o657 (q) (by omega)).trans ((o648 (q) (by omega)).trans (o2 (q) (by omega)))))⟩
          · skip
            have ho665 : f654 h = .inr (11, [.int (zI (Z 0)), .ref (h + 1), .ref (h + 2), .ref (h + 3), .ref (h + 4), .ref (h + 5), .ref (h + 6), .ref (h + 7), .ref (h + 8), .int (zI (Z 9)), .int (zI (Z 10)), .int (zI (Z 11)), .int (zI (Z 12)), .int (zI (Z 13)), .int (zI (Z 14)), .int (zI 0), .int (zI (Z 16)), .ref (h + 9), .ref (h + 10), .ref (h + 11), .int (zI (Z 20)), .int (zI (Z 21)), .int (zI (Z 22)), .ref (h + 12)]) := hm660
            refine g_if_eq (tgt := 657) hx hb dX9_does_652 (by decide) (by decide) (fun c652 => ?_) (fun c652 => ?_)
            · skip
              have hae : ((a.toNat : Nat) : Int) = a := by omega
              refine lv_aload_n hx hb dX9_does_657 rfl (lv_at hl 0 rfl) ?_
              refine g_bipush hx hb dX9_does_658 (by decide) ?_
              refine g_bipush hx hb dX9_does_660 (by decide) ?_
              refine g_bipush hx hb dX9_does_662 (by decide) ?_
              refine lv_iload_n hx hb dX9_does_664 rfl (lv_at hl 2 rfl) ?_
              have hf666 := hf636.kept (fun q h1 h2 => ((o658 (q) (by omega)).trans (o648 (q) (by omega))))
              have hq667 := c_X9_removes6 l g b0 n f654 h (pu Z 15 0) M aa P a.toNat ho665 hf666 hrg hat haa hcn10 (by omega)
              rw [hae] at hq667
              have hC668 := hq667
              refine g_callVi (ci := 11) (C := RX9) (T := TX9) (N := 24) (As := [.int (zI 99), .int (zI 6), .int (zI 10), .int (zI a)]) (rest := []) ⟨hx, hb, hml, hown, hts⟩ hK hM hC668 (cuV (n := 4) hts u_1279 u_1276 u_10 (by decide) u_1278 us_36 ⟨Nat.le_of_ble_eq_true rfl, Nat.le_of_ble_eq_true rfl⟩) ⟨by omega, by omega⟩ ho665 rfl rfl hl.1 rfl (Nat.le_of_ble_eq_true rfl) dX9_does_665 ⟨Nat.zero_le _, Nat.zero_le _⟩ (fun r665 f669 H locs hM hp670 => ?_)
              obtain ⟨rfl, hn671, o672⟩ := hp670
              obtain ⟨P1, hP1⟩ : ∃ Q : Nat → Int, Q = (sRem P 99 6 10 a.toNat) := ⟨_, rfl⟩
              rw [← hP1] at hn671
              have hf673 : f669 (h) = .inr (11, [.int (zI (Z 0)), .ref (h + 1), .ref (h + 2), .ref (h + 3), .ref (h + 4), .ref (h + 5), .ref (h + 6), .ref (h + 7), .ref (h + 8), .int (zI (Z 9)), .int (zI (Z 10)), .int (zI (Z 11)), .int (zI (Z 12)), .int (zI (Z 13)), .int (zI (Z 14)), .int (zI 0), .int (zI (Z 16)), .ref (h + 9), .ref (h + 10), .ref (h + 11), .int (zI (Z 20)), .int (zI (Z 21)), .int (zI (Z 22)), .ref (h + 12)]) := (o672 (h) (by omega)).trans ho665
              have hf674 := hsc.kept (fun q h1 h2 => ((o672 (q) (by omega)).trans ((o658 (q) (by omega)).trans ((o648 (q) (by omega)).trans (o2 (q) (by omega))))))
              refine g_iret hx hb hr hlk hK hM dX9_does_668 ?_
              have hS : sRef P 8 a b x y (fl = 1) = 0 := by
                rw [rf_8]
                (repeat' split) <;> first | rfl | omega
              have hF : sPf P 8 a b x y = ((P 10 - 1), P1) := by
                unfold sPf
                rw [if_neg (by omega), if_neg (by omega), if_neg (by omega), if_neg (by omega), if_neg (by omega), if_neg (by omega), if_neg (by omega), if_neg (by omega), if_pos rfl, hP1]
              obtain ⟨e1, e2, e3⟩ := d_yes hS hF
              exact ⟨by rw [e1]; exact hf673, by rw [e2], by rw [e3]; exact hn671, hf674, (fun q hq => ((o672 (q) (by omega)).trans ((o658 (q) (by omega)).trans ((o648 (q) (by omega)).trans (o2 (q) (by omega))))))⟩
            · exact absurd c652 (by decide)
      · skip
        refine g_iconst hx hb dX9_does_633 ?_
        refine lv_goto (tgt := 638) hx hb dX9_does_634 (by decide) ?_
        refine g_iconst hx hb dX9_does_638 ?_
        have hC675 := c_X9_refuses l g b0 n f1 h (pu Z 15 0) 1 1 hf3 hrg (pu_s _ _ _) (Or.inr rfl) (by decide)
        refine g_callVi (ci := 11) (C := RX9) (T := TX9) (N := 24) (As := [.int (zI 1), .int (zI 1)]) (rest := []) ⟨hx, hb, hml, hown, hts⟩ hK hM hC675 (cuV (n := 2) hts u_1245 u_1242 u_10 (by decide) u_1244 us_29 ⟨Nat.le_of_ble_eq_true rfl, Nat.le_of_ble_eq_true rfl⟩) ⟨by omega, by omega⟩ hf3 rfl rfl hl.1 rfl (Nat.le_of_ble_eq_true rfl) dX9_does_639 ⟨Nat.zero_le _, Nat.zero_le _⟩ (fun r639 f676 H locs hM hp677 => ?_)
        have hd678 := rf_alt hp677 (Or.inr rfl)
        obtain ⟨rfl, hm681, o679⟩ := hd678.elim (fun q9 => q9.2) (fun q9 => absurd q9.1 (by decide))
        have ho684 : f676 h = .inr (11, [.int (zI (Z 0)), .ref (h + 1), .ref (h + 2), .ref (h + 3), .ref (h + 4), .ref (h + 5), .ref (h + 6), .ref (h + 7), .ref (h + 8), .int (zI (Z 9)), .int (zI (Z 10)), .int (zI (Z 11)), .int (zI (Z 12)), .int (zI (Z 13)), .int (zI (Z 14)), .int (zI 1), .int (zI (Z 16)), .ref (h + 9), .ref (h + 10), .ref (h + 11), .int (zI (Z 20)), .int (zI (Z 21)), .int (zI (Z 22)), .ref (h + 12)]) := hm681
        refine g_if_ne (tgt := 655) hx hb dX9_does_642 (by decide) (by decide) (fun c642 => ?_) (fun c642 => ?_)
        · skip
          refine g_iconst hx hb dX9_does_655 ?_
          have hf685 := hf636.kept (fun q h1 h2 => (o679 (q) (by omega)))
          have hf686 := hsc.kept (fun q h1 h2 => ((o679 (q) (by omega)).trans (o2 (q) (by omega))))
          refine g_iret hx hb hr hlk hK hM dX9_does_656 ?_
          have hS : sRef P 8 a b x y (fl = 1) = 1 := by
            rw [rf_8]
            (repeat' split) <;> first | rfl | omega
          obtain ⟨e1, e2, e3⟩ := d_no hS (by decide)
          exact ⟨by rw [e1]; exact ho684, by rw [e2], by rw [e3]; exact hf685, hf686, (fun q hq => ((o679 (q) (by omega)).trans (o2 (q) (by omega))))⟩
        · exact absurd c642 (by decide)
    · refine lv_tableIn (off := 663) (tgt := 669) hx hb dX9_does_6 (by rw [hz6, c6]; decide) (by rw [hz6, c6]; decide) (by rw [hz6, c6]; decide) (by decide) ?_
      subst c6
      refine lv_aload_n hx hb dX9_does_669 rfl (lv_at hl 0 rfl) ?_
      refine lv_iload_n hx hb dX9_does_670 rfl (lv_at hl 2 rfl) ?_
      refine g_i2l hx hb dX9_does_671 hra ?_
      refine g_lconst (z := 1) hx hb dX9_does_672 (by decide) ?_
      refine g_ldc2 (z := 1000000) hx hb hown (hts _ u_1273) dX9_does_673 (by decide) ?_
      have hC687 := c_X9_in l g b0 n f1 a 1 1000000 (rI_L hra) (by decide) (by decide)
      refine g_callSi (As := [.long (zL a), .long (zL 1), .long (zL 1000000)]) (rest := [.ref h]) ⟨hx, hb, hml, hown, hts⟩ hK hM hC687 (cuS (n := 3) hts u_1240 u_1238 u_10 (by decide) u_1239 ⟨Nat.le_of_ble_eq_true rfl, Nat.le_of_ble_eq_true rfl⟩) rfl hl.1 rfl (Nat.le_of_ble_eq_true rfl) dX9_does_676 ⟨Nat.zero_le _, Nat.zero_le _⟩ (fun r676 f688 H locs hM hp689 => ?_)
      obtain ⟨rfl, rfl⟩ := hp689
      refine g_ifb_ne (tgt := 686) hx hb dX9_does_679 (by decide) (fun c679 => ?_) (fun c679 => ?_)
      · skip
        refine g_iconst hx hb dX9_does_686 ?_
        refine g_iconst hx hb dX9_does_687 ?_
        have hC690 := c_X9_refuses l g b0 n f1 h (pu Z 15 0) 0 2 hf3 hrg (pu_s _ _ _) (Or.inl rfl) (by decide)
        refine g_callVi (ci := 11) (C := RX9) (T := TX9) (N := 24) (As := [.int (zI 0), .int (zI 2)]) (rest := []) ⟨hx, hb, hml, hown, hts⟩ hK hM hC690 (cuV (n := 2) hts u_1245 u_1242 u_10 (by decide) u_1244 us_29 ⟨Nat.le_of_ble_eq_true rfl, Nat.le_of_ble_eq_true rfl⟩) ⟨by omega, by omega⟩ hf3 rfl rfl hl.1 rfl (Nat.le_of_ble_eq_true rfl) dX9_does_688 ⟨Nat.zero_le _, Nat.zero_le _⟩ (fun r688 f691 H locs hM hp692 => ?_)
        have hd693 := rf_alt hp692 (Or.inl rfl)
        obtain ⟨rfl, hm697, o695⟩ := hd693.elim (fun q9 => absurd q9.1 (by decide)) (fun q9 => q9.2)
        have ho699 : f691 h = .inr (11, [.int (zI (Z 0)), .ref (h + 1), .ref (h + 2), .ref (h + 3), .ref (h + 4), .ref (h + 5), .ref (h + 6), .ref (h + 7), .ref (h + 8), .int (zI (Z 9)), .int (zI (Z 10)), .int (zI (Z 11)), .int (zI (Z 12)), .int (zI (Z 13)), .int (zI (Z 14)), .int (zI 0), .int (zI (Z 16)), .ref (h + 9), .ref (h + 10), .ref (h + 11), .int (zI (Z 20)), .int (zI (Z 21)), .int (zI (Z 22)), .ref (h + 12)]) := hm697
        refine g_if_ne (tgt := 704) hx hb dX9_does_691 (by decide) (by decide) (fun c691 => ?_) (fun c691 => ?_)
        · exact absurd c691 (by decide)
        · skip
          refine lv_aload_n hx hb dX9_does_694 rfl (lv_at hl 0 rfl) ?_
          refine lv_iload hx hb dX9_does_695 (lv_at hl 6 rfl) ?_
          refine g_iconst hx hb dX9_does_697 ?_
          have hC700 := c_X9_refuses l g b0 n f691 h (pu Z 15 0) fl 3 ho699 hrg (pu_s _ _ _) hfl (by decide)
          refine g_callVi (ci := 11) (C := RX9) (T := TX9) (N := 24) (As := [.int (zI fl), .int (zI 3)]) (rest := []) ⟨hx, hb, hml, hown, hts⟩ hK hM hC700 (cuV (n := 2) hts u_1245 u_1242 u_10 (by decide) u_1244 us_29 ⟨Nat.le_of_ble_eq_true rfl, Nat.le_of_ble_eq_true rfl⟩) ⟨by omega, by omega⟩ ho699 rfl rfl hl.1 rfl (Nat.le_of_ble_eq_true rfl) dX9_does_698 ⟨Nat.zero_le _, Nat.zero_le _⟩ (fun r698 f701 H locs hM hp702 => ?_)
          have hd703 := rf_alt hp702 hfl
          rcases hd703 with ⟨hq708, rfl, hm706, o704⟩ | ⟨hq708, rfl, hm707, o705⟩
          · skip
            have ho709 : f701 h = .inr (11, [.int (zI (Z 0)), .ref (h + 1), .ref (h + 2), .ref (h + 3), .ref (h + 4), .ref (h + 5), .ref (h + 6), .ref (h + 7), .ref (h + 8), .int (zI (Z 9)), .int (zI (Z 10)), .int (zI (Z 11)), .int (zI (Z 12)), .int (zI (Z 13)), .int (zI (Z 14)), .int (zI 3), .int (zI (Z 16)), .ref (h + 9), .ref (h + 10), .ref (h + 11), .int (zI (Z 20)), .int (zI (Z 21)), .int (zI (Z 22)), .ref (h + 12)]) := hm706
            refine g_if_eq (tgt := 706) hx hb dX9_does_701 (by decide) (by decide) (fun c701 => ?_) (fun c701 => ?_)
            · exact absurd c701 (by decide)
            · skip
              refine g_iconst hx hb dX9_does_704 ?_
              have hf710 := hP.kept (fun q h1 h2 => ((o704 (q) (by omega)).trans ((o695 (q) (by omega)).trans (o2 (q) (by omega)))))
              have hf711 := hsc.kept (fun q h1 h2 => ((o704 (q) (by omega)).trans ((o695 (q) (by omega)).trans (o2 (q) (by omega)))))
              refine g_iret hx hb hr hlk hK hM dX9_does_705 ?_
              have hS : sRef P 9 a b x y (fl = 1) = 3 := by
                rw [rf_9]
                (repeat' split) <;> first | rfl | omega
              obtain ⟨e1, e2, e3⟩ := d_no hS (by decide)
              exact ⟨by rw [e1]; exact ho709, by rw [e2], by rw [e3]; exact hf710, hf711, (fun q hq => ((o704 (q) (by omega)).trans ((o695 (q) (by omega)).trans (o2 (q) (by omega)))))⟩
          · skip
            have ho712 : f701 h = .inr (11, [.int (zI (Z 0)), .ref (h + 1), .ref (h + 2), .ref (h + 3), .ref (h + 4), .ref (h + 5), .ref (h + 6), .ref (h + 7), .ref (h + 8), .int (zI (Z 9)), .int (zI (Z 10)), .int (zI (Z 11)), .int (zI (Z 12)), .int (zI (Z 13)), .int (zI (Z 14)), .int (zI 0), .int (zI (Z 16)), .ref (h + 9), .ref (h + 10), .ref (h + 11), .int (zI (Z 20)), .int (zI (Z 21)), .int (zI (Z 22)), .ref (h + 12)]) := hm707
            refine g_if_eq (tgt := 706) hx hb dX9_does_701 (by decide) (by decide) (fun c701 => ?_) (fun c701 => ?_)
            · skip
              refine lv_aload_n hx hb dX9_does_706 rfl (lv_at hl 0 rfl) ?_
              refine lv_aload_n hx hb dX9_does_707 rfl (lv_at hl 0 rfl) ?_
              refine lv_iload_n hx hb dX9_does_708 rfl (lv_at hl 2 rfl) ?_
              refine g_i2l hx hb dX9_does_709 hra ?_
              have hf713 := hsc.kept (fun q h1 h2 => ((o705 (q) (by omega)).trans ((o695 (q) (by omega)).trans (o2 (q) (by omega)))))
              have hf714 := hP.kept (fun q h1 h2 => ((o705 (q) (by omega)).trans ((o695 (q) (by omega)).trans (o2 (q) (by omega)))))
              have hC715 := c_X9_receives l g b0 n f701 h (pu Z 15 0) M aa P a ho712 hf714 hrg hat haa hf713 (wfE_mono hws.E (by omega)) hok.2.1 ⟨by omega, by omega⟩
              refine g_callVl (ci := 11) (C := RX9) (T := TX9) (N := 24) (As := [.long (zL a)]) (rest := [.ref h]) ⟨hx, hb, hml, hown, hts⟩ hK hM hC715 (cuV (n := 1) hts u_1292 u_1289 u_10 (by decide) u_1291 us_39 ⟨Nat.le_of_ble_eq_true rfl, Nat.le_of_ble_eq_true rfl⟩) ⟨by omega, by omega⟩ ho712 rfl rfl hl.1 rfl (Nat.le_of_ble_eq_true rfl) dX9_does_710 ⟨Nat.zero_le _, Nat.zero_le _⟩ (fun r710 f716 H locs hM hp717 => ?_)
              obtain ⟨rfl, hn718, hs720, o719⟩ := hp717
              obtain ⟨P1, hP1⟩ : ∃ Q : Nat → Int, Q = (sInc P a).2 := ⟨_, rfl⟩
              rw [← hP1] at hn718
              have hd2 : pOkL P1 (v0 + 1) 8 := by rw [hP1]; exact pOkL_inc hok (by omega) (by omega)
              have hf721 : f716 (h) = .inr (11, [.int (zI (Z 0)), .ref (h + 1), .ref (h + 2), .ref (h + 3), .ref (h + 4), .ref (h + 5), .ref (h + 6), .ref (h + 7), .ref (h + 8), .int (zI (Z 9)), .int (zI (Z 10)), .int (zI (Z 11)), .int (zI (Z 12)), .int (zI (Z 13)), .int (zI (Z 14)), .int (zI 0), .int (zI (Z 16)), .ref (h + 9), .ref (h + 10), .ref (h + 11), .int (zI (Z 20)), .int (zI (Z 21)), .int (zI (Z 22)), .ref (h + 12)]) := (o719 (h) (by omega)).trans ho712
              have hC722 := c_X9_settled l g b0 n f716 h (pu Z 15 0) M aa P1 ((sInc P a).1) hf721 hn718 hrg hat haa hs720 (wfS_mono (pOkL_wfS hd2 (by omega)) (by omega)) hd2.2.2.1
              refine g_callVi (ci := 11) (C := RX9) (T := TX9) (N := 24) (As := [.long (zL ((sInc P a).1))]) (rest := []) ⟨hx, hb, hml, hown, hts⟩ hK hM hC722 (cuV (n := 1) hts u_1311 u_1308 u_10 (by decide) u_1310 us_43 ⟨Nat.le_of_ble_eq_true rfl, Nat.le_of_ble_eq_true rfl⟩) ⟨by omega, by omega⟩ hf721 rfl rfl hl.1 rfl (Nat.le_of_ble_eq_true rfl) dX9_does_713 ⟨Nat.zero_le _, Nat.zero_le _⟩ (fun r713 f723 H locs hM hp724 => ?_)
              obtain ⟨rfl, hn725, hs727, o726⟩ := hp724
              obtain ⟨P2, hP2⟩ : ∃ Q : Nat → Int, Q = sSet P1 := ⟨_, rfl⟩
              rw [← hP2] at hn725
              have hf728 : f723 (h) = .inr (11, [.int (zI (Z 0)), .ref (h + 1), .ref (h + 2), .ref (h + 3), .ref (h + 4), .ref (h + 5), .ref (h + 6), .ref (h + 7), .ref (h + 8), .int (zI (Z 9)), .int (zI (Z 10)), .int (zI (Z 11)), .int (zI (Z 12)), .int (zI (Z 13)), .int (zI (Z 14)), .int (zI 0), .int (zI (Z 16)), .ref (h + 9), .ref (h + 10), .ref (h + 11), .int (zI (Z 20)), .int (zI (Z 21)), .int (zI (Z 22)), .ref (h + 12)]) := (o726 (h) (by omega)).trans hf721
              refine g_iret hx hb hr hlk hK hM dX9_does_716 ?_
              have hS : sRef P 9 a b x y (fl = 1) = 0 := by
                rw [rf_9]
                (repeat' split) <;> first | rfl | omega
              have hF : sPf P 9 a b x y = ((sInc P a).1, P2) := by
                unfold sPf
                rw [if_neg (by omega), if_neg (by omega), if_neg (by omega), if_neg (by omega), if_neg (by omega), if_neg (by omega), if_neg (by omega), if_neg (by omega), if_neg (by omega), if_neg (by omega)]
                unfold sMm
                rw [if_pos rfl, hP2, hP1]
              obtain ⟨e1, e2, e3⟩ := d_yes hS hF
              exact ⟨by rw [e1]; exact hf728, by rw [e2], by rw [e3]; exact hn725, hs727, (fun q hq => ((o726 (q) (by omega)).trans ((o719 (q) (by omega)).trans ((o705 (q) (by omega)).trans ((o695 (q) (by omega)).trans (o2 (q) (by omega)))))))⟩
            · exact absurd c701 (by decide)
      · skip
        refine g_iconst hx hb dX9_does_682 ?_
        refine lv_goto (tgt := 687) hx hb dX9_does_683 (by decide) ?_
        refine g_iconst hx hb dX9_does_687 ?_
        have hC729 := c_X9_refuses l g b0 n f1 h (pu Z 15 0) 1 2 hf3 hrg (pu_s _ _ _) (Or.inr rfl) (by decide)
        refine g_callVi (ci := 11) (C := RX9) (T := TX9) (N := 24) (As := [.int (zI 1), .int (zI 2)]) (rest := []) ⟨hx, hb, hml, hown, hts⟩ hK hM hC729 (cuV (n := 2) hts u_1245 u_1242 u_10 (by decide) u_1244 us_29 ⟨Nat.le_of_ble_eq_true rfl, Nat.le_of_ble_eq_true rfl⟩) ⟨by omega, by omega⟩ hf3 rfl rfl hl.1 rfl (Nat.le_of_ble_eq_true rfl) dX9_does_688 ⟨Nat.zero_le _, Nat.zero_le _⟩ (fun r688 f730 H locs hM hp731 => ?_)
        have hd732 := rf_alt hp731 (Or.inr rfl)
        obtain ⟨rfl, hm735, o733⟩ := hd732.elim (fun q9 => q9.2) (fun q9 => absurd q9.1 (by decide))
        have ho738 : f730 h = .inr (11, [.int (zI (Z 0)), .ref (h + 1), .ref (h + 2), .ref (h + 3), .ref (h + 4), .ref (h + 5), .ref (h + 6), .ref (h + 7), .ref (h + 8), .int (zI (Z 9)), .int (zI (Z 10)), .int (zI (Z 11)), .int (zI (Z 12)), .int (zI (Z 13)), .int (zI (Z 14)), .int (zI 2), .int (zI (Z 16)), .ref (h + 9), .ref (h + 10), .ref (h + 11), .int (zI (Z 20)), .int (zI (Z 21)), .int (zI (Z 22)), .ref (h + 12)]) := hm735
        refine g_if_ne (tgt := 704) hx hb dX9_does_691 (by decide) (by decide) (fun c691 => ?_) (fun c691 => ?_)
        · skip
          refine g_iconst hx hb dX9_does_704 ?_
          have hf739 := hP.kept (fun q h1 h2 => ((o733 (q) (by omega)).trans (o2 (q) (by omega))))
          have hf740 := hsc.kept (fun q h1 h2 => ((o733 (q) (by omega)).trans (o2 (q) (by omega))))
          refine g_iret hx hb hr hlk hK hM dX9_does_705 ?_
          have hS : sRef P 9 a b x y (fl = 1) = 2 := by
            rw [rf_9]
            (repeat' split) <;> first | rfl | omega
          obtain ⟨e1, e2, e3⟩ := d_no hS (by decide)
          exact ⟨by rw [e1]; exact ho738, by rw [e2], by rw [e3]; exact hf739, hf740, (fun q hq => ((o733 (q) (by omega)).trans (o2 (q) (by omega))))⟩
        · exact absurd c691 (by decide)
    · refine lv_tableIn (off := 711) (tgt := 717) hx hb dX9_does_6 (by rw [hz6, c6]; decide) (by rw [hz6, c6]; decide) (by rw [hz6, c6]; decide) (by decide) ?_
      subst c6
      refine lv_aload_n hx hb dX9_does_717 rfl (lv_at hl 0 rfl) ?_
      refine lv_aload_n hx hb dX9_does_718 rfl (lv_at hl 0 rfl) ?_
      refine lv_iload_n hx hb dX9_does_719 rfl (lv_at hl 2 rfl) ?_
      have hf741 := hP.kept (fun q h1 h2 => (o2 (q) (by omega)))
      have hC742 := c_X9_isEnvelope l g b0 n f1 h (pu Z 15 0) M aa P a hf3 hf741 hrg hat haa hcn7 hra
      refine g_callVi (ci := 11) (C := RX9) (T := TX9) (N := 24) (As := [.int (zI a)]) (rest := [.ref h]) ⟨hx, hb, hml, hown, hts⟩ hK hM hC742 (cuV (n := 1) hts u_1265 u_1262 u_10 (by decide) u_1264 us_34 ⟨Nat.le_of_ble_eq_true rfl, Nat.le_of_ble_eq_true rfl⟩) ⟨by omega, by omega⟩ hf3 rfl rfl hl.1 rfl (Nat.le_of_ble_eq_true rfl) dX9_does_720 ⟨Nat.zero_le _, Nat.zero_le _⟩ (fun r720 f743 H locs hM hp744 => ?_)
      obtain ⟨rfl, rfl⟩ := hp744
      refine g_ifb_ne (tgt := 730) hx hb dX9_does_723 (by decide) (fun c723 => ?_) (fun c723 => ?_)
      · skip
        refine g_iconst hx hb dX9_does_730 ?_
        refine g_iconst hx hb dX9_does_731 ?_
        have hC745 := c_X9_refuses l g b0 n f1 h (pu Z 15 0) 0 1 hf3 hrg (pu_s _ _ _) (Or.inl rfl) (by decide)
        refine g_callVi (ci := 11) (C := RX9) (T := TX9) (N := 24) (As := [.int (zI 0), .int (zI 1)]) (rest := []) ⟨hx, hb, hml, hown, hts⟩ hK hM hC745 (cuV (n := 2) hts u_1245 u_1242 u_10 (by decide) u_1244 us_29 ⟨Nat.le_of_ble_eq_true rfl, Nat.le_of_ble_eq_true rfl⟩) ⟨by omega, by omega⟩ hf3 rfl rfl hl.1 rfl (Nat.le_of_ble_eq_true rfl) dX9_does_732 ⟨Nat.zero_le _, Nat.zero_le _⟩ (fun r732 f746 H locs hM hp747 => ?_)
        have hd748 := rf_alt hp747 (Or.inl rfl)
        obtain ⟨rfl, hm752, o750⟩ := hd748.elim (fun q9 => absurd q9.1 (by decide)) (fun q9 => q9.2)
        have ho754 : f746 h = .inr (11, [.int (zI (Z 0)), .ref (h + 1), .ref (h + 2), .ref (h + 3), .ref (h + 4), .ref (h + 5), .ref (h + 6), .ref (h + 7), .ref (h + 8), .int (zI (Z 9)), .int (zI (Z 10)), .int (zI (Z 11)), .int (zI (Z 12)), .int (zI (Z 13)), .int (zI (Z 14)), .int (zI 0), .int (zI (Z 16)), .ref (h + 9), .ref (h + 10), .ref (h + 11), .int (zI (Z 20)), .int (zI (Z 21)), .int (zI (Z 22)), .ref (h + 12)]) := hm752
        refine g_if_ne (tgt := 796) hx hb dX9_does_735 (by decide) (by decide) (fun c735 => ?_) (fun c735 => ?_)
        · exact absurd c735 (by decide)
        · skip
          refine lv_aload_n hx hb dX9_does_738 rfl (lv_at hl 0 rfl) ?_
          refine lv_iload_n hx hb dX9_does_739 rfl (lv_at hl 3 rfl) ?_
          refine g_i2l hx hb dX9_does_740 hrb ?_
          refine g_lconst (z := 1) hx hb dX9_does_741 (by decide) ?_
          refine g_ldc2 (z := 1000000) hx hb hown (hts _ u_1273) dX9_does_742 (by decide) ?_
          have hC755 := c_X9_in l g b0 n f746 b 1 1000000 (rI_L hrb) (by decide) (by decide)
          refine g_callSi (As := [.long (zL b), .long (zL 1), .long (zL 1000000)]) (rest := [.ref h]) ⟨hx, hb, hml, hown, hts⟩ hK hM hC755 (cuS (n := 3) hts u_1240 u_1238 u_10 (by decide) u_1239 ⟨Nat.le_of_ble_eq_true rfl, Nat.le_of_ble_eq_true rfl⟩) rfl hl.1 rfl (Nat.le_of_ble_eq_true rfl) dX9_does_745 ⟨Nat.zero_le _, Nat.zero_le _⟩ (fun r745 f756 H locs hM hp757 => ?_)
          obtain ⟨rfl, rfl⟩ := hp757
          refine g_ifb_ne (tgt := 755) hx hb dX9_does_748 (by decide) (fun c748 => ?_) (fun c748 => ?_)
          · skip
            refine g_iconst hx hb dX9_does_755 ?_
            refine g_iconst hx hb dX9_does_756 ?_
            have hC758 := c_X9_refuses l g b0 n f746 h (pu Z 15 0) 0 2 ho754 hrg (pu_s _ _ _) (Or.inl rfl) (by decide)
            refine g_callVi (ci := 11) (C := RX9) (T := TX9) (N := 24) (As := [.int (zI 0), .int (zI 2)]) (rest := []) ⟨hx, hb, hml, hown, hts⟩ hK hM hC758 (cuV (n := 2) hts u_1245 u_1242 u_10 (by decide) u_1244 us_29 ⟨Nat.le_of_ble_eq_true rfl, Nat.le_of_ble_eq_true rfl⟩) ⟨by omega, by omega⟩ ho754 rfl rfl hl.1 rfl (Nat.le_of_ble_eq_true rfl) dX9_does_757 ⟨Nat.zero_le _, Nat.zero_le _⟩ (fun r757 f759 H locs hM hp760 => ?_)
            have hd761 := rf_alt hp760 (Or.inl rfl)
            obtain ⟨rfl, hm765, o763⟩ := hd761.elim (fun q9 => absurd q9.1 (by decide)) (fun q9 => q9.2)
            have ho767 : f759 h = .inr (11, [.int (zI (Z 0)), .ref (h + 1), .ref (h + 2), .ref (h + 3), .ref (h + 4), .ref (h + 5), .ref (h + 6), .ref (h + 7), .ref (h + 8), .int (zI (Z 9)), .int (zI (Z 10)), .int (zI (Z 11)), .int (zI (Z 12)), .int (zI (Z 13)), .int (zI (Z 14)), .int (zI 0), .int (zI (Z 16)), .ref (h + 9), .ref (h + 10), .ref (h + 11), .int (zI (Z 20)), .int (zI (Z 21)), .int (zI (Z 22)), .ref (h + 12)]) := hm765
            refine g_if_ne (tgt := 796) hx hb dX9_does_760 (by decide) (by decide) (fun c760 => ?_) (fun c760 => ?_)
            · exact absurd c760 (by decide)
            · skip
              refine lv_aload_n hx hb dX9_does_763 rfl (lv_at hl 0 rfl) ?_
              refine lv_iload hx hb dX9_does_764 (lv_at hl 6 rfl) ?_
              refine g_iconst hx hb dX9_does_766 ?_
              have hC768 := c_X9_refuses l g b0 n f759 h (pu Z 15 0) fl 3 ho767 hrg (pu_s _ _ _) hfl (by decide)
              refine g_callVi (ci := 11) (C := RX9) (T := TX9) (N := 24) (As := [.int (zI fl), .int (zI 3)]) (rest := []) ⟨hx, hb, hml, hown, hts⟩ hK hM hC768 (cuV (n := 2) hts u_1245 u_1242 u_10 (by decide) u_1244 us_29 ⟨Nat.le_of_ble_eq_true rfl, Nat.le_of_ble_eq_true rfl⟩) ⟨by omega, by omega⟩ ho767 rfl rfl hl.1 rfl (Nat.le_of_ble_eq_true rfl) dX9_does_767 ⟨Nat.zero_le _, Nat.zero_le _⟩ (fun r767 f769 H locs hM hp770 => ?_)
              have hd771 := rf_alt hp770 hfl
              rcases hd771 with ⟨hq776, rfl, hm774, o772⟩ | ⟨hq776, rfl, hm775, o773⟩
              · skip
                have ho777 : f769 h = .inr (11, [.int (zI (Z 0)), .ref (h + 1), .ref (h + 2), .ref (h + 3), .ref (h + 4), .ref (h + 5), .ref (h + 6), .ref (h + 7), .ref (h + 8), .int (zI (Z 9)), .int (zI (Z 10)), .int (zI (Z 11)), .int (zI (Z 12)), .int (zI (Z 13)), .int (zI (Z 14)), .int (zI 3), .int (zI (Z 16)), .ref (h + 9), .ref (h + 10), .ref (h + 11), .int (zI (Z 20)), .int (zI (Z 21)), .int (zI (Z 22)), .ref (h + 12)]) := hm774
                refine g_if_ne (tgt := 796) hx hb dX9_does_770 (by decide) (by decide) (fun c770 => ?_) (fun c770 => ?_)
                · skip
                  refine g_iconst hx hb dX9_does_796 ?_
                  have hf778 := hf741.kept (fun q h1 h2 => ((o772 (q) (by omega)).trans ((o763 (q) (by omega)).trans (o750 (q) (by omega)))))
                  have hf779 := hsc.kept (fun q h1 h2 => ((o772 (q) (by omega)).trans ((o763 (q) (by omega)).trans ((o750 (q) (by omega)).trans (o2 (q) (by omega))))))
                  refine g_iret hx hb hr hlk hK hM dX9_does_797 ?_
                  have hS : sRef P 10 a b x y (fl = 1) = 3 := by
                    rw [rf_10]
                    (repeat' split) <;> first | rfl | omega
                  obtain ⟨e1, e2, e3⟩ := d_no hS (by decide)
                  exact ⟨by rw [e1]; exact ho777, by rw [e2], by rw [e3]; exact hf778, hf779, (fun q hq => ((o772 (q) (by omega)).trans ((o763 (q) (by omega)).trans ((o750 (q) (by omega)).trans (o2 (q) (by omega))))))⟩
                · exact absurd c770 (by decide)
              · skip
                have ho780 : f769 h = .inr (11, [.int (zI (Z 0)), .ref (h + 1), .ref (h + 2), .ref (h + 3), .ref (h + 4), .ref (h + 5), .ref (h + 6), .ref (h + 7), .ref (h + 8), .int (zI (Z 9)), .int (zI (Z 10)), .int (zI (Z 11)), .int (zI (Z 12)), .int (zI (Z 13)), .int (zI (Z 14)), .int (zI 0), .int (zI (Z 16)), .ref (h + 9), .ref (h + 10), .ref (h + 11), .int (zI (Z 20)), .int (zI (Z 21)), .int (zI (Z 22)), .ref (h + 12)]) := hm775
                refine g_if_ne (tgt := 796) hx hb dX9_does_770 (by decide) (by decide) (fun c770 => ?_) (fun c770 => ?_)
                · exact absurd c770 (by decide)
                · skip
                  have hae : ((a.toNat : Nat) : Int) = a := by omega
                  have hbe := (hws.E.2 a.toNat (by omega)).1
                  have hbe1 := hbe.1
                  have hbe2 := hbe.2
                  have hpl1 := hpl.1
                  have hpl2 := hpl.2
                  refine lv_aload_n hx hb dX9_does_773 rfl (lv_at hl 0 rfl) ?_
                  refine lv_aload_n hx hb dX9_does_774 rfl (lv_at hl 0 rfl) ?_
                  refine lv_iload_n hx hb dX9_does_775 rfl (lv_at hl 2 rfl) ?_
                  refine lv_iload_n hx hb dX9_does_776 rfl (lv_at hl 3 rfl) ?_
                  refine g_i2l hx hb dX9_does_777 hrb ?_
                  have hf781 := hf741.kept (fun q h1 h2 => ((o773 (q) (by omega)).trans ((o763 (q) (by omega)).trans (o750 (q) (by omega)))))
                  have hq782 := c_X9_maySpend l g b0 n f769 h (pu Z 15 0) M aa P a.toNat b ho780 hf781 hrg hat haa (by omega) ⟨by omega, by omega⟩ ⟨by omega, by omega⟩ ⟨by omega, by omega⟩
                  rw [hae] at hq782
                  have hC783 := hq782
                  refine g_callVi (ci := 11) (C := RX9) (T := TX9) (N := 24) (As := [.int (zI a), .long (zL b)]) (rest := [.ref h]) ⟨hx, hb, hml, hown, hts⟩ hK hM hC783 (cuV (n := 2) hts u_1319 u_1316 u_10 (by decide) u_1318 us_45 ⟨Nat.le_of_ble_eq_true rfl, Nat.le_of_ble_eq_true rfl⟩) ⟨by omega, by omega⟩ ho780 rfl rfl hl.1 rfl (Nat.le_of_ble_eq_true rfl) dX9_does_778 ⟨Nat.zero_le _, Nat.zero_le _⟩ (fun r778 f784 H locs hM hp785 => ?_)
                  obtain ⟨rfl, rfl⟩ := hp785
                  refine g_ifb_ne (tgt := 788) hx hb dX9_does_781 (by decide) (fun c781 => ?_) (fun c781 => ?_)
                  · skip
                    refine g_iconst hx hb dX9_does_788 ?_
                    refine g_iconst hx hb dX9_does_789 ?_
                    have hC786 := c_X9_refuses l g b0 n f769 h (pu Z 15 0) 0 4 ho780 hrg (pu_s _ _ _) (Or.inl rfl) (by decide)
                    refine g_callVi (ci := 11) (C := RX9) (T := TX9) (N := 24) (As := [.int (zI 0), .int (zI 4)]) (rest := []) ⟨hx, hb, hml, hown, hts⟩ hK hM hC786 (cuV (n := 2) hts u_1245 u_1242 u_10 (by decide) u_1244 us_29 ⟨Nat.le_of_ble_eq_true rfl, Nat.le_of_ble_eq_true rfl⟩) ⟨by omega, by omega⟩ ho780 rfl rfl hl.1 rfl (Nat.le_of_ble_eq_true rfl) dX9_does_790 ⟨Nat.zero_le _, Nat.zero_le _⟩ (fun r790 f787 H locs hM hp788 => ?_)
                    have hd789 := rf_alt hp788 (Or.inl rfl)
                    obtain ⟨rfl, hm793, o791⟩ := hd789.elim (fun q9 => absurd q9.1 (by decide)) (fun q9 => q9.2)
                    have ho795 : f787 h = .inr (11, [.int (zI (Z 0)), .ref (h + 1), .ref (h + 2), .ref (h + 3), .ref (h + 4), .ref (h + 5), .ref (h + 6), .ref (h + 7), .ref (h + 8), .int (zI (Z 9)), .int (zI (Z 10)), .int (zI (Z 11)), .int (zI (Z 12)), .int (zI (Z 13)), .int (zI (Z 14)), .int (zI 0), .int (zI (Z 16)), .ref (h + 9), .ref (h + 10), .ref (h + 11), .int (zI (Z 20)), .int (zI (Z 21)), .int (zI (Z 22)), .ref (h + 12)]) := hm793
                    refine g_if_eq (tgt := 798) hx hb dX9_does_793 (by decide) (by decide) (fun c793 => ?_) (fun c793 => ?_)
                    · skip
                      refine lv_aload_n hx hb dX9_does_798 rfl (lv_at hl 0 rfl) ?_
                      refine lv_aload_n hx hb dX9_does_799 rfl (lv_at hl 0 rfl) ?_
                      refine lv_iload_n hx hb dX9_does_800 rfl (lv_at hl 2 rfl) ?_
                      refine lv_iload_n hx hb dX9_does_801 rfl (lv_at hl 3 rfl) ?_
                      refine g_i2l hx hb dX9_does_802 hrb ?_
                      have hf796 := hf781.kept (fun q h1 h2 => (o791 (q) (by omega)))
                      have hq797 := c_X9_spends l g b0 n f787 h (pu Z 15 0) M aa P a.toNat b ho795 hf796 hrg hat haa (by omega) ⟨by omega, by omega⟩ ⟨by omega, by omega⟩ ⟨by omega, by omega⟩
                      rw [hae] at hq797
                      have hC798 := hq797
                      refine g_callVl (ci := 11) (C := RX9) (T := TX9) (N := 24) (As := [.int (zI a), .long (zL b)]) (rest := [.ref h]) ⟨hx, hb, hml, hown, hts⟩ hK hM hC798 (cuV (n := 2) hts u_1323 u_1320 u_10 (by decide) u_1322 us_46 ⟨Nat.le_of_ble_eq_true rfl, Nat.le_of_ble_eq_true rfl⟩) ⟨by omega, by omega⟩ ho795 rfl rfl hl.1 rfl (Nat.le_of_ble_eq_true rfl) dX9_does_803 ⟨Nat.zero_le _, Nat.zero_le _⟩ (fun r803 f799 H locs hM hp800 => ?_)
                      obtain ⟨rfl, hn801, o802⟩ := hp800
                      obtain ⟨P1, hP1⟩ : ∃ Q : Nat → Int, Q = sPay P a.toNat b := ⟨_, rfl⟩
                      rw [← hP1] at hn801
                      have hd2 : pOkL P1 (v0 + 1) 8 := by rw [hP1]; exact pOkL_mono (pOkL_pay hok (by omega) (by omega) c781) (by omega)
                      have hf804 := hsc.kept (fun q h1 h2 => ((o802 (q) (by omega)).trans ((o791 (q) (by omega)).trans ((o773 (q) (by omega)).trans ((o763 (q) (by omega)).trans ((o750 (q) (by omega)).trans (o2 (q) (by omega))))))))
                      have hf805 : f799 (h) = .inr (11, [.int (zI (Z 0)), .ref (h + 1), .ref (h + 2), .ref (h + 3), .ref (h + 4), .ref (h + 5), .ref (h + 6), .ref (h + 7), .ref (h + 8), .int (zI (Z 9)), .int (zI (Z 10)), .int (zI (Z 11)), .int (zI (Z 12)), .int (zI (Z 13)), .int (zI (Z 14)), .int (zI 0), .int (zI (Z 16)), .ref (h + 9), .ref (h + 10), .ref (h + 11), .int (zI (Z 20)), .int (zI (Z 21)), .int (zI (Z 22)), .ref (h + 12)]) := (o802 (h) (by omega)).trans ho795
                      have hC806 := c_X9_settled l g b0 n f799 h (pu Z 15 0) M aa P1 (b - min (P (11 + 4 * a.toNat)) b) hf805 hn801 hrg hat haa hf804 (wfS_mono (pOkL_wfS hd2 (by omega)) (by omega)) hd2.2.2.1
                      refine g_callVi (ci := 11) (C := RX9) (T := TX9) (N := 24) (As := [.long (zL (b - min (P (11 + 4 * a.toNat)) b))]) (rest := []) ⟨hx, hb, hml, hown, hts⟩ hK hM hC806 (cuV (n := 1) hts u_1311 u_1308 u_10 (by decide) u_1310 us_43 ⟨Nat.le_of_ble_eq_true rfl, Nat.le_of_ble_eq_true rfl⟩) ⟨by omega, by omega⟩ hf805 rfl rfl hl.1 rfl (Nat.le_of_ble_eq_true rfl) dX9_does_806 ⟨Nat.zero_le _, Nat.zero_le _⟩ (fun r806 f807 H locs hM hp808 => ?_)
                      obtain ⟨rfl, hn809, hs811, o810⟩ := hp808
                      obtain ⟨P2, hP2⟩ : ∃ Q : Nat → Int, Q = sSet P1 := ⟨_, rfl⟩
                      rw [← hP2] at hn809
                      have hf812 : f807 (h) = .inr (11, [.int (zI (Z 0)), .ref (h + 1), .ref (h + 2), .ref (h + 3), .ref (h + 4), .ref (h + 5), .ref (h + 6), .ref (h + 7), .ref (h + 8), .int (zI (Z 9)), .int (zI (Z 10)), .int (zI (Z 11)), .int (zI (Z 12)), .int (zI (Z 13)), .int (zI (Z 14)), .int (zI 0), .int (zI (Z 16)), .ref (h + 9), .ref (h + 10), .ref (h + 11), .int (zI (Z 20)), .int (zI (Z 21)), .int (zI (Z 22)), .ref (h + 12)]) := (o810 (h) (by omega)).trans hf805
                      refine g_iret hx hb hr hlk hK hM dX9_does_809 ?_
                      have hS : sRef P 10 a b x y (fl = 1) = 0 := by
                        rw [rf_10]
                        (repeat' split) <;> first | rfl | omega
                      have hF : sPf P 10 a b x y = ((b - min (P (11 + 4 * a.toNat)) b), P2) := by
                        unfold sPf
                        rw [if_neg (by omega), if_neg (by omega), if_neg (by omega), if_neg (by omega), if_neg (by omega), if_neg (by omega), if_neg (by omega), if_neg (by omega), if_neg (by omega), if_neg (by omega)]
                        unfold sMm
                        rw [if_neg (by omega), if_pos rfl, hP2, hP1]
                      obtain ⟨e1, e2, e3⟩ := d_yes hS hF
                      exact ⟨by rw [e1]; exact hf812, by rw [e2], by rw [e3]; exact hn809, hs811, (fun q hq => ((o810 (q) (by omega)).trans ((o802 (q) (by omega)).trans ((o791 (q) (by omega)).trans ((o773 (q) (by omega)).trans ((o763 (q) (by omega)).trans ((o750 (q) (by omega)).trans (o2 (q) (by omega)))))))))⟩
                    · exact absurd c793 (by decide)
                  · skip
                    refine g_iconst hx hb dX9_does_784 ?_
                    refine lv_goto (tgt := 789) hx hb dX9_does_785 (by decide) ?_
                    refine g_iconst hx hb dX9_does_789 ?_
                    have hC813 := c_X9_refuses l g b0 n f769 h (pu Z 15 0) 1 4 ho780 hrg (pu_s _ _ _) (Or.inr rfl) (by decide)
                    refine g_callVi (ci := 11) (C := RX9) (T := TX9) (N := 24) (As := [.int (zI 1), .int (zI 4)]) (rest := []) ⟨hx, hb, hml, hown, hts⟩ hK hM hC813 (cuV (n := 2) hts u_1245 u_1242 u_10 (by decide) u_1244 us_29 ⟨Nat.le_of_ble_eq_true rfl, Nat.le_of_ble_eq_true rfl⟩) ⟨by omega, by omega⟩ ho780 rfl rfl hl.1 rfl (Nat.le_of_ble_eq_true rfl) dX9_does_790 ⟨Nat.zero_le _, Nat.zero_le _⟩ (fun r790 f814 H locs hM hp815 => ?_)
                    have hd816 := rf_alt hp815 (Or.inr rfl)
                    obtain ⟨rfl, hm819, o817⟩ := hd816.elim (fun q9 => q9.2) (fun q9 => absurd q9.1 (by decide))
                    have ho822 : f814 h = .inr (11, [.int (zI (Z 0)), .ref (h + 1), .ref (h + 2), .ref (h + 3), .ref (h + 4), .ref (h + 5), .ref (h + 6), .ref (h + 7), .ref (h + 8), .int (zI (Z 9)), .int (zI (Z 10)), .int (zI (Z 11)), .int (zI (Z 12)), .int (zI (Z 13)), .int (zI (Z 14)), .int (zI 4), .int (zI (Z 16)), .ref (h + 9), .ref (h + 10), .ref (h + 11), .int (zI (Z 20)), .int (zI (Z 21)), .int (zI (Z 22)), .ref (h + 12)]) := hm819
                    refine g_if_eq (tgt := 798) hx hb dX9_does_793 (by decide) (by decide) (fun c793 => ?_) (fun c793 => ?_)
                    · exact absurd c793 (by decide)
                    · skip
                      refine g_iconst hx hb dX9_does_796 ?_
                      have hf823 := hf781.kept (fun q h1 h2 => (o817 (q) (by omega)))
                      have hf824 := hsc.kept (fun q h1 h2 => ((o817 (q) (by omega)).trans ((o773 (q) (by omega)).trans ((o763 (q) (by omega)).trans ((o750 (q) (by omega)).trans (o2 (q) (by omega)))))))
                      refine g_iret hx hb hr hlk hK hM dX9_does_797 ?_
                      have hS : sRef P 10 a b x y (fl = 1) = 4 := by
                        rw [rf_10]
                        (repeat' split) <;> first | rfl | omega
                      obtain ⟨e1, e2, e3⟩ := d_no hS (by decide)
                      exact ⟨by rw [e1]; exact ho822, by rw [e2], by rw [e3]; exact hf823, hf824, (fun q hq => ((o817 (q) (by omega)).trans ((o773 (q) (by omega)).trans ((o763 (q) (by omega)).trans ((o750 (q) (by omega)).trans (o2 (q) (by omega)))))))⟩
          · skip
            refine g_iconst hx hb dX9_does_751 ?_
            refine lv_goto (tgt := 756) hx hb dX9_does_752 (by decide) ?_
            refine g_iconst hx hb dX9_does_756 ?_
            have hC825 := c_X9_refuses l g b0 n f746 h (pu Z 15 0) 1 2 ho754 hrg (pu_s _ _ _) (Or.inr rfl) (by decide)
            refine g_callVi (ci := 11) (C := RX9) (T := TX9) (N := 24) (As := [.int (zI 1), .int (zI 2)]) (rest := []) ⟨hx, hb, hml, hown, hts⟩ hK hM hC825 (cuV (n := 2) hts u_1245 u_1242 u_10 (by decide) u_1244 us_29 ⟨Nat.le_of_ble_eq_true rfl, Nat.le_of_ble_eq_true rfl⟩) ⟨by omega, by omega⟩ ho754 rfl rfl hl.1 rfl (Nat.le_of_ble_eq_true rfl) dX9_does_757 ⟨Nat.zero_le _, Nat.zero_le _⟩ (fun r757 f826 H locs hM hp827 => ?_)
            have hd828 := rf_alt hp827 (Or.inr rfl)
            obtain ⟨rfl, hm831, o829⟩ := hd828.elim (fun q9 => q9.2) (fun q9 => absurd q9.1 (by decide))
            have ho834 : f826 h = .inr (11, [.int (zI (Z 0)), .ref (h + 1), .ref (h + 2), .ref (h + 3), .ref (h + 4), .ref (h + 5), .ref (h + 6), .ref (h + 7), .ref (h + 8), .int (zI (Z 9)), .int (zI (Z 10)), .int (zI (Z 11)), .int (zI (Z 12)), .int (zI (Z 13)), .int (zI (Z 14)), .int (zI 2), .int (zI (Z 16)), .ref (h + 9), .ref (h + 10), .ref (h + 11), .int (zI (Z 20)), .int (zI (Z 21)), .int (zI (Z 22)), .ref (h + 12)]) := hm831
            refine g_if_ne (tgt := 796) hx hb dX9_does_760 (by decide) (by decide) (fun c760 => ?_) (fun c760 => ?_)
            · skip
              refine g_iconst hx hb dX9_does_796 ?_
              have hf835 := hf741.kept (fun q h1 h2 => ((o829 (q) (by omega)).trans (o750 (q) (by omega))))
              have hf836 := hsc.kept (fun q h1 h2 => ((o829 (q) (by omega)).trans ((o750 (q) (by omega)).trans (o2 (q) (by omega)))))
              refine g_iret hx hb hr hlk hK hM dX9_does_797 ?_
              have hS : sRef P 10 a b x y (fl = 1) = 2 := by
                rw [rf_10]
                (repeat' split) <;> first | rfl | omega
              obtain ⟨e1, e2, e3⟩ := d_no hS (by decide)
              exact ⟨by rw [e1]; exact ho834, by rw [e2], by rw [e3]; exact hf835, hf836, (fun q hq => ((o829 (q) (by omega)).trans ((o750 (q) (by omega)).trans (o2 (q) (by omega)))))⟩
            · exact absurd c760 (by decide)
      · skip
        refine g_iconst hx hb dX9_does_726 ?_
        refine lv_goto (tgt := 731) hx hb dX9_does_727 (by decide) ?_
        refine g_iconst hx hb dX9_does_731 ?_
        have hC837 := c_X9_refuses l g b0 n f1 h (pu Z 15 0) 1 1 hf3 hrg (pu_s _ _ _) (Or.inr rfl) (by decide)
        refine g_callVi (ci := 11) (C := RX9) (T := TX9) (N := 24) (As := [.int (zI 1), .int (zI 1)]) (rest := []) ⟨hx, hb, hml, hown, hts⟩ hK hM hC837 (cuV (n := 2) hts u_1245 u_1242 u_10 (by decide) u_1244 us_29 ⟨Nat.le_of_ble_eq_true rfl, Nat.le_of_ble_eq_true rfl⟩) ⟨by omega, by omega⟩ hf3 rfl rfl hl.1 rfl (Nat.le_of_ble_eq_true rfl) dX9_does_732 ⟨Nat.zero_le _, Nat.zero_le _⟩ (fun r732 f838 H locs hM hp839 => ?_)
        have hd840 := rf_alt hp839 (Or.inr rfl)
        obtain ⟨rfl, hm843, o841⟩ := hd840.elim (fun q9 => q9.2) (fun q9 => absurd q9.1 (by decide))
        have ho846 : f838 h = .inr (11, [.int (zI (Z 0)), .ref (h + 1), .ref (h + 2), .ref (h + 3), .ref (h + 4), .ref (h + 5), .ref (h + 6), .ref (h + 7), .ref (h + 8), .int (zI (Z 9)), .int (zI (Z 10)), .int (zI (Z 11)), .int (zI (Z 12)), .int (zI (Z 13)), .int (zI (Z 14)), .int (zI 1), .int (zI (Z 16)), .ref (h + 9), .ref (h + 10), .ref (h + 11), .int (zI (Z 20)), .int (zI (Z 21)), .int (zI (Z 22)), .ref (h + 12)]) := hm843
        refine g_if_ne (tgt := 796) hx hb dX9_does_735 (by decide) (by decide) (fun c735 => ?_) (fun c735 => ?_)
        · skip
          refine g_iconst hx hb dX9_does_796 ?_
          have hf847 := hf741.kept (fun q h1 h2 => (o841 (q) (by omega)))
          have hf848 := hsc.kept (fun q h1 h2 => ((o841 (q) (by omega)).trans (o2 (q) (by omega))))
          refine g_iret hx hb hr hlk hK hM dX9_does_797 ?_
          have hS : sRef P 10 a b x y (fl = 1) = 1 := by
            rw [rf_10]
            (repeat' split) <;> first | rfl | omega
          obtain ⟨e1, e2, e3⟩ := d_no hS (by decide)
          exact ⟨by rw [e1]; exact ho846, by rw [e2], by rw [e3]; exact hf847, hf848, (fun q hq => ((o841 (q) (by omega)).trans (o2 (q) (by omega))))⟩
        · exact absurd c735 (by decide)
    · refine lv_tableIn (off := 804) (tgt := 810) hx hb dX9_does_6 (by rw [hz6, c6]; decide) (by rw [hz6, c6]; decide) (by rw [hz6, c6]; decide) (by decide) ?_
      subst c6
      refine lv_aload_n hx hb dX9_does_810 rfl (lv_at hl 0 rfl) ?_
      refine lv_aload_n hx hb dX9_does_811 rfl (lv_at hl 0 rfl) ?_
      refine lv_iload_n hx hb dX9_does_812 rfl (lv_at hl 2 rfl) ?_
      have hf849 := hP.kept (fun q h1 h2 => (o2 (q) (by omega)))
      have hC850 := c_X9_isPlace l g b0 n f1 h (pu Z 15 0) M aa P a hf3 hf849 hrg hat haa hcn7 hra
      refine g_callVi (ci := 11) (C := RX9) (T := TX9) (N := 24) (As := [.int (zI a)]) (rest := [.ref h]) ⟨hx, hb, hml, hown, hts⟩ hK hM hC850 (cuV (n := 1) hts u_1327 u_1324 u_10 (by decide) u_1326 us_47 ⟨Nat.le_of_ble_eq_true rfl, Nat.le_of_ble_eq_true rfl⟩) ⟨by omega, by omega⟩ hf3 rfl rfl hl.1 rfl (Nat.le_of_ble_eq_true rfl) dX9_does_813 ⟨Nat.zero_le _, Nat.zero_le _⟩ (fun r813 f851 H locs hM hp852 => ?_)
      obtain ⟨rfl, rfl⟩ := hp852
      refine g_ifb_eq (tgt := 827) hx hb dX9_does_816 (by decide) (fun c816 => ?_) (fun c816 => ?_)
      · skip
        refine g_iconst hx hb dX9_does_827 ?_
        refine lv_goto (tgt := 832) hx hb dX9_does_828 (by decide) ?_
        refine g_iconst hx hb dX9_does_832 ?_
        have hC853 := c_X9_refuses l g b0 n f1 h (pu Z 15 0) 1 1 hf3 hrg (pu_s _ _ _) (Or.inr rfl) (by decide)
        refine g_callVi (ci := 11) (C := RX9) (T := TX9) (N := 24) (As := [.int (zI 1), .int (zI 1)]) (rest := []) ⟨hx, hb, hml, hown, hts⟩ hK hM hC853 (cuV (n := 2) hts u_1245 u_1242 u_10 (by decide) u_1244 us_29 ⟨Nat.le_of_ble_eq_true rfl, Nat.le_of_ble_eq_true rfl⟩) ⟨by omega, by omega⟩ hf3 rfl rfl hl.1 rfl (Nat.le_of_ble_eq_true rfl) dX9_does_833 ⟨Nat.zero_le _, Nat.zero_le _⟩ (fun r833 f854 H locs hM hp855 => ?_)
        have hd856 := rf_alt hp855 (Or.inr rfl)
        obtain ⟨rfl, hm859, o857⟩ := hd856.elim (fun q9 => q9.2) (fun q9 => absurd q9.1 (by decide))
        have ho862 : f854 h = .inr (11, [.int (zI (Z 0)), .ref (h + 1), .ref (h + 2), .ref (h + 3), .ref (h + 4), .ref (h + 5), .ref (h + 6), .ref (h + 7), .ref (h + 8), .int (zI (Z 9)), .int (zI (Z 10)), .int (zI (Z 11)), .int (zI (Z 12)), .int (zI (Z 13)), .int (zI (Z 14)), .int (zI 1), .int (zI (Z 16)), .ref (h + 9), .ref (h + 10), .ref (h + 11), .int (zI (Z 20)), .int (zI (Z 21)), .int (zI (Z 22)), .ref (h + 12)]) := hm859
        refine g_if_ne (tgt := 905) hx hb dX9_does_836 (by decide) (by decide) (fun c836 => ?_) (fun c836 => ?_)
        · skip
          refine g_iconst hx hb dX9_does_905 ?_
          have hf863 := hf849.kept (fun q h1 h2 => (o857 (q) (by omega)))
          have hf864 := hsc.kept (fun q h1 h2 => ((o857 (q) (by omega)).trans (o2 (q) (by omega))))
          refine g_iret hx hb hr hlk hK hM dX9_does_906 ?_
          have hS : sRef P 11 a b x y (fl = 1) = 1 := by
            rw [rf_11]
            (repeat' split) <;> first | rfl | omega
          obtain ⟨e1, e2, e3⟩ := d_no hS (by decide)
          exact ⟨by rw [e1]; exact ho862, by rw [e2], by rw [e3]; exact hf863, hf864, (fun q hq => ((o857 (q) (by omega)).trans (o2 (q) (by omega))))⟩
        · exact absurd c836 (by decide)
      · skip
        refine lv_aload_n hx hb dX9_does_819 rfl (lv_at hl 0 rfl) ?_
        refine lv_iload_n hx hb dX9_does_820 rfl (lv_at hl 3 rfl) ?_
        have hC865 := c_X9_isPlace l g b0 n f1 h (pu Z 15 0) M aa P b hf3 hf849 hrg hat haa hcn7 hrb
        refine g_callVi (ci := 11) (C := RX9) (T := TX9) (N := 24) (As := [.int (zI b)]) (rest := [.ref h]) ⟨hx, hb, hml, hown, hts⟩ hK hM hC865 (cuV (n := 1) hts u_1327 u_1324 u_10 (by decide) u_1326 us_47 ⟨Nat.le_of_ble_eq_true rfl, Nat.le_of_ble_eq_true rfl⟩) ⟨by omega, by omega⟩ hf3 rfl rfl hl.1 rfl (Nat.le_of_ble_eq_true rfl) dX9_does_821 ⟨Nat.zero_le _, Nat.zero_le _⟩ (fun r821 f866 H locs hM hp867 => ?_)
        obtain ⟨rfl, rfl⟩ := hp867
        refine g_ifb_ne (tgt := 831) hx hb dX9_does_824 (by decide) (fun c824 => ?_) (fun c824 => ?_)
        · skip
          refine g_iconst hx hb dX9_does_831 ?_
          refine g_iconst hx hb dX9_does_832 ?_
          have hC868 := c_X9_refuses l g b0 n f1 h (pu Z 15 0) 0 1 hf3 hrg (pu_s _ _ _) (Or.inl rfl) (by decide)
          refine g_callVi (ci := 11) (C := RX9) (T := TX9) (N := 24) (As := [.int (zI 0), .int (zI 1)]) (rest := []) ⟨hx, hb, hml, hown, hts⟩ hK hM hC868 (cuV (n := 2) hts u_1245 u_1242 u_10 (by decide) u_1244 us_29 ⟨Nat.le_of_ble_eq_true rfl, Nat.le_of_ble_eq_true rfl⟩) ⟨by omega, by omega⟩ hf3 rfl rfl hl.1 rfl (Nat.le_of_ble_eq_true rfl) dX9_does_833 ⟨Nat.zero_le _, Nat.zero_le _⟩ (fun r833 f869 H locs hM hp870 => ?_)
          have hd871 := rf_alt hp870 (Or.inl rfl)
          obtain ⟨rfl, hm875, o873⟩ := hd871.elim (fun q9 => absurd q9.1 (by decide)) (fun q9 => q9.2)
          have ho877 : f869 h = .inr (11, [.int (zI (Z 0)), .ref (h + 1), .ref (h + 2), .ref (h + 3), .ref (h + 4), .ref (h + 5), .ref (h + 6), .ref (h + 7), .ref (h + 8), .int (zI (Z 9)), .int (zI (Z 10)), .int (zI (Z 11)), .int (zI (Z 12)), .int (zI (Z 13)), .int (zI (Z 14)), .int (zI 0), .int (zI (Z 16)), .ref (h + 9), .ref (h + 10), .ref (h + 11), .int (zI (Z 20)), .int (zI (Z 21)), .int (zI (Z 22)), .ref (h + 12)]) := hm875
          refine g_if_ne (tgt := 905) hx hb dX9_does_836 (by decide) (by decide) (fun c836 => ?_) (fun c836 => ?_)
          · exact absurd c836 (by decide)
          · skip
            refine lv_aload_n hx hb dX9_does_839 rfl (lv_at hl 0 rfl) ?_
            refine lv_iload_n hx hb dX9_does_840 rfl (lv_at hl 2 rfl) ?_
            refine lv_iload_n hx hb dX9_does_841 rfl (lv_at hl 3 rfl) ?_
            refine g_icmp_eq (tgt := 858) hx hb dX9_does_842 (by decide) hra hrb (fun c842 => ?_) (fun c842 => ?_)
            · skip
              refine g_iconst hx hb dX9_does_858 ?_
              refine lv_goto (tgt := 863) hx hb dX9_does_859 (by decide) ?_
              refine g_iconst hx hb dX9_does_863 ?_
              have hC878 := c_X9_refuses l g b0 n f869 h (pu Z 15 0) 1 2 ho877 hrg (pu_s _ _ _) (Or.inr rfl) (by decide)
              refine g_callVi (ci := 11) (C := RX9) (T := TX9) (N := 24) (As := [.int (zI 1), .int (zI 2)]) (rest := []) ⟨hx, hb, hml, hown, hts⟩ hK hM hC878 (cuV (n := 2) hts u_1245 u_1242 u_10 (by decide) u_1244 us_29 ⟨Nat.le_of_ble_eq_true rfl, Nat.le_of_ble_eq_true rfl⟩) ⟨by omega, by omega⟩ ho877 rfl rfl hl.1 rfl (Nat.le_of_ble_eq_true rfl) dX9_does_864 ⟨Nat.zero_le _, Nat.zero_le _⟩ (fun r864 f879 H locs hM hp880 => ?_)
              have hd881 := rf_alt hp880 (Or.inr rfl)
              obtain ⟨rfl, hm884, o882⟩ := hd881.elim (fun q9 => q9.2) (fun q9 => absurd q9.1 (by decide))
              have ho887 : f879 h = .inr (11, [.int (zI (Z 0)), .ref (h + 1), .ref (h + 2), .ref (h + 3), .ref (h + 4), .ref (h + 5), .ref (h + 6), .ref (h + 7), .ref (h + 8), .int (zI (Z 9)), .int (zI (Z 10)), .int (zI (Z 11)), .int (zI (Z 12)), .int (zI (Z 13)), .int (zI (Z 14)), .int (zI 2), .int (zI (Z 16)), .ref (h + 9), .ref (h + 10), .ref (h + 11), .int (zI (Z 20)), .int (zI (Z 21)), .int (zI (Z 22)), .ref (h + 12)]) := hm884
              refine g_if_ne (tgt := 905) hx hb dX9_does_867 (by decide) (by decide) (fun c867 => ?_) (fun c867 => ?_)
              · skip
                refine g_iconst hx hb dX9_does_905 ?_
                have hf888 := hf849.kept (fun q h1 h2 => ((o882 (q) (by omega)).trans (o873 (q) (by omega))))
                have hf889 := hsc.kept (fun q h1 h2 => ((o882 (q) (by omega)).trans ((o873 (q) (by omega)).trans (o2 (q) (by omega)))))
                refine g_iret hx hb hr hlk hK hM dX9_does_906 ?_
                have hS : sRef P 11 a b x y (fl = 1) = 2 := by
                  rw [rf_11]
                  (repeat' split) <;> first | rfl | omega
                obtain ⟨e1, e2, e3⟩ := d_no hS (by decide)
                exact ⟨by rw [e1]; exact ho887, by rw [e2], by rw [e3]; exact hf888, hf889, (fun q hq => ((o882 (q) (by omega)).trans ((o873 (q) (by omega)).trans (o2 (q) (by omega)))))⟩
              · exact absurd c867 (by decide)
            · skip
              refine lv_iload hx hb dX9_does_845 (lv_at hl 4 rfl) ?_
              refine g_i2l hx hb dX9_does_847 hrx ?_
              refine g_lconst (z := 1) hx hb dX9_does_848 (by decide) ?_
              refine g_ldc2 (z := 1000000) hx hb hown (hts _ u_1273) dX9_does_849 (by decide) ?_
              have hC890 := c_X9_in l g b0 n f869 x 1 1000000 (rI_L hrx) (by decide) (by decide)
              refine g_callSi (As := [.long (zL x), .long (zL 1), .long (zL 1000000)]) (rest := [.ref h]) ⟨hx, hb, hml, hown, hts⟩ hK hM hC890 (cuS (n := 3) hts u_1240 u_1238 u_10 (by decide) u_1239 ⟨Nat.le_of_ble_eq_true rfl, Nat.le_of_ble_eq_true rfl⟩) rfl hl.1 rfl (Nat.le_of_ble_eq_true rfl) dX9_does_852 ⟨Nat.zero_le _, Nat.zero_le _⟩ (fun r852 f891 H locs hM hp892 => ?_)
              obtain ⟨rfl, rfl⟩ := hp892
              refine g_ifb_ne (tgt := 862) hx hb dX9_does_855 (by decide) (fun c855 => ?_) (fun c855 => ?_)
              · skip
                refine g_iconst hx hb dX9_does_862 ?_
                refine g_iconst hx hb dX9_does_863 ?_
                have hC893 := c_X9_refuses l g b0 n f869 h (pu Z 15 0) 0 2 ho877 hrg (pu_s _ _ _) (Or.inl rfl) (by decide)
                refine g_callVi (ci := 11) (C := RX9) (T := TX9) (N := 24) (As := [.int (zI 0), .int (zI 2)]) (rest := []) ⟨hx, hb, hml, hown, hts⟩ hK hM hC893 (cuV (n := 2) hts u_1245 u_1242 u_10 (by decide) u_1244 us_29 ⟨Nat.le_of_ble_eq_true rfl, Nat.le_of_ble_eq_true rfl⟩) ⟨by omega, by omega⟩ ho877 rfl rfl hl.1 rfl (Nat.le_of_ble_eq_true rfl) dX9_does_864 ⟨Nat.zero_le _, Nat.zero_le _⟩ (fun r864 f894 H locs hM hp895 => ?_)
                have hd896 := rf_alt hp895 (Or.inl rfl)
                obtain ⟨rfl, hm900, o898⟩ := hd896.elim (fun q9 => absurd q9.1 (by decide)) (fun q9 => q9.2)
                have ho902 : f894 h = .inr (11, [.int (zI (Z 0)), .ref (h + 1), .ref (h + 2), .ref (h + 3), .ref (h + 4), .ref (h + 5), .ref (h + 6), .ref (h + 7), .ref (h + 8), .int (zI (Z 9)), .int (zI (Z 10)), .int (zI (Z 11)), .int (zI (Z 12)), .int (zI (Z 13)), .int (zI (Z 14)), .int (zI 0), .int (zI (Z 16)), .ref (h + 9), .ref (h + 10), .ref (h + 11), .int (zI (Z 20)), .int (zI (Z 21)), .int (zI (Z 22)), .ref (h + 12)]) := hm900
                refine g_if_ne (tgt := 905) hx hb dX9_does_867 (by decide) (by decide) (fun c867 => ?_) (fun c867 => ?_)
                · exact absurd c867 (by decide)
                · skip
                  refine lv_aload_n hx hb dX9_does_870 rfl (lv_at hl 0 rfl) ?_
                  refine lv_iload hx hb dX9_does_871 (lv_at hl 6 rfl) ?_
                  refine g_iconst hx hb dX9_does_873 ?_
                  have hC903 := c_X9_refuses l g b0 n f894 h (pu Z 15 0) fl 3 ho902 hrg (pu_s _ _ _) hfl (by decide)
                  refine g_callVi (ci := 11) (C := RX9) (T := TX9) (N := 24) (As := [.int (zI fl), .int (zI 3)]) (rest := []) ⟨hx, hb, hml, hown, hts⟩ hK hM hC903 (cuV (n := 2) hts u_1245 u_1242 u_10 (by decide) u_1244 us_29 ⟨Nat.le_of_ble_eq_true rfl, Nat.le_of_ble_eq_true rfl⟩) ⟨by omega, by omega⟩ ho902 rfl rfl hl.1 rfl (Nat.le_of_ble_eq_true rfl) dX9_does_874 ⟨Nat.zero_le _, Nat.zero_le _⟩ (fun r874 f904 H locs hM hp905 => ?_)
                  have hd906 := rf_alt hp905 hfl
                  rcases hd906 with ⟨hq911, rfl, hm909, o907⟩ | ⟨hq911, rfl, hm910, o908⟩
                  · skip
                    have ho912 : f904 h = .inr (11, [.int (zI (Z 0)), .ref (h + 1), .ref (h + 2), .ref (h + 3), .ref (h + 4), .ref (h + 5), .ref (h + 6), .ref (h + 7), .ref (h + 8), .int (zI (Z 9)), .int (zI (Z 10)), .int (zI (Z 11)), .int (zI (Z 12)), .int (zI (Z 13)), .int (zI (Z 14)), .int (zI 3), .int (zI (Z 16)), .ref (h + 9), .ref (h + 10), .ref (h + 11), .int (zI (Z 20)), .int (zI (Z 21)), .int (zI (Z 22)), .ref (h + 12)]) := hm909
                    refine g_if_ne (tgt := 905) hx hb dX9_does_877 (by decide) (by decide) (fun c877 => ?_) (fun c877 => ?_)
                    · skip
                      refine g_iconst hx hb dX9_does_905 ?_
                      have hf913 := hf849.kept (fun q h1 h2 => ((o907 (q) (by omega)).trans ((o898 (q) (by omega)).trans (o873 (q) (by omega)))))
                      have hf914 := hsc.kept (fun q h1 h2 => ((o907 (q) (by omega)).trans ((o898 (q) (by omega)).trans ((o873 (q) (by omega)).trans (o2 (q) (by omega))))))
                      refine g_iret hx hb hr hlk hK hM dX9_does_906 ?_
                      have hS : sRef P 11 a b x y (fl = 1) = 3 := by
                        rw [rf_11]
                        (repeat' split) <;> first | rfl | omega
                      obtain ⟨e1, e2, e3⟩ := d_no hS (by decide)
                      exact ⟨by rw [e1]; exact ho912, by rw [e2], by rw [e3]; exact hf913, hf914, (fun q hq => ((o907 (q) (by omega)).trans ((o898 (q) (by omega)).trans ((o873 (q) (by omega)).trans (o2 (q) (by omega))))))⟩
                    · exact absurd c877 (by decide)
                  · skip
                    have ho915 : f904 h = .inr (11, [.int (zI (Z 0)), .ref (h + 1), .ref (h + 2), .ref (h + 3), .ref (h + 4), .ref (h + 5), .ref (h + 6), .ref (h + 7), .ref (h + 8), .int (zI (Z 9)), .int (zI (Z 10)), .int (zI (Z 11)), .int (zI (Z 12)), .int (zI (Z 13)), .int (zI (Z 14)), .int (zI 0), .int (zI (Z 16)), .ref (h + 9), .ref (h + 10), .ref (h + 11), .int (zI (Z 20)), .int (zI (Z 21)), .int (zI (Z 22)), .ref (h + 12)]) := hm910
                    refine g_if_ne (tgt := 905) hx hb dX9_does_877 (by decide) (by decide) (fun c877 => ?_) (fun c877 => ?_)
                    · exact absurd c877 (by decide)
                    · skip
                      have hmr : rL (sMon P a) := by
                        unfold sMon
                        split
                        · exact ⟨by omega, by omega⟩
                        · have hb0 := (hws.E.2 a.toNat (by omega)).1
                          exact ⟨by omega, by omega⟩
                      refine lv_aload_n hx hb dX9_does_880 rfl (lv_at hl 0 rfl) ?_
                      refine lv_aload_n hx hb dX9_does_881 rfl (lv_at hl 0 rfl) ?_
                      refine lv_iload_n hx hb dX9_does_882 rfl (lv_at hl 2 rfl) ?_
                      have hf916 := hf849.kept (fun q h1 h2 => ((o908 (q) (by omega)).trans ((o898 (q) (by omega)).trans (o873 (q) (by omega)))))
                      have hC917 := c_X9_moneyIn l g b0 n f904 h (pu Z 15 0) M aa P a ho915 hf916 hrg hat haa hcn7 hra (by omega)
                      refine g_callVl (ci := 11) (C := RX9) (T := TX9) (N := 24) (As := [.int (zI a)]) (rest := [.ref h]) ⟨hx, hb, hml, hown, hts⟩ hK hM hC917 (cuV (n := 1) hts u_1331 u_1328 u_10 (by decide) u_1330 us_48 ⟨Nat.le_of_ble_eq_true rfl, Nat.le_of_ble_eq_true rfl⟩) ⟨by omega, by omega⟩ ho915 rfl rfl hl.1 rfl (Nat.le_of_ble_eq_true rfl) dX9_does_883 ⟨Nat.zero_le _, Nat.zero_le _⟩ (fun r883 f918 H locs hM hp919 => ?_)
                      obtain ⟨rfl, rfl⟩ := hp919
                      refine lv_iload hx hb dX9_does_886 (lv_at hl 4 rfl) ?_
                      refine g_i2l hx hb dX9_does_888 hrx ?_
                      refine g_lcmp_ge (tgt := 897) hx hb dX9_does_889 dX9_does_890 (by decide) hmr (rI_L hrx) (fun c889 => ?_) (fun c889 => ?_)
                      · skip
                        refine g_iconst hx hb dX9_does_897 ?_
                        refine g_iconst hx hb dX9_does_898 ?_
                        have hC920 := c_X9_refuses l g b0 n f904 h (pu Z 15 0) 0 4 ho915 hrg (pu_s _ _ _) (Or.inl rfl) (by decide)
                        refine g_callVi (ci := 11) (C := RX9) (T := TX9) (N := 24) (As := [.int (zI 0), .int (zI 4)]) (rest := []) ⟨hx, hb, hml, hown, hts⟩ hK hM hC920 (cuV (n := 2) hts u_1245 u_1242 u_10 (by decide) u_1244 us_29 ⟨Nat.le_of_ble_eq_true rfl, Nat.le_of_ble_eq_true rfl⟩) ⟨by omega, by omega⟩ ho915 rfl rfl hl.1 rfl (Nat.le_of_ble_eq_true rfl) dX9_does_899 ⟨Nat.zero_le _, Nat.zero_le _⟩ (fun r899 f921 H locs hM hp922 => ?_)
                        have hd923 := rf_alt hp922 (Or.inl rfl)
                        obtain ⟨rfl, hm927, o925⟩ := hd923.elim (fun q9 => absurd q9.1 (by decide)) (fun q9 => q9.2)
                        have ho929 : f921 h = .inr (11, [.int (zI (Z 0)), .ref (h + 1), .ref (h + 2), .ref (h + 3), .ref (h + 4), .ref (h + 5), .ref (h + 6), .ref (h + 7), .ref (h + 8), .int (zI (Z 9)), .int (zI (Z 10)), .int (zI (Z 11)), .int (zI (Z 12)), .int (zI (Z 13)), .int (zI (Z 14)), .int (zI 0), .int (zI (Z 16)), .ref (h + 9), .ref (h + 10), .ref (h + 11), .int (zI (Z 20)), .int (zI (Z 21)), .int (zI (Z 22)), .ref (h + 12)]) := hm927
                        refine g_if_eq (tgt := 907) hx hb dX9_does_902 (by decide) (by decide) (fun c902 => ?_) (fun c902 => ?_)
                        · skip
                          refine lv_aload_n hx hb dX9_does_907 rfl (lv_at hl 0 rfl) ?_
                          refine lv_aload_n hx hb dX9_does_908 rfl (lv_at hl 0 rfl) ?_
                          refine lv_iload_n hx hb dX9_does_909 rfl (lv_at hl 2 rfl) ?_
                          refine lv_iload_n hx hb dX9_does_910 rfl (lv_at hl 3 rfl) ?_
                          refine lv_iload hx hb dX9_does_911 (lv_at hl 4 rfl) ?_
                          have hf930 := hf916.kept (fun q h1 h2 => (o925 (q) (by omega)))
                          have hC931 := c_X9_moves l g b0 n f921 h (pu Z 15 0) M aa P a b x ho929 hf930 hrg hat haa (wfE_mono hws.E (by omega)) hra hrb (by omega) (by omega) (by omega) ⟨by omega, by omega⟩
                          refine g_callVi (ci := 11) (C := RX9) (T := TX9) (N := 24) (As := [.int (zI a), .int (zI b), .int (zI x)]) (rest := [.ref h]) ⟨hx, hb, hml, hown, hts⟩ hK hM hC931 (cuV (n := 3) hts u_1335 u_1332 u_10 (by decide) u_1334 us_49 ⟨Nat.le_of_ble_eq_true rfl, Nat.le_of_ble_eq_true rfl⟩) ⟨by omega, by omega⟩ ho929 rfl rfl hl.1 rfl (Nat.le_of_ble_eq_true rfl) dX9_does_913 ⟨Nat.zero_le _, Nat.zero_le _⟩ (fun r913 f932 H locs hM hp933 => ?_)
                          obtain ⟨rfl, hn934, o935⟩ := hp933
                          obtain ⟨P1, hP1⟩ : ∃ Q : Nat → Int, Q = sMv P a b x := ⟨_, rfl⟩
                          rw [← hP1] at hn934
                          have hmn9 : 0 ≤ sMvN P b x ∧ sMvN P b x ≤ x := by
                            unfold sMvN
                            split
                            · exact ⟨by omega, by omega⟩
                            · exact sIs_le (by omega)
                          refine g_i2l hx hb dX9_does_916 ⟨by omega, by omega⟩ ?_
                          have hd2 : pOkL P1 (v0 + 1) 8 := by rw [hP1]; exact pOkL_mono (pOkL_mv hok (by omega) (by omega) (by omega) (by omega) (by omega)) (by omega)
                          have hf937 := hsc.kept (fun q h1 h2 => ((o935 (q) (by omega)).trans ((o925 (q) (by omega)).trans ((o908 (q) (by omega)).trans ((o898 (q) (by omega)).trans ((o873 (q) (by omega)).trans (o2 (q) (by omega))))))))
                          have hf938 : f932 (h) = .inr (11, [.int (zI (Z 0)), .ref (h + 1), .ref (h + 2), .ref (h + 3), .ref (h + 4), .ref (h + 5), .ref (h + 6), .ref (h + 7), .ref (h + 8), .int (zI (Z 9)), .int (zI (Z 10)), .int (zI (Z 11)), .int (zI (Z 12)), .int (zI (Z 13)), .int (zI (Z 14)), .int (zI 0), .int (zI (Z 16)), .ref (h + 9), .ref (h + 10), .ref (h + 11), .int (zI (Z 20)), .int (zI (Z 21)), .int (zI (Z 22)), .ref (h + 12)]) := (o935 (h) (by omega)).trans ho929
                          have hC939 := c_X9_settled l g b0 n f932 h (pu Z 15 0) M aa P1 (sMvN P b x) hf938 hn934 hrg hat haa hf937 (wfS_mono (pOkL_wfS hd2 (by omega)) (by omega)) hd2.2.2.1
                          refine g_callVi (ci := 11) (C := RX9) (T := TX9) (N := 24) (As := [.long (zL (sMvN P b x))]) (rest := []) ⟨hx, hb, hml, hown, hts⟩ hK hM hC939 (cuV (n := 1) hts u_1311 u_1308 u_10 (by decide) u_1310 us_43 ⟨Nat.le_of_ble_eq_true rfl, Nat.le_of_ble_eq_true rfl⟩) ⟨by omega, by omega⟩ hf938 rfl rfl hl.1 rfl (Nat.le_of_ble_eq_true rfl) dX9_does_917 ⟨Nat.zero_le _, Nat.zero_le _⟩ (fun r917 f940 H locs hM hp941 => ?_)
                          obtain ⟨rfl, hn942, hs944, o943⟩ := hp941
                          obtain ⟨P2, hP2⟩ : ∃ Q : Nat → Int, Q = sSet P1 := ⟨_, rfl⟩
                          rw [← hP2] at hn942
                          have hf945 : f940 (h) = .inr (11, [.int (zI (Z 0)), .ref (h + 1), .ref (h + 2), .ref (h + 3), .ref (h + 4), .ref (h + 5), .ref (h + 6), .ref (h + 7), .ref (h + 8), .int (zI (Z 9)), .int (zI (Z 10)), .int (zI (Z 11)), .int (zI (Z 12)), .int (zI (Z 13)), .int (zI (Z 14)), .int (zI 0), .int (zI (Z 16)), .ref (h + 9), .ref (h + 10), .ref (h + 11), .int (zI (Z 20)), .int (zI (Z 21)), .int (zI (Z 22)), .ref (h + 12)]) := (o943 (h) (by omega)).trans hf938
                          refine g_iret hx hb hr hlk hK hM dX9_does_920 ?_
                          have hS : sRef P 11 a b x y (fl = 1) = 0 := by
                            rw [rf_11]
                            (repeat' split) <;> first | rfl | omega
                          have hF : sPf P 11 a b x y = ((sMvN P b x), P2) := by
                            unfold sPf
                            rw [if_neg (by omega), if_neg (by omega), if_neg (by omega), if_neg (by omega), if_neg (by omega), if_neg (by omega), if_neg (by omega), if_neg (by omega), if_neg (by omega), if_neg (by omega)]
                            unfold sMm
                            rw [if_neg (by omega), if_neg (by omega), hP2, hP1]
                          obtain ⟨e1, e2, e3⟩ := d_yes hS hF
                          exact ⟨by rw [e1]; exact hf945, by rw [e2], by rw [e3]; exact hn942, hs944, (fun q hq => ((o943 (q) (by omega)).trans ((o935 (q) (by omega)).trans ((o925 (q) (by omega)).trans ((o908 (q) (by omega)).trans ((o898 (q) (by omega)).trans ((o873 (q) (by omega)).trans (o2 (q) (by omega)))))))))⟩
                        · exact absurd c902 (by decide)
                      · skip
                        refine g_iconst hx hb dX9_does_893 ?_
                        refine lv_goto (tgt := 898) hx hb dX9_does_894 (by decide) ?_
                        refine g_iconst hx hb dX9_does_898 ?_
                        have hC946 := c_X9_refuses l g b0 n f904 h (pu Z 15 0) 1 4 ho915 hrg (pu_s _ _ _) (Or.inr rfl) (by decide)
                        refine g_callVi (ci := 11) (C := RX9) (T := TX9) (N := 24) (As := [.int (zI 1), .int (zI 4)]) (rest := []) ⟨hx, hb, hml, hown, hts⟩ hK hM hC946 (cuV (n := 2) hts u_1245 u_1242 u_10 (by decide) u_1244 us_29 ⟨Nat.le_of_ble_eq_true rfl, Nat.le_of_ble_eq_true rfl⟩) ⟨by omega, by omega⟩ ho915 rfl rfl hl.1 rfl (Nat.le_of_ble_eq_true rfl) dX9_does_899 ⟨Nat.zero_le _, Nat.zero_le _⟩ (fun r899 f947 H locs hM hp948 => ?_)
                        have hd949 := rf_alt hp948 (Or.inr rfl)
                        obtain ⟨rfl, hm952, o950⟩ := hd949.elim (fun q9 => q9.2) (fun q9 => absurd q9.1 (by decide))
                        have ho955 : f947 h = .inr (11, [.int (zI (Z 0)), .ref (h + 1), .ref (h + 2), .ref (h + 3), .ref (h + 4), .ref (h + 5), .ref (h + 6), .ref (h + 7), .ref (h + 8), .int (zI (Z 9)), .int (zI (Z 10)), .int (zI (Z 11)), .int (zI (Z 12)), .int (zI (Z 13)), .int (zI (Z 14)), .int (zI 4), .int (zI (Z 16)), .ref (h + 9), .ref (h + 10), .ref (h + 11), .int (zI (Z 20)), .int (zI (Z 21)), .int (zI (Z 22)), .ref (h + 12)]) := hm952
                        refine g_if_eq (tgt := 907) hx hb dX9_does_902 (by decide) (by decide) (fun c902 => ?_) (fun c902 => ?_)
                        · exact absurd c902 (by decide)
                        · skip
                          refine g_iconst hx hb dX9_does_905 ?_
                          have hf956 := hf916.kept (fun q h1 h2 => (o950 (q) (by omega)))
                          have hf957 := hsc.kept (fun q h1 h2 => ((o950 (q) (by omega)).trans ((o908 (q) (by omega)).trans ((o898 (q) (by omega)).trans ((o873 (q) (by omega)).trans (o2 (q) (by omega)))))))
                          refine g_iret hx hb hr hlk hK hM dX9_does_906 ?_
                          have hS : sRef P 11 a b x y (fl = 1) = 4 := by
                            rw [rf_11]
                            (repeat' split) <;> first | rfl | omega
                          obtain ⟨e1, e2, e3⟩ := d_no hS (by decide)
                          exact ⟨by rw [e1]; exact ho955, by rw [e2], by rw [e3]; exact hf956, hf957, (fun q hq => ((o950 (q) (by omega)).trans ((o908 (q) (by omega)).trans ((o898 (q) (by omega)).trans ((o873 (q) (by omega)).trans (o2 (q) (by omega)))))))⟩
              · skip
                refine g_iconst hx hb dX9_does_858 ?_
                refine lv_goto (tgt := 863) hx hb dX9_does_859 (by decide) ?_
                refine g_iconst hx hb dX9_does_863 ?_
                have hC958 := c_X9_refuses l g b0 n f869 h (pu Z 15 0) 1 2 ho877 hrg (pu_s _ _ _) (Or.inr rfl) (by decide)
                refine g_callVi (ci := 11) (C := RX9) (T := TX9) (N := 24) (As := [.int (zI 1), .int (zI 2)]) (rest := []) ⟨hx, hb, hml, hown, hts⟩ hK hM hC958 (cuV (n := 2) hts u_1245 u_1242 u_10 (by decide) u_1244 us_29 ⟨Nat.le_of_ble_eq_true rfl, Nat.le_of_ble_eq_true rfl⟩) ⟨by omega, by omega⟩ ho877 rfl rfl hl.1 rfl (Nat.le_of_ble_eq_true rfl) dX9_does_864 ⟨Nat.zero_le _, Nat.zero_le _⟩ (fun r864 f959 H locs hM hp960 => ?_)
                have hd961 := rf_alt hp960 (Or.inr rfl)
                obtain ⟨rfl, hm964, o962⟩ := hd961.elim (fun q9 => q9.2) (fun q9 => absurd q9.1 (by decide))
                have ho967 : f959 h = .inr (11, [.int (zI (Z 0)), .ref (h + 1), .ref (h + 2), .ref (h + 3), .ref (h + 4), .ref (h + 5), .ref (h + 6), .ref (h + 7), .ref (h + 8), .int (zI (Z 9)), .int (zI (Z 10)), .int (zI (Z 11)), .int (zI (Z 12)), .int (zI (Z 13)), .int (zI (Z 14)), .int (zI 2), .int (zI (Z 16)), .ref (h + 9), .ref (h + 10), .ref (h + 11), .int (zI (Z 20)), .int (zI (Z 21)), .int (zI (Z 22)), .ref (h + 12)]) := hm964
                refine g_if_ne (tgt := 905) hx hb dX9_does_867 (by decide) (by decide) (fun c867 => ?_) (fun c867 => ?_)
                · skip
                  refine g_iconst hx hb dX9_does_905 ?_
                  have hf968 := hf849.kept (fun q h1 h2 => ((o962 (q) (by omega)).trans (o873 (q) (by omega))))
                  have hf969 := hsc.kept (fun q h1 h2 => ((o962 (q) (by omega)).trans ((o873 (q) (by omega)).trans (o2 (q) (by omega)))))
                  refine g_iret hx hb hr hlk hK hM dX9_does_906 ?_
                  have hS : sRef P 11 a b x y (fl = 1) = 2 := by
                    rw [rf_11]
                    (repeat' split) <;> first | rfl | omega
                  obtain ⟨e1, e2, e3⟩ := d_no hS (by decide)
                  exact ⟨by rw [e1]; exact ho967, by rw [e2], by rw [e3]; exact hf968, hf969, (fun q hq => ((o962 (q) (by omega)).trans ((o873 (q) (by omega)).trans (o2 (q) (by omega)))))⟩
                · exact absurd c867 (by decide)
        · skip
          refine g_iconst hx hb dX9_does_827 ?_
          refine lv_goto (tgt := 832) hx hb dX9_does_828 (by decide) ?_
          refine g_iconst hx hb dX9_does_832 ?_
          have hC970 := c_X9_refuses l g b0 n f1 h (pu Z 15 0) 1 1 hf3 hrg (pu_s _ _ _) (Or.inr rfl) (by decide)
          refine g_callVi (ci := 11) (C := RX9) (T := TX9) (N := 24) (As := [.int (zI 1), .int (zI 1)]) (rest := []) ⟨hx, hb, hml, hown, hts⟩ hK hM hC970 (cuV (n := 2) hts u_1245 u_1242 u_10 (by decide) u_1244 us_29 ⟨Nat.le_of_ble_eq_true rfl, Nat.le_of_ble_eq_true rfl⟩) ⟨by omega, by omega⟩ hf3 rfl rfl hl.1 rfl (Nat.le_of_ble_eq_true rfl) dX9_does_833 ⟨Nat.zero_le _, Nat.zero_le _⟩ (fun r833 f971 H locs hM hp972 => ?_)
          have hd973 := rf_alt hp972 (Or.inr rfl)
          obtain ⟨rfl, hm976, o974⟩ := hd973.elim (fun q9 => q9.2) (fun q9 => absurd q9.1 (by decide))
          have ho979 : f971 h = .inr (11, [.int (zI (Z 0)), .ref (h + 1), .ref (h + 2), .ref (h + 3), .ref (h + 4), .ref (h + 5), .ref (h + 6), .ref (h + 7), .ref (h + 8), .int (zI (Z 9)), .int (zI (Z 10)), .int (zI (Z 11)), .int (zI (Z 12)), .int (zI (Z 13)), .int (zI (Z 14)), .int (zI 1), .int (zI (Z 16)), .ref (h + 9), .ref (h + 10), .ref (h + 11), .int (zI (Z 20)), .int (zI (Z 21)), .int (zI (Z 22)), .ref (h + 12)]) := hm976
          refine g_if_ne (tgt := 905) hx hb dX9_does_836 (by decide) (by decide) (fun c836 => ?_) (fun c836 => ?_)
          · skip
            refine g_iconst hx hb dX9_does_905 ?_
            have hf980 := hf849.kept (fun q h1 h2 => (o974 (q) (by omega)))
            have hf981 := hsc.kept (fun q h1 h2 => ((o974 (q) (by omega)).trans (o2 (q) (by omega))))
            refine g_iret hx hb hr hlk hK hM dX9_does_906 ?_
            have hS : sRef P 11 a b x y (fl = 1) = 1 := by
              rw [rf_11]
              (repeat' split) <;> first | rfl | omega
            obtain ⟨e1, e2, e3⟩ := d_no hS (by decide)
            exact ⟨by rw [e1]; exact ho979, by rw [e2], by rw [e3]; exact hf980, hf981, (fun q hq => ((o974 (q) (by omega)).trans (o2 (q) (by omega))))⟩
          · exact absurd c836 (by decide)
