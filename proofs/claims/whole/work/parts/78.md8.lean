def po_X9_forecast (g : gE) (f : gF) (h : Nat) (Z M : Nat → Int) (P : Nat → Nat → Int) (ps : Nat) (a b v0 : Int) : Int64 → gF → Prop := fun r f1 => ∃ Z1 M1 : Nat → Int, mdO f1 h Z1 ∧ zKeep Z Z1 ∧ Z1 0 = (cd1 ((1 ≤ a ∧ a ≤ 200) ∧ (0 ≤ b ∧ b ≤ 9))) ∧ ((cd1 ((1 ≤ a ∧ a ≤ 200) ∧ (0 ≤ b ∧ b ≤ 9))) = 0 → r = zL (fcV (P ps) a.toNat b.toNat)) ∧ arJ g f1 (h + 1) 2058 M1 ∧ (∀ j, j < 1764 → M1 j = mov M (294 * ps) (P ps) j) ∧ scrAt g f1 h ∧ ∀ q, (q < h ∨ (h + 2 ≤ q ∧ q < h + 9) ∨ h + 11 ≤ q) → f1 q = f q
set_option maxRecDepth 100000 in
set_option maxHeartbeats 1000000 in
/-- forecast(days, what) -/
theorem c_X9_forecast (l : Launch) (g : gE) (b0 n : Nat) (f : gF) (h : Nat) (Z M : Nat → Int) (P : Nat → Nat → Int) (ps : Nat) (a b v0 : Int) (hO : mdO f h Z) (hP : mpAt g f h M (294 * ps) (P ps)) (hrg : b0 ≤ h ∧ h + 13 ≤ b0 + n) (hsc : scrAt g f h) (hz9 : Z 9 = ↑ps) (hps : ps < 6) (hok : pOk (P ps) v0) (hv1 : 0 ≤ v0) (hv0 : v0 + 1800 ≤ 800000000) (hra : rI a) (hrb : rI b) : cL l yX9_forecast cX9_forecast 10 (some .long) 7 221 [.ref h, .int (zI a), .int (zI b)] g b0 n f (po_X9_forecast g f h Z M P ps a b v0) := by
  refine gs_l (cc := cX9_forecast) (maxL := 10) (ret := (some .long)) (by decide) (Nat.le_of_ble_eq_true rfl) ?_
  intro p e0 s m args below meth c ls hx hb hr hml hown hts hlk hK hM hl
  have hl : lv_has ls 10 [(0, .ref h), (1, .int (zI a)), (2, .int (zI b))] := hl
  have hcn7 := hok.1.1
  have hcn8 := hok.2.1.1
  have hcn9 := hok.2.2.1.1
  have hcn10 := hok.2.2.2.2.2.2.2.1
  have hcp7 := hcn7.1
  have hcp8 := hcn8.1
  have hcp9 := hcn9.1
  have hcp10 := hcn10.1
  have hcq7 := hcn7.2
  have hcq8 := hcn8.2
  have hcq9 := hcn9.2
  have hcq10 := hcn10.2
  have hws := pOkL_wfS hok (by omega)
  refine lv_aload_n hx hb dX9_forecast_0 rfl (lv_at hl 0 rfl) ?_
  have hC1 := c_X9_thinks l g b0 n f h Z M P ps hO hP hrg hz9 hps
  refine g_callVv (ci := 11) (C := RX9) (T := TX9) (N := 24) (As := []) (rest := []) ⟨hx, hb, hml, hown, hts⟩ hK hM hC1 (cuV (n := 0) hts u_1459 u_1456 u_10 (by decide) u_1458 us_59 ⟨Nat.le_of_ble_eq_true rfl, Nat.le_of_ble_eq_true rfl⟩) ⟨by omega, by omega⟩ hO rfl rfl hl.1 rfl (Nat.le_of_ble_eq_true rfl) dX9_forecast_1 ⟨Nat.zero_le _, Nat.zero_le _⟩ (fun f2 H locs hM hp3 => ?_)
  obtain ⟨hm4, hn5, o6⟩ := hp3
  have ho7 : f2 h = .inr (11, [.int (zI 0), .ref (h + 1), .ref (h + 2), .ref (h + 3), .ref (h + 4), .ref (h + 5), .ref (h + 6), .ref (h + 7), .ref (h + 8), .int (zI (Z 9)), .int (zI (Z 10)), .int (zI 1764), .int (zI (Z 12)), .int (zI (Z 13)), .int (zI (Z 14)), .int (zI (Z 15)), .int (zI (Z 16)), .ref (h + 9), .ref (h + 10), .ref (h + 11), .int (zI (Z 20)), .int (zI (Z 21)), .int (zI (Z 22)), .ref (h + 12)]) := hm4
  refine lv_iload_n hx hb dX9_forecast_4 rfl (lv_at hl 1 rfl) ?_
  refine g_i2l hx hb dX9_forecast_5 hra ?_
  refine g_lconst (z := 1) hx hb dX9_forecast_6 (by decide) ?_
  refine g_ldc2 (z := 200) hx hb hown (hts _ u_1460) dX9_forecast_7 (by decide) ?_
  have hC8 := c_X9_in l g b0 n f2 a 1 200 (rI_L hra) (by decide) (by decide)
  refine g_callSi (As := [.long (zL a), .long (zL 1), .long (zL 200)]) (rest := []) ⟨hx, hb, hml, hown, hts⟩ hK hM hC8 (cuS (n := 3) hts u_1240 u_1238 u_10 (by decide) u_1239 ⟨Nat.le_of_ble_eq_true rfl, Nat.le_of_ble_eq_true rfl⟩) rfl hl.1 rfl (Nat.le_of_ble_eq_true rfl) dX9_forecast_10 ⟨Nat.zero_le _, Nat.zero_le _⟩ (fun r10 f9 H locs hM hp10 => ?_)
  obtain ⟨rfl, rfl⟩ := hp10
  refine g_ifb_eq (tgt := 28) hx hb dX9_forecast_13 (by decide) (fun c13 => ?_) (fun c13 => ?_)
  · skip
    refine lv_aload_n hx hb dX9_forecast_28 rfl (lv_at hl 0 rfl) ?_
    refine g_iconst hx hb dX9_forecast_29 ?_
    have hC11 := c_X9_fails l g b0 n f2 h (pu (pu Z 0 0) 11 1764) 1 ho7 hrg
    refine g_callVi (ci := 11) (C := RX9) (T := TX9) (N := 24) (As := [.int (zI 1)]) (rest := []) ⟨hx, hb, hml, hown, hts⟩ hK hM hC11 (cuV (n := 1) hts u_1412 u_1409 u_10 (by decide) u_1411 us_55 ⟨Nat.le_of_ble_eq_true rfl, Nat.le_of_ble_eq_true rfl⟩) ⟨by omega, by omega⟩ ho7 rfl rfl hl.1 rfl (Nat.le_of_ble_eq_true rfl) dX9_forecast_30 ⟨Nat.zero_le _, Nat.zero_le _⟩ (fun r30 f12 H locs hM hp13 => ?_)
    obtain ⟨rfl, hm14, o15⟩ := hp13
    have ho16 : f12 h = .inr (11, [.int (zI 1), .ref (h + 1), .ref (h + 2), .ref (h + 3), .ref (h + 4), .ref (h + 5), .ref (h + 6), .ref (h + 7), .ref (h + 8), .int (zI (Z 9)), .int (zI (Z 10)), .int (zI 1764), .int (zI (Z 12)), .int (zI (Z 13)), .int (zI (Z 14)), .int (zI (Z 15)), .int (zI (Z 16)), .ref (h + 9), .ref (h + 10), .ref (h + 11), .int (zI (Z 20)), .int (zI (Z 21)), .int (zI (Z 22)), .ref (h + 12)]) := hm14
    refine g_i2l hx hb dX9_forecast_33 (by decide) ?_
    have hf17 := hn5.kept (fun q h1 h2 => (o15 (q) (by omega)))
    have hf18 := hsc.kept (fun q h1 h2 => ((o15 (q) (by omega)).trans (o6 (q) (by omega))))
    refine g_lret hx hb hr hlk hK hM dX9_forecast_34 ?_
    have hcd : (cd1 ((1 ≤ a ∧ a ≤ 200) ∧ (0 ≤ b ∧ b ≤ 9))) = 1 := cd1_n (by omega)
    refine ⟨(pu (pu Z 0 1) 11 1764), (mov (mov M (294 * ps) (P ps)) 1764 (P ps)), ho16, ((zKeep.rf.pu (by decide)).pu (by decide)), ?_, fun hh => ?_, hf17, fun j hj => mov_n (by omega), hf18, (fun q hq => ((o15 (q) (by omega)).trans (o6 (q) (by omega))))⟩
    · exact hcd.symm
    · rw [hcd] at hh; exact absurd hh (by decide)
  · skip
    refine lv_iload_n hx hb dX9_forecast_16 rfl (lv_at hl 2 rfl) ?_
    refine g_i2l hx hb dX9_forecast_17 hrb ?_
    refine g_lconst (z := 0) hx hb dX9_forecast_18 (by decide) ?_
    refine g_ldc2 (z := 9) hx hb hown (hts _ u_1461) dX9_forecast_19 (by decide) ?_
    have hC19 := c_X9_in l g b0 n f2 b 0 9 (rI_L hrb) (by decide) (by decide)
    refine g_callSi (As := [.long (zL b), .long (zL 0), .long (zL 9)]) (rest := []) ⟨hx, hb, hml, hown, hts⟩ hK hM hC19 (cuS (n := 3) hts u_1240 u_1238 u_10 (by decide) u_1239 ⟨Nat.le_of_ble_eq_true rfl, Nat.le_of_ble_eq_true rfl⟩) rfl hl.1 rfl (Nat.le_of_ble_eq_true rfl) dX9_forecast_22 ⟨Nat.zero_le _, Nat.zero_le _⟩ (fun r22 f20 H locs hM hp21 => ?_)
    obtain ⟨rfl, rfl⟩ := hp21
    refine g_ifb_ne (tgt := 35) hx hb dX9_forecast_25 (by decide) (fun c25 => ?_) (fun c25 => ?_)
    · skip
      refine g_ldc2 (z := 9223372036854775807) hx hb hown (hts _ u_1305) dX9_forecast_35 (by decide) ?_
      refine lv_lstore_n (lv' := [(3, .long (zL 9223372036854775807)), (0, .ref h), (1, .int (zI a)), (2, .int (zI b))]) hx hb dX9_forecast_38 rfl hl (by decide) rfl (fun ls hl => ?_)
      refine g_lconst (z := 0) hx hb dX9_forecast_39 (by decide) ?_
      refine lv_lstore (lv' := [(5, .long (zL 0)), (3, .long (zL 9223372036854775807)), (0, .ref h), (1, .int (zI a)), (2, .int (zI b))]) hx hb dX9_forecast_40 hl (by decide) rfl (fun ls hl => ?_)
      refine g_iconst hx hb dX9_forecast_42 ?_
      refine lv_istore (lv' := [(7, .int (zI 1)), (5, .long (zL 0)), (3, .long (zL 9223372036854775807)), (0, .ref h), (1, .int (zI a)), (2, .int (zI b))]) hx hb dX9_forecast_43 hl (by decide) rfl (fun ls hl => ?_)
      have lp45 : ∀ (k : Nat), ∀ (i : Nat) (lst : Int) (fr : Int) (Pk : Nat → Int) (fL : gF) (H : Heap) (locs : List Loc) (ls : Array Slot), (a.toNat - i < k) → ((i : Int) ≤ a) → (Pk = sDays (P ps) i) → (lst = if i = 0 then 9223372036854775807 else (fc (P ps) i).1) → (fr = (fc (P ps) i).2.1) → (rL lst) → (0 ≤ fr ∧ fr ≤ i) → (pOk Pk (v0 + 9 * i)) → (∀ q, (q < h ∨ (h + 2 ≤ q ∧ q < h + 9) ∨ h + 11 ≤ q) → fL q = f q) → gH g b0 n fL s.heap H locs → (mdO fL h (pu (pu Z 0 0) 11 1764)) → (mpAt g fL h (mov M (294 * ps) (P ps)) 1764 Pk) → (scrAt g fL h) → lv_has ls 10 [(0, .ref h), (1, .int (zI a)), (2, .int (zI b)), (3, .long (zL lst)), (5, .long (zL fr)), (7, .int (zI ((↑i : Int) + 1)))] → W p l e0 { frames := 7, cells := 0, slots := 0, locals := 221 } s m args below meth c H locs 0 0 (MQ below (va_Ql (po_X9_forecast g f h Z M P ps a b v0) (gB g b0 n) (gA b0)) args s 0 0 (gA b0)) (F0 m 45 ls []) := by
        intro k
        induction k with
        | zero =>
          intro i lst fr Pk fL H locs ls hk hi hPk hls hfr9 hlr hfr8 hod hfr hM hL0 hL1 hL2 hl
          exact absurd hk (Nat.not_lt_zero _)
        | succ k ih45 =>
          intro i lst fr Pk fL H locs ls hk hi hPk hls hfr9 hlr hfr8 hod hfr hM hL0 hL1 hL2 hl
          have hp4 := pOk_P4 hod
          have hp4a := hp4.1
          have hp4b := hp4.2
          refine lv_iload hx hb dX9_forecast_45 (lv_at hl 5 rfl) ?_
          refine lv_iload_n hx hb dX9_forecast_47 rfl (lv_at hl 1 rfl) ?_
          refine g_icmp_gt (tgt := 101) hx hb dX9_forecast_48 (by decide) ⟨by omega, by omega⟩ hra (fun c48 => ?_) (fun c48 => ?_)
          · skip
            refine lv_iload_n hx hb dX9_forecast_101 rfl (lv_at hl 2 rfl) ?_
            refine g_bipush hx hb dX9_forecast_102 (by decide) ?_
            refine g_icmp_ge (tgt := 115) hx hb dX9_forecast_104 (by decide) hrb (by decide) (fun c104 => ?_) (fun c104 => ?_)
            · skip
              refine lv_iload_n hx hb dX9_forecast_115 rfl (lv_at hl 2 rfl) ?_
              refine g_bipush hx hb dX9_forecast_116 (by decide) ?_
              refine g_icmp_ne (tgt := 125) hx hb dX9_forecast_118 (by decide) hrb (by decide) (fun c118 => ?_) (fun c118 => ?_)
              · skip
                refine lv_lload hx hb dX9_forecast_125 (lv_at hl 4 rfl) ?_
                refine g_lret hx hb hr hlk hK hM dX9_forecast_127 ?_
                have hcd : (cd1 ((1 ≤ a ∧ a ≤ 200) ∧ (0 ≤ b ∧ b ≤ 9))) = 0 := cd1_y (by omega)
                refine ⟨(pu (pu Z 0 0) 11 1764), (mov (mov M (294 * ps) (P ps)) 1764 Pk), hL0, ((zKeep.rf.pu (by decide)).pu (by decide)), ?_, fun hh => ?_, hL1, fun j hj => mov_n (by omega), hL2, (fun q hq => (hfr (q) (by omega)))⟩
                · exact hcd.symm
                · have hia : i = a.toNat := by omega
                  unfold fcV
                  rw [if_neg (by omega), if_neg (by omega), ← hia, ← hfr9]
              · skip
                refine lv_lload_n hx hb dX9_forecast_121 rfl (lv_at hl 3 rfl) ?_
                refine lv_goto (tgt := 127) hx hb dX9_forecast_122 (by decide) ?_
                refine g_lret hx hb hr hlk hK hM dX9_forecast_127 ?_
                have hcd : (cd1 ((1 ≤ a ∧ a ≤ 200) ∧ (0 ≤ b ∧ b ≤ 9))) = 0 := cd1_y (by omega)
                refine ⟨(pu (pu Z 0 0) 11 1764), (mov (mov M (294 * ps) (P ps)) 1764 Pk), hL0, ((zKeep.rf.pu (by decide)).pu (by decide)), ?_, fun hh => ?_, hL1, fun j hj => mov_n (by omega), hL2, (fun q hq => (hfr (q) (by omega)))⟩
                · exact hcd.symm
                · have hia : i = a.toNat := by omega
                  unfold fcV
                  rw [if_neg (by omega), if_pos (by omega), ← hia, hls, if_neg (by omega)]
            · skip
              refine lv_aload_n hx hb dX9_forecast_107 rfl (lv_at hl 0 rfl) ?_
              refine lv_iload_n hx hb dX9_forecast_108 rfl (lv_at hl 2 rfl) ?_
              have hC22 := c_X9_totalOf l g b0 n fL h (pu (pu Z 0 0) 11 1764) (mov M (294 * ps) (P ps)) 1764 Pk b hL0 hL1 hrg (pu_s _ _ _) (by omega) hod.1.1 (by omega)
              refine g_callVl (ci := 11) (C := RX9) (T := TX9) (N := 24) (As := [.int (zI b)]) (rest := []) ⟨hx, hb, hml, hown, hts⟩ hK hM hC22 (cuV (n := 1) hts u_1443 u_1440 u_10 (by decide) u_1442 us_57 ⟨Nat.le_of_ble_eq_true rfl, Nat.le_of_ble_eq_true rfl⟩) ⟨by omega, by omega⟩ hL0 rfl rfl hl.1 rfl (Nat.le_of_ble_eq_true rfl) dX9_forecast_109 ⟨Nat.zero_le _, Nat.zero_le _⟩ (fun r109 f23 H locs hM hp24 => ?_)
              obtain ⟨rfl, rfl⟩ := hp24
              refine lv_goto (tgt := 127) hx hb dX9_forecast_112 (by decide) ?_
              refine g_lret hx hb hr hlk hK hM dX9_forecast_127 ?_
              have hcd : (cd1 ((1 ≤ a ∧ a ≤ 200) ∧ (0 ≤ b ∧ b ≤ 9))) = 0 := cd1_y (by omega)
              refine ⟨(pu (pu Z 0 0) 11 1764), (mov (mov M (294 * ps) (P ps)) 1764 Pk), hL0, ((zKeep.rf.pu (by decide)).pu (by decide)), ?_, fun hh => ?_, hL1, fun j hj => mov_n (by omega), hL2, (fun q hq => (hfr (q) (by omega)))⟩
              · exact hcd.symm
              · have hia : i = a.toNat := by omega
                unfold fcV
                rw [if_pos (by omega), fc_P, ← hia, ← hPk]
          · skip
            refine lv_aload_n hx hb dX9_forecast_51 rfl (lv_at hl 0 rfl) ?_
            refine g_iconst hx hb dX9_forecast_52 ?_
            have hC25 := c_X9_p l g b0 n fL h (pu (pu Z 0 0) 11 1764) (mov M (294 * ps) (P ps)) 1764 Pk 4 (4) hL0 hL1 hrg (pu_s _ _ _) (by omega) (by omega) (by omega)
            refine g_callVl (ci := 11) (C := RX9) (T := TX9) (N := 24) (As := [.int (zI 4)]) (rest := []) ⟨hx, hb, hml, hown, hts⟩ hK hM hC25 (cuV (n := 1) hts u_1283 u_1280 u_10 (by decide) u_1282 us_37 ⟨Nat.le_of_ble_eq_true rfl, Nat.le_of_ble_eq_true rfl⟩) ⟨by omega, by omega⟩ hL0 rfl rfl hl.1 rfl (Nat.le_of_ble_eq_true rfl) dX9_forecast_53 ⟨Nat.zero_le _, Nat.zero_le _⟩ (fun r53 f26 H locs hM hp27 => ?_)
            obtain ⟨rfl, rfl⟩ := hp27
            refine lv_lstore (lv' := [(8, .long (zL (Pk 4))), (0, .ref h), (1, .int (zI a)), (2, .int (zI b)), (3, .long (zL lst)), (5, .long (zL fr)), (7, .int (zI ((↑i : Int) + 1)))]) hx hb dX9_forecast_56 hl (by decide) rfl (fun ls hl => ?_)
            refine lv_aload_n hx hb dX9_forecast_58 rfl (lv_at hl 1 rfl) ?_
            have hC28 := c_X9_day l g b0 n fL h (pu (pu Z 0 0) 11 1764) (mov M (294 * ps) (P ps)) 1764 Pk (v0 + 9 * i) hL0 hL1 hrg (pu_s _ _ _) (by omega) hL2 hod (by omega) (by omega)
            refine g_callVv (ci := 11) (C := RX9) (T := TX9) (N := 24) (As := []) (rest := []) ⟨hx, hb, hml, hown, hts⟩ hK hM hC28 (cuV (n := 0) hts u_1339 u_1336 u_10 (by decide) u_1338 us_50 ⟨Nat.le_of_ble_eq_true rfl, Nat.le_of_ble_eq_true rfl⟩) ⟨by omega, by omega⟩ hL0 rfl rfl hl.1 rfl (Nat.le_of_ble_eq_true rfl) dX9_forecast_59 ⟨Nat.zero_le _, Nat.zero_le _⟩ (fun f29 H locs hM hp30 => ?_)
            obtain ⟨hn31, hs33, o32⟩ := hp30
            obtain ⟨Pz34, hPz34⟩ : ∃ Q : Nat → Int, Q = sDay Pk := ⟨_, rfl⟩
            rw [← hPz34] at hn31
            have hod1 : pOk Pz34 (v0 + 9 * i + 9) := by rw [hPz34]; exact (pOk_day hod (by omega)).1
            have hq4 := pOk_P4 hod1
            have hq4a := hq4.1
            have hq4b := hq4.2
            have hqp := pOk_pool hod1 (by omega)
            have hqpa := hqp.1
            have hqpb := hqp.2
            refine lv_lload_n hx hb dX9_forecast_62 rfl (lv_at hl 4 rfl) ?_
            refine lv_aload_n hx hb dX9_forecast_63 rfl (lv_at hl 1 rfl) ?_
            refine g_iconst hx hb dX9_forecast_64 ?_
            have hf35 : f29 (h) = .inr (11, [.int (zI 0), .ref (h + 1), .ref (h + 2), .ref (h + 3), .ref (h + 4), .ref (h + 5), .ref (h + 6), .ref (h + 7), .ref (h + 8), .int (zI (Z 9)), .int (zI (Z 10)), .int (zI 1764), .int (zI (Z 12)), .int (zI (Z 13)), .int (zI (Z 14)), .int (zI (Z 15)), .int (zI (Z 16)), .ref (h + 9), .ref (h + 10), .ref (h + 11), .int (zI (Z 20)), .int (zI (Z 21)), .int (zI (Z 22)), .ref (h + 12)]) := (o32 (h) (by omega)).trans hL0
            have hC36 := c_X9_p l g b0 n f29 h (pu (pu Z 0 0) 11 1764) (mov M (294 * ps) (P ps)) 1764 Pz34 0 (0) hf35 hn31 hrg (pu_s _ _ _) (by omega) (by omega) (by omega)
            refine g_callVl (ci := 11) (C := RX9) (T := TX9) (N := 24) (As := [.int (zI 0)]) (rest := [.long (zL lst)]) ⟨hx, hb, hml, hown, hts⟩ hK hM hC36 (cuV (n := 1) hts u_1283 u_1280 u_10 (by decide) u_1282 us_37 ⟨Nat.le_of_ble_eq_true rfl, Nat.le_of_ble_eq_true rfl⟩) ⟨by omega, by omega⟩ hf35 rfl rfl hl.1 rfl (Nat.le_of_ble_eq_true rfl) dX9_forecast_65 ⟨Nat.zero_le _, Nat.zero_le _⟩ (fun r65 f37 H locs hM hp38 => ?_)
            obtain ⟨rfl, rfl⟩ := hp38
            refine g_lmin hx hb (hml.trans hl.1.symm) hown (hts _ u_1307) hts (Nat.le_of_ble_eq_true rfl) (Nat.le_of_ble_eq_true rfl) (Nat.zero_le _) (Nat.zero_le _) hlr ⟨by omega, by omega⟩ dX9_forecast_68 ?_
            refine lv_lstore_n (lv' := [(3, .long (zL (min lst (Pz34 0)))), (8, .long (zL (Pk 4))), (0, .ref h), (1, .int (zI a)), (2, .int (zI b)), (5, .long (zL fr)), (7, .int (zI ((↑i : Int) + 1)))]) hx hb dX9_forecast_71 rfl hl (by decide) rfl (fun ls hl => ?_)
            refine lv_lload hx hb dX9_forecast_72 (lv_at hl 5 rfl) ?_
            refine g_lconst (z := 0) hx hb dX9_forecast_74 (by decide) ?_
            refine g_lcmp_ne (tgt := 95) hx hb dX9_forecast_75 dX9_forecast_76 (by decide) ⟨by omega, by omega⟩ (by decide) (fun c75 => ?_) (fun c75 => ?_)
            · skip
              refine lv_iinc (v := zI (((↑i : Int) + 1) + 1)) (lv' := [(7, .int (zI (((↑i : Int) + 1) + 1))), (3, .long (zL (min lst (Pz34 0)))), (8, .long (zL (Pk 4))), (0, .ref h), (1, .int (zI a)), (2, .int (zI b)), (5, .long (zL fr))]) hx hb dX9_forecast_95 hl (k := 6) rfl (zI_add _ _) (by decide) rfl (fun ls hl => ?_)
              refine lv_goto (tgt := 45) hx hb dX9_forecast_98 (by decide) ?_
              exact ih45 (i + 1) (min lst (Pz34 0)) fr Pz34 f29 _ _ _ (by omega) (by omega) (by rw [hPz34, hPk]; rfl) (by rw [if_neg (by omega)]; rw [fc_succ]; unfold fcT; dsimp only; rw [fc_P, ← hPk, ← hPz34]; rw [hls]; (repeat' split) <;> omega) (by rw [fc_succ]; unfold fcT; dsimp only; rw [fc_P, ← hPk, ← hPz34, ← hfr9]; (first | rw [if_pos ⟨by omega, by omega⟩] | rw [if_neg (by omega)])) ⟨by omega, by omega⟩ ⟨by omega, by omega⟩ (by rw [hPz34]; exact pOk_mono (pOk_day hod (by omega)).1 (by omega)) (fun q hq => ((o32 (q) (by omega)).trans (hfr (q) (by omega)))) hM hf35 hn31 hs33 (lv_sub hl [3, 4, 5, 1, 6, 0] rfl)
            · skip
              refine lv_aload_n hx hb dX9_forecast_79 rfl (lv_at hl 2 rfl) ?_
              refine g_iconst hx hb dX9_forecast_80 ?_
              have hC39 := c_X9_p l g b0 n f29 h (pu (pu Z 0 0) 11 1764) (mov M (294 * ps) (P ps)) 1764 Pz34 4 (4) hf35 hn31 hrg (pu_s _ _ _) (by omega) (by omega) (by omega)
              refine g_callVl (ci := 11) (C := RX9) (T := TX9) (N := 24) (As := [.int (zI 4)]) (rest := []) ⟨hx, hb, hml, hown, hts⟩ hK hM hC39 (cuV (n := 1) hts u_1283 u_1280 u_10 (by decide) u_1282 us_37 ⟨Nat.le_of_ble_eq_true rfl, Nat.le_of_ble_eq_true rfl⟩) ⟨by omega, by omega⟩ hf35 rfl rfl hl.1 rfl (Nat.le_of_ble_eq_true rfl) dX9_forecast_81 ⟨Nat.zero_le _, Nat.zero_le _⟩ (fun r81 f40 H locs hM hp41 => ?_)
              obtain ⟨rfl, rfl⟩ := hp41
              refine lv_lload hx hb dX9_forecast_84 (lv_at hl 1 rfl) ?_
              refine g_lcmp_le (tgt := 95) hx hb dX9_forecast_86 dX9_forecast_87 (by decide) ⟨by omega, by omega⟩ ⟨by omega, by omega⟩ (fun c86 => ?_) (fun c86 => ?_)
              · skip
                refine lv_iinc (v := zI (((↑i : Int) + 1) + 1)) (lv' := [(7, .int (zI (((↑i : Int) + 1) + 1))), (3, .long (zL (min lst (Pz34 0)))), (8, .long (zL (Pk 4))), (0, .ref h), (1, .int (zI a)), (2, .int (zI b)), (5, .long (zL fr))]) hx hb dX9_forecast_95 hl (k := 6) rfl (zI_add _ _) (by decide) rfl (fun ls hl => ?_)
                refine lv_goto (tgt := 45) hx hb dX9_forecast_98 (by decide) ?_
                exact ih45 (i + 1) (min lst (Pz34 0)) fr Pz34 f29 _ _ _ (by omega) (by omega) (by rw [hPz34, hPk]; rfl) (by rw [if_neg (by omega)]; rw [fc_succ]; unfold fcT; dsimp only; rw [fc_P, ← hPk, ← hPz34]; rw [hls]; (repeat' split) <;> omega) (by rw [fc_succ]; unfold fcT; dsimp only; rw [fc_P, ← hPk, ← hPz34, ← hfr9]; (first | rw [if_pos ⟨by omega, by omega⟩] | rw [if_neg (by omega)])) ⟨by omega, by omega⟩ ⟨by omega, by omega⟩ (by rw [hPz34]; exact pOk_mono (pOk_day hod (by omega)).1 (by omega)) (fun q hq => ((o32 (q) (by omega)).trans (hfr (q) (by omega)))) hM hf35 hn31 hs33 (lv_sub hl [3, 4, 5, 1, 6, 0] rfl)
              · skip
                refine lv_iload hx hb dX9_forecast_90 (lv_at hl 6 rfl) ?_
                refine g_i2l hx hb dX9_forecast_92 ⟨by omega, by omega⟩ ?_
                refine lv_lstore (lv' := [(5, .long (zL ((↑i : Int) + 1))), (3, .long (zL (min lst (Pz34 0)))), (8, .long (zL (Pk 4))), (0, .ref h), (1, .int (zI a)), (2, .int (zI b)), (7, .int (zI ((↑i : Int) + 1)))]) hx hb dX9_forecast_93 hl (by decide) rfl (fun ls hl => ?_)
                refine lv_iinc (v := zI (((↑i : Int) + 1) + 1)) (lv' := [(7, .int (zI (((↑i : Int) + 1) + 1))), (5, .long (zL ((↑i : Int) + 1))), (3, .long (zL (min lst (Pz34 0)))), (8, .long (zL (Pk 4))), (0, .ref h), (1, .int (zI a)), (2, .int (zI b))]) hx hb dX9_forecast_95 hl (k := 6) rfl (zI_add _ _) (by decide) rfl (fun ls hl => ?_)
                refine lv_goto (tgt := 45) hx hb dX9_forecast_98 (by decide) ?_
                exact ih45 (i + 1) (min lst (Pz34 0)) ((↑i : Int) + 1) Pz34 f29 _ _ _ (by omega) (by omega) (by rw [hPz34, hPk]; rfl) (by rw [if_neg (by omega)]; rw [fc_succ]; unfold fcT; dsimp only; rw [fc_P, ← hPk, ← hPz34]; rw [hls]; (repeat' split) <;> omega) (by rw [fc_succ]; unfold fcT; dsimp only; rw [fc_P, ← hPk, ← hPz34, ← hfr9]; (first | rw [if_pos ⟨by omega, by omega⟩] | rw [if_neg (by omega)])) ⟨by omega, by omega⟩ ⟨by omega, by omega⟩ (by rw [hPz34]; exact pOk_mono (pOk_day hod (by omega)).1 (by omega)) (fun q hq => ((o32 (q) (by omega)).trans (hfr (q) (by omega)))) hM hf35 hn31 hs33 (lv_sub hl [4, 5, 6, 2, 1, 0] rfl)
      have hf42 := hsc.kept (fun q h1 h2 => (o6 (q) (by omega)))
      exact lp45 ((a.toNat + 1)) 0 9223372036854775807 0 (P ps) f2 _ _ _ (by omega) (by omega) rfl rfl rfl (by decide) ⟨by omega, by omega⟩ (pOk_mono hok (by omega)) (fun q hq => (o6 (q) (by omega))) hM ho7 hn5 hf42 (lv_sub hl [3, 4, 5, 2, 1, 0] rfl)
    · skip
      refine lv_aload_n hx hb dX9_forecast_28 rfl (lv_at hl 0 rfl) ?_
      refine g_iconst hx hb dX9_forecast_29 ?_
      have hC43 := c_X9_fails l g b0 n f2 h (pu (pu Z 0 0) 11 1764) 1 ho7 hrg
      refine g_callVi (ci := 11) (C := RX9) (T := TX9) (N := 24) (As := [.int (zI 1)]) (rest := []) ⟨hx, hb, hml, hown, hts⟩ hK hM hC43 (cuV (n := 1) hts u_1412 u_1409 u_10 (by decide) u_1411 us_55 ⟨Nat.le_of_ble_eq_true rfl, Nat.le_of_ble_eq_true rfl⟩) ⟨by omega, by omega⟩ ho7 rfl rfl hl.1 rfl (Nat.le_of_ble_eq_true rfl) dX9_forecast_30 ⟨Nat.zero_le _, Nat.zero_le _⟩ (fun r30 f44 H locs hM hp45 => ?_)
      obtain ⟨rfl, hm46, o47⟩ := hp45
      have ho48 : f44 h = .inr (11, [.int (zI 1), .ref (h + 1), .ref (h + 2), .ref (h + 3), .ref (h + 4), .ref (h + 5), .ref (h + 6), .ref (h + 7), .ref (h + 8), .int (zI (Z 9)), .int (zI (Z 10)), .int (zI 1764), .int (zI (Z 12)), .int (zI (Z 13)), .int (zI (Z 14)), .int (zI (Z 15)), .int (zI (Z 16)), .ref (h + 9), .ref (h + 10), .ref (h + 11), .int (zI (Z 20)), .int (zI (Z 21)), .int (zI (Z 22)), .ref (h + 12)]) := hm46
      refine g_i2l hx hb dX9_forecast_33 (by decide) ?_
      have hf49 := hn5.kept (fun q h1 h2 => (o47 (q) (by omega)))
      have hf50 := hsc.kept (fun q h1 h2 => ((o47 (q) (by omega)).trans (o6 (q) (by omega))))
      refine g_lret hx hb hr hlk hK hM dX9_forecast_34 ?_
      have hcd : (cd1 ((1 ≤ a ∧ a ≤ 200) ∧ (0 ≤ b ∧ b ≤ 9))) = 1 := cd1_n (by omega)
      refine ⟨(pu (pu Z 0 1) 11 1764), (mov (mov M (294 * ps) (P ps)) 1764 (P ps)), ho48, ((zKeep.rf.pu (by decide)).pu (by decide)), ?_, fun hh => ?_, hf49, fun j hj => mov_n (by omega), hf50, (fun q hq => ((o47 (q) (by omega)).trans (o6 (q) (by omega))))⟩
      · exact hcd.symm
      · rw [hcd] at hh; exact absurd hh (by decide)

def po_X9_daysUntil (g : gE) (f : gF) (h : Nat) (Z M : Nat → Int) (P : Nat → Nat → Int) (ps : Nat) (a b v0 : Int) : Int32 → gF → Prop := fun r f1 => ∃ Z1 M1 : Nat → Int, mdO f1 h Z1 ∧ zKeep Z Z1 ∧ Z1 0 = (cd3 (0 ≤ a ∧ a < P ps 7) (0 ≤ b ∧ b ≤ 9000000) (duR (P ps) (11 + 4 * a.toNat) b 201 0 < 201)) ∧ ((cd3 (0 ≤ a ∧ a < P ps 7) (0 ≤ b ∧ b ≤ 9000000) (duR (P ps) (11 + 4 * a.toNat) b 201 0 < 201)) = 0 → r = zI (↑(duR (P ps) (11 + 4 * a.toNat) b 201 0) : Int)) ∧ arJ g f1 (h + 1) 2058 M1 ∧ (∀ j, j < 1764 → M1 j = mov M (294 * ps) (P ps) j) ∧ scrAt g f1 h ∧ ∀ q, (q < h ∨ (h + 2 ≤ q ∧ q < h + 9) ∨ h + 11 ≤ q) → f1 q = f q
set_option maxRecDepth 100000 in
set_option maxHeartbeats 1000000 in
/-- daysUntil(e, amount) -/
theorem c_X9_daysUntil (l : Launch) (g : gE) (b0 n : Nat) (f : gF) (h : Nat) (Z M : Nat → Int) (P : Nat → Nat → Int) (ps : Nat) (a b v0 : Int) (hO : mdO f h Z) (hP : mpAt g f h M (294 * ps) (P ps)) (hrg : b0 ≤ h ∧ h + 13 ≤ b0 + n) (hsc : scrAt g f h) (hz9 : Z 9 = ↑ps) (hps : ps < 6) (hok : pOk (P ps) v0) (hv1 : 0 ≤ v0) (hv0 : v0 + 1800 ≤ 800000000) (hra : rI a) (hrb : rI b) : cI l yX9_daysUntil cX9_daysUntil 4 (some .int) 7 221 [.ref h, .int (zI a), .int (zI b)] g b0 n f (po_X9_daysUntil g f h Z M P ps a b v0) := by
  refine gs_i (cc := cX9_daysUntil) (maxL := 4) (ret := (some .int)) (by decide) (Nat.le_of_ble_eq_true rfl) ?_
  intro p e0 s m args below meth c ls hx hb hr hml hown hts hlk hK hM hl
  have hl : lv_has ls 4 [(0, .ref h), (1, .int (zI a)), (2, .int (zI b))] := hl
  have hcn7 := hok.1.1
  have hcn8 := hok.2.1.1
  have hcn9 := hok.2.2.1.1
  have hcn10 := hok.2.2.2.2.2.2.2.1
  have hcp7 := hcn7.1
  have hcp8 := hcn8.1
  have hcp9 := hcn9.1
  have hcp10 := hcn10.1
  have hcq7 := hcn7.2
  have hcq8 := hcn8.2
  have hcq9 := hcn9.2
  have hcq10 := hcn10.2
  have hws := pOkL_wfS hok (by omega)
  refine lv_aload_n hx hb dX9_daysUntil_0 rfl (lv_at hl 0 rfl) ?_
  have hC1 := c_X9_thinks l g b0 n f h Z M P ps hO hP hrg hz9 hps
  refine g_callVv (ci := 11) (C := RX9) (T := TX9) (N := 24) (As := []) (rest := []) ⟨hx, hb, hml, hown, hts⟩ hK hM hC1 (cuV (n := 0) hts u_1459 u_1456 u_10 (by decide) u_1458 us_59 ⟨Nat.le_of_ble_eq_true rfl, Nat.le_of_ble_eq_true rfl⟩) ⟨by omega, by omega⟩ hO rfl rfl hl.1 rfl (Nat.le_of_ble_eq_true rfl) dX9_daysUntil_1 ⟨Nat.zero_le _, Nat.zero_le _⟩ (fun f2 H locs hM hp3 => ?_)
  obtain ⟨hm4, hn5, o6⟩ := hp3
  have ho7 : f2 h = .inr (11, [.int (zI 0), .ref (h + 1), .ref (h + 2), .ref (h + 3), .ref (h + 4), .ref (h + 5), .ref (h + 6), .ref (h + 7), .ref (h + 8), .int (zI (Z 9)), .int (zI (Z 10)), .int (zI 1764), .int (zI (Z 12)), .int (zI (Z 13)), .int (zI (Z 14)), .int (zI (Z 15)), .int (zI (Z 16)), .ref (h + 9), .ref (h + 10), .ref (h + 11), .int (zI (Z 20)), .int (zI (Z 21)), .int (zI (Z 22)), .ref (h + 12)]) := hm4
  refine lv_aload_n hx hb dX9_daysUntil_4 rfl (lv_at hl 0 rfl) ?_
  refine lv_iload_n hx hb dX9_daysUntil_5 rfl (lv_at hl 1 rfl) ?_
  have hC8 := c_X9_isEnvelope l g b0 n f2 h (pu (pu Z 0 0) 11 1764) (mov M (294 * ps) (P ps)) 1764 (P ps) a ho7 hn5 hrg (pu_s _ _ _) (by omega) hcn7 hra
  refine g_callVi (ci := 11) (C := RX9) (T := TX9) (N := 24) (As := [.int (zI a)]) (rest := []) ⟨hx, hb, hml, hown, hts⟩ hK hM hC8 (cuV (n := 1) hts u_1265 u_1262 u_10 (by decide) u_1264 us_34 ⟨Nat.le_of_ble_eq_true rfl, Nat.le_of_ble_eq_true rfl⟩) ⟨by omega, by omega⟩ ho7 rfl rfl hl.1 rfl (Nat.le_of_ble_eq_true rfl) dX9_daysUntil_6 ⟨Nat.zero_le _, Nat.zero_le _⟩ (fun r6 f9 H locs hM hp10 => ?_)
  obtain ⟨rfl, rfl⟩ := hp10
  refine g_ifb_ne (tgt := 18) hx hb dX9_daysUntil_9 (by decide) (fun c9 => ?_) (fun c9 => ?_)
  · skip
    refine lv_iload_n hx hb dX9_daysUntil_18 rfl (lv_at hl 2 rfl) ?_
    refine g_i2l hx hb dX9_daysUntil_19 hrb ?_
    refine g_lconst (z := 0) hx hb dX9_daysUntil_20 (by decide) ?_
    refine g_ldc2 (z := 9000000) hx hb hown (hts _ u_1237) dX9_daysUntil_21 (by decide) ?_
    have hC11 := c_X9_in l g b0 n f2 b 0 9000000 (rI_L hrb) (by decide) (by decide)
    refine g_callSi (As := [.long (zL b), .long (zL 0), .long (zL 9000000)]) (rest := []) ⟨hx, hb, hml, hown, hts⟩ hK hM hC11 (cuS (n := 3) hts u_1240 u_1238 u_10 (by decide) u_1239 ⟨Nat.le_of_ble_eq_true rfl, Nat.le_of_ble_eq_true rfl⟩) rfl hl.1 rfl (Nat.le_of_ble_eq_true rfl) dX9_daysUntil_24 ⟨Nat.zero_le _, Nat.zero_le _⟩ (fun r24 f12 H locs hM hp13 => ?_)
    obtain ⟨rfl, rfl⟩ := hp13
    refine g_ifb_ne (tgt := 36) hx hb dX9_daysUntil_27 (by decide) (fun c27 => ?_) (fun c27 => ?_)
    · skip
      refine g_iconst hx hb dX9_daysUntil_36 ?_
      refine lv_istore_n (lv' := [(3, .int (zI 0)), (0, .ref h), (1, .int (zI a)), (2, .int (zI b))]) hx hb dX9_daysUntil_37 rfl hl (by decide) rfl (fun ls hl => ?_)
      have lp38 : ∀ (k : Nat), ∀ (i : Nat) (Pk : Nat → Int) (fL : gF) (H : Heap) (locs : List Loc) (ls : Array Slot), (201 - i < k) → (i ≤ 201) → (Pk = sDays (P ps) (min i 200)) → (∀ j, j < i → ¬ b ≤ sDays (P ps) j (11 + 4 * a.toNat)) → (pOk Pk (v0 + 9 * i)) → (∀ q, (q < h ∨ (h + 2 ≤ q ∧ q < h + 9) ∨ h + 11 ≤ q) → fL q = f q) → gH g b0 n fL s.heap H locs → (mdO fL h (pu (pu Z 0 0) 11 1764)) → (mpAt g fL h (mov M (294 * ps) (P ps)) 1764 Pk) → (scrAt g fL h) → lv_has ls 4 [(0, .ref h), (1, .int (zI a)), (2, .int (zI b)), (3, .int (zI (↑i : Int)))] → W p l e0 { frames := 7, cells := 0, slots := 0, locals := 221 } s m args below meth c H locs 0 0 (MQ below (va_Qi (po_X9_daysUntil g f h Z M P ps a b v0) (gB g b0 n) (gA b0)) args s 0 0 (gA b0)) (F0 m 38 ls []) := by
        intro k
        induction k with
        | zero =>
          intro i Pk fL H locs ls hk hi hPk hnf hod hfr hM hL0 hL1 hL2 hl
          exact absurd hk (Nat.not_lt_zero _)
        | succ k ih38 =>
          intro i Pk fL H locs ls hk hi hPk hnf hod hfr hM hL0 hL1 hL2 hl
          refine lv_iload_n hx hb dX9_daysUntil_38 rfl (lv_at hl 3 rfl) ?_
          refine g_sipush hx hb dX9_daysUntil_39 (by decide) ?_
          refine g_icmp_gt (tgt := 80) hx hb dX9_daysUntil_42 (by decide) ⟨by omega, by omega⟩ (by decide) (fun c42 => ?_) (fun c42 => ?_)
          · skip
            have hdu : duR (P ps) (11 + 4 * a.toNat) b 201 0 = 201 := duR_eq (by omega) (by omega) (fun j _ hj => hnf j (by omega)) (Or.inl rfl)
            refine lv_aload_n hx hb dX9_daysUntil_80 rfl (lv_at hl 0 rfl) ?_
            refine g_iconst hx hb dX9_daysUntil_81 ?_
            have hC14 := c_X9_fails l g b0 n fL h (pu (pu Z 0 0) 11 1764) 3 hL0 hrg
            refine g_callVi (ci := 11) (C := RX9) (T := TX9) (N := 24) (As := [.int (zI 3)]) (rest := []) ⟨hx, hb, hml, hown, hts⟩ hK hM hC14 (cuV (n := 1) hts u_1412 u_1409 u_10 (by decide) u_1411 us_55 ⟨Nat.le_of_ble_eq_true rfl, Nat.le_of_ble_eq_true rfl⟩) ⟨by omega, by omega⟩ hL0 rfl rfl hl.1 rfl (Nat.le_of_ble_eq_true rfl) dX9_daysUntil_82 ⟨Nat.zero_le _, Nat.zero_le _⟩ (fun r82 f15 H locs hM hp16 => ?_)
            obtain ⟨rfl, hm17, o18⟩ := hp16
            have ho19 : f15 h = .inr (11, [.int (zI 3), .ref (h + 1), .ref (h + 2), .ref (h + 3), .ref (h + 4), .ref (h + 5), .ref (h + 6), .ref (h + 7), .ref (h + 8), .int (zI (Z 9)), .int (zI (Z 10)), .int (zI 1764), .int (zI (Z 12)), .int (zI (Z 13)), .int (zI (Z 14)), .int (zI (Z 15)), .int (zI (Z 16)), .ref (h + 9), .ref (h + 10), .ref (h + 11), .int (zI (Z 20)), .int (zI (Z 21)), .int (zI (Z 22)), .ref (h + 12)]) := hm17
            have hf20 := hL1.kept (fun q h1 h2 => (o18 (q) (by omega)))
            have hf21 := hL2.kept (fun q h1 h2 => (o18 (q) (by omega)))
            refine g_iret hx hb hr hlk hK hM dX9_daysUntil_85 ?_
            have hcd : (cd3 (0 ≤ a ∧ a < P ps 7) (0 ≤ b ∧ b ≤ 9000000) (duR (P ps) (11 + 4 * a.toNat) b 201 0 < 201)) = 3 := cd3_3 (by omega) (by omega) (by omega)
            refine ⟨(pu (pu Z 0 3) 11 1764), (mov (mov M (294 * ps) (P ps)) 1764 Pk), ho19, ((zKeep.rf.pu (by decide)).pu (by decide)), ?_, fun hh => ?_, hf20, fun j hj => mov_n (by omega), hf21, (fun q hq => ((o18 (q) (by omega)).trans (hfr (q) (by omega))))⟩
            · exact hcd.symm
            · rw [hcd] at hh; exact absurd hh (by decide)
          · skip
            obtain ⟨⟨hx1, hx2⟩, hx3⟩ := (pOkL_wfS hod (by omega)).E.2 a.toNat (by omega)
            have hPi : Pk = sDays (P ps) i := by rw [hPk, Nat.min_eq_left (by omega)]
            refine lv_aload_n hx hb dX9_daysUntil_45 rfl (lv_at hl 0 rfl) ?_
            refine g_bipush hx hb dX9_daysUntil_46 (by decide) ?_
            refine g_iconst hx hb dX9_daysUntil_48 ?_
            refine lv_iload_n hx hb dX9_daysUntil_49 rfl (lv_at hl 1 rfl) ?_
            refine g_imul hx hb dX9_daysUntil_50 ?_
            refine g_iadd hx hb dX9_daysUntil_51 ?_
            have hC22 := c_X9_p l g b0 n fL h (pu (pu Z 0 0) 11 1764) (mov M (294 * ps) (P ps)) 1764 Pk (11 + (4 * a)) (11 + 4 * a.toNat) hL0 hL1 hrg (pu_s _ _ _) (by omega) (by omega) (by omega)
            refine g_callVl (ci := 11) (C := RX9) (T := TX9) (N := 24) (As := [.int (zI (11 + (4 * a)))]) (rest := []) ⟨hx, hb, hml, hown, hts⟩ hK hM hC22 (cuV (n := 1) hts u_1283 u_1280 u_10 (by decide) u_1282 us_37 ⟨Nat.le_of_ble_eq_true rfl, Nat.le_of_ble_eq_true rfl⟩) ⟨by omega, by omega⟩ hL0 rfl rfl hl.1 rfl (Nat.le_of_ble_eq_true rfl) dX9_daysUntil_52 ⟨Nat.zero_le _, Nat.zero_le _⟩ (fun r52 f23 H locs hM hp24 => ?_)
            obtain ⟨rfl, rfl⟩ := hp24
            refine lv_iload_n hx hb dX9_daysUntil_55 rfl (lv_at hl 2 rfl) ?_
            refine g_i2l hx hb dX9_daysUntil_56 hrb ?_
            refine g_lcmp_lt (tgt := 63) hx hb dX9_daysUntil_57 dX9_daysUntil_58 (by decide) ⟨by omega, by omega⟩ (rI_L hrb) (fun c57 => ?_) (fun c57 => ?_)
            · skip
              refine lv_iload_n hx hb dX9_daysUntil_63 rfl (lv_at hl 3 rfl) ?_
              refine g_sipush hx hb dX9_daysUntil_64 (by decide) ?_
              refine g_icmp_ge (tgt := 74) hx hb dX9_daysUntil_67 (by decide) ⟨by omega, by omega⟩ (by decide) (fun c67 => ?_) (fun c67 => ?_)
              · skip
                refine lv_iinc (v := zI ((↑i : Int) + 1)) (lv' := [(3, .int (zI ((↑i : Int) + 1))), (0, .ref h), (1, .int (zI a)), (2, .int (zI b))]) hx hb dX9_daysUntil_74 hl (k := 3) rfl (zI_add _ _) (by decide) rfl (fun ls hl => ?_)
                refine lv_goto (tgt := 38) hx hb dX9_daysUntil_77 (by decide) ?_
                exact ih38 (i + 1) Pk fL _ _ _ (by omega) (by omega) (by rw [hPk, Nat.min_eq_right (by omega), Nat.min_eq_right (by omega)]) (fun j hj => (Nat.lt_or_ge j i).elim (fun q => hnf j q) (fun q => by rw [show j = i by omega, ← hPi]; omega)) (pOk_mono hod (by omega)) (fun q hq => (hfr (q) (by omega))) hM hL0 hL1 hL2 (lv_sub hl [1, 2, 3, 0] rfl)
              · skip
                refine lv_aload_n hx hb dX9_daysUntil_70 rfl (lv_at hl 0 rfl) ?_
                have hC25 := c_X9_day l g b0 n fL h (pu (pu Z 0 0) 11 1764) (mov M (294 * ps) (P ps)) 1764 Pk (v0 + 9 * i) hL0 hL1 hrg (pu_s _ _ _) (by omega) hL2 hod (by omega) (by omega)
                refine g_callVv (ci := 11) (C := RX9) (T := TX9) (N := 24) (As := []) (rest := []) ⟨hx, hb, hml, hown, hts⟩ hK hM hC25 (cuV (n := 0) hts u_1339 u_1336 u_10 (by decide) u_1338 us_50 ⟨Nat.le_of_ble_eq_true rfl, Nat.le_of_ble_eq_true rfl⟩) ⟨by omega, by omega⟩ hL0 rfl rfl hl.1 rfl (Nat.le_of_ble_eq_true rfl) dX9_daysUntil_71 ⟨Nat.zero_le _, Nat.zero_le _⟩ (fun f26 H locs hM hp27 => ?_)
                obtain ⟨hn28, hs30, o29⟩ := hp27
                obtain ⟨Pz31, hPz31⟩ : ∃ Q : Nat → Int, Q = sDay Pk := ⟨_, rfl⟩
                rw [← hPz31] at hn28
                refine lv_iinc (v := zI ((↑i : Int) + 1)) (lv' := [(3, .int (zI ((↑i : Int) + 1))), (0, .ref h), (1, .int (zI a)), (2, .int (zI b))]) hx hb dX9_daysUntil_74 hl (k := 3) rfl (zI_add _ _) (by decide) rfl (fun ls hl => ?_)
                refine lv_goto (tgt := 38) hx hb dX9_daysUntil_77 (by decide) ?_
                have hf32 : f26 (h) = .inr (11, [.int (zI 0), .ref (h + 1), .ref (h + 2), .ref (h + 3), .ref (h + 4), .ref (h + 5), .ref (h + 6), .ref (h + 7), .ref (h + 8), .int (zI (Z 9)), .int (zI (Z 10)), .int (zI 1764), .int (zI (Z 12)), .int (zI (Z 13)), .int (zI (Z 14)), .int (zI (Z 15)), .int (zI (Z 16)), .ref (h + 9), .ref (h + 10), .ref (h + 11), .int (zI (Z 20)), .int (zI (Z 21)), .int (zI (Z 22)), .ref (h + 12)]) := (o29 (h) (by omega)).trans hL0
                exact ih38 (i + 1) Pz31 f26 _ _ _ (by omega) (by omega) (by rw [hPz31, hPk, Nat.min_eq_left (by omega), Nat.min_eq_left (by omega)]; rfl) (fun j hj => (Nat.lt_or_ge j i).elim (fun q => hnf j q) (fun q => by rw [show j = i by omega, ← hPi]; omega)) (by rw [hPz31]; exact pOk_mono (pOk_day hod (by omega)).1 (by omega)) (fun q hq => ((o29 (q) (by omega)).trans (hfr (q) (by omega)))) hM hf32 hn28 hs30 (lv_sub hl [1, 2, 3, 0] rfl)
            · skip
              have hdu : duR (P ps) (11 + 4 * a.toNat) b 201 0 = i := duR_eq (by omega) (by omega) (fun j _ hj => hnf j hj) (Or.inr (by rw [← hPi]; omega))
              refine lv_iload_n hx hb dX9_daysUntil_61 rfl (lv_at hl 3 rfl) ?_
              refine g_iret hx hb hr hlk hK hM dX9_daysUntil_62 ?_
              have hcd : (cd3 (0 ≤ a ∧ a < P ps 7) (0 ≤ b ∧ b ≤ 9000000) (duR (P ps) (11 + 4 * a.toNat) b 201 0 < 201)) = 0 := cd3_y (by omega) (by omega) (by omega)
              refine ⟨(pu (pu Z 0 0) 11 1764), (mov (mov M (294 * ps) (P ps)) 1764 Pk), hL0, ((zKeep.rf.pu (by decide)).pu (by decide)), ?_, fun hh => ?_, hL1, fun j hj => mov_n (by omega), hL2, (fun q hq => (hfr (q) (by omega)))⟩
              · exact hcd.symm
              · rw [hdu]
      have hf33 := hsc.kept (fun q h1 h2 => (o6 (q) (by omega)))
      exact lp38 (202) 0 (P ps) f2 _ _ _ (by omega) (by omega) rfl (fun j hj => absurd hj (Nat.not_lt_zero _)) (pOk_mono hok (by omega)) (fun q hq => (o6 (q) (by omega))) hM ho7 hn5 hf33 (lv_sub hl [1, 2, 3, 0] rfl)
    · skip
      refine lv_aload_n hx hb dX9_daysUntil_30 rfl (lv_at hl 0 rfl) ?_
      refine g_iconst hx hb dX9_daysUntil_31 ?_
      have hC34 := c_X9_fails l g b0 n f2 h (pu (pu Z 0 0) 11 1764) 2 ho7 hrg
      refine g_callVi (ci := 11) (C := RX9) (T := TX9) (N := 24) (As := [.int (zI 2)]) (rest := []) ⟨hx, hb, hml, hown, hts⟩ hK hM hC34 (cuV (n := 1) hts u_1412 u_1409 u_10 (by decide) u_1411 us_55 ⟨Nat.le_of_ble_eq_true rfl, Nat.le_of_ble_eq_true rfl⟩) ⟨by omega, by omega⟩ ho7 rfl rfl hl.1 rfl (Nat.le_of_ble_eq_true rfl) dX9_daysUntil_32 ⟨Nat.zero_le _, Nat.zero_le _⟩ (fun r32 f35 H locs hM hp36 => ?_)
      obtain ⟨rfl, hm37, o38⟩ := hp36
      have ho39 : f35 h = .inr (11, [.int (zI 2), .ref (h + 1), .ref (h + 2), .ref (h + 3), .ref (h + 4), .ref (h + 5), .ref (h + 6), .ref (h + 7), .ref (h + 8), .int (zI (Z 9)), .int (zI (Z 10)), .int (zI 1764), .int (zI (Z 12)), .int (zI (Z 13)), .int (zI (Z 14)), .int (zI (Z 15)), .int (zI (Z 16)), .ref (h + 9), .ref (h + 10), .ref (h + 11), .int (zI (Z 20)), .int (zI (Z 21)), .int (zI (Z 22)), .ref (h + 12)]) := hm37
      have hf40 := hn5.kept (fun q h1 h2 => (o38 (q) (by omega)))
      have hf41 := hsc.kept (fun q h1 h2 => ((o38 (q) (by omega)).trans (o6 (q) (by omega))))
      refine g_iret hx hb hr hlk hK hM dX9_daysUntil_35 ?_
      have hcd : (cd3 (0 ≤ a ∧ a < P ps 7) (0 ≤ b ∧ b ≤ 9000000) (duR (P ps) (11 + 4 * a.toNat) b 201 0 < 201)) = 2 := cd3_2 (by omega) (by omega)
      refine ⟨(pu (pu Z 0 2) 11 1764), (mov (mov M (294 * ps) (P ps)) 1764 (P ps)), ho39, ((zKeep.rf.pu (by decide)).pu (by decide)), ?_, fun hh => ?_, hf40, fun j hj => mov_n (by omega), hf41, (fun q hq => ((o38 (q) (by omega)).trans (o6 (q) (by omega))))⟩
      · exact hcd.symm
      · rw [hcd] at hh; exact absurd hh (by decide)
  · skip
    refine lv_aload_n hx hb dX9_daysUntil_12 rfl (lv_at hl 0 rfl) ?_
    refine g_iconst hx hb dX9_daysUntil_13 ?_
    have hC42 := c_X9_fails l g b0 n f2 h (pu (pu Z 0 0) 11 1764) 1 ho7 hrg
    refine g_callVi (ci := 11) (C := RX9) (T := TX9) (N := 24) (As := [.int (zI 1)]) (rest := []) ⟨hx, hb, hml, hown, hts⟩ hK hM hC42 (cuV (n := 1) hts u_1412 u_1409 u_10 (by decide) u_1411 us_55 ⟨Nat.le_of_ble_eq_true rfl, Nat.le_of_ble_eq_true rfl⟩) ⟨by omega, by omega⟩ ho7 rfl rfl hl.1 rfl (Nat.le_of_ble_eq_true rfl) dX9_daysUntil_14 ⟨Nat.zero_le _, Nat.zero_le _⟩ (fun r14 f43 H locs hM hp44 => ?_)
    obtain ⟨rfl, hm45, o46⟩ := hp44
    have ho47 : f43 h = .inr (11, [.int (zI 1), .ref (h + 1), .ref (h + 2), .ref (h + 3), .ref (h + 4), .ref (h + 5), .ref (h + 6), .ref (h + 7), .ref (h + 8), .int (zI (Z 9)), .int (zI (Z 10)), .int (zI 1764), .int (zI (Z 12)), .int (zI (Z 13)), .int (zI (Z 14)), .int (zI (Z 15)), .int (zI (Z 16)), .ref (h + 9), .ref (h + 10), .ref (h + 11), .int (zI (Z 20)), .int (zI (Z 21)), .int (zI (Z 22)), .ref (h + 12)]) := hm45
    have hf48 := hn5.kept (fun q h1 h2 => (o46 (q) (by omega)))
    have hf49 := hsc.kept (fun q h1 h2 => ((o46 (q) (by omega)).trans (o6 (q) (by omega))))
    refine g_iret hx hb hr hlk hK hM dX9_daysUntil_17 ?_
    have hcd : (cd3 (0 ≤ a ∧ a < P ps 7) (0 ≤ b ∧ b ≤ 9000000) (duR (P ps) (11 + 4 * a.toNat) b 201 0 < 201)) = 1 := cd3_1 (by omega)
    refine ⟨(pu (pu Z 0 1) 11 1764), (mov (mov M (294 * ps) (P ps)) 1764 (P ps)), ho47, ((zKeep.rf.pu (by decide)).pu (by decide)), ?_, fun hh => ?_, hf48, fun j hj => mov_n (by omega), hf49, (fun q hq => ((o46 (q) (by omega)).trans (o6 (q) (by omega))))⟩
    · exact hcd.symm
    · rw [hcd] at hh; exact absurd hh (by decide)

def po_X9_isSpared (g : gE) (f : gF) (h : Nat) (Z M : Nat → Int) (P : Nat → Nat → Int) (ps : Nat) (a x b v0 : Int) : Int32 → gF → Prop := fun r f1 => r = bI (spB (P ps) a.toNat x b.toNat = true) ∧ (∃ M1 : Nat → Int, arJ g f1 (h + 1) 2058 M1 ∧ ∀ j, j < 1764 → M1 j = M j) ∧ mdO f1 h (pu Z 11 1764) ∧ scrAt g f1 h ∧ ∀ q, (q < h ∨ (h + 2 ≤ q ∧ q < h + 9) ∨ h + 11 ≤ q) → f1 q = f q
set_option maxRecDepth 100000 in
set_option maxHeartbeats 1000000 in
/-- isSpared -/
theorem c_X9_isSpared (l : Launch) (g : gE) (b0 n : Nat) (f : gF) (h : Nat) (Z M : Nat → Int) (P : Nat → Nat → Int) (ps : Nat) (a x b v0 : Int) (hO : mdO f h Z) (hPl : arJ g f (h + 1) 2058 M) (hMp : ∀ i, i < 147 → M (294 * ps + i) = P ps i) (hrg : b0 ≤ h ∧ h + 13 ≤ b0 + n) (hsc : scrAt g f h) (hz9 : Z 9 = ↑ps) (hps : ps < 6) (hok : pOk (P ps) v0) (hv1 : 0 ≤ v0) (hv0 : v0 + 1800 ≤ 800000000) (ha : 0 ≤ a ∧ a < P ps 7) (hx0 : 0 ≤ x ∧ x ≤ 1000000) (hbd : 1 ≤ b ∧ b ≤ 60) : cI l yX9_isSpared cX9_isSpared 8 (some .boolean) 7 221 [.ref h, .int (zI a), .int (zI x), .int (zI b)] g b0 n f (po_X9_isSpared g f h Z M P ps a x b v0) := by
  refine gs_i (cc := cX9_isSpared) (maxL := 8) (ret := (some .boolean)) (by decide) (Nat.le_of_ble_eq_true rfl) ?_
  intro p e0 s m args below meth c ls hx hb hr hml hown hts hlk hK hM hl
  have hl : lv_has ls 8 [(0, .ref h), (1, .int (zI a)), (2, .int (zI x)), (3, .int (zI b))] := hl
  have hcn7 := hok.1.1
  have hcn8 := hok.2.1.1
  have hcn9 := hok.2.2.1.1
  have hcn10 := hok.2.2.2.2.2.2.2.1
  have hcp7 := hcn7.1
  have hcp8 := hcn8.1
  have hcp9 := hcn9.1
  have hcp10 := hcn10.1
  have hcq7 := hcn7.2
  have hcq8 := hcn8.2
  have hcq9 := hcn9.2
  have hcq10 := hcn10.2
  have hws := pOkL_wfS hok (by omega)
  have ha1 := ha.1
  have ha2 := ha.2
  have hx1 := hx0.1
  have hx2 := hx0.2
  have hb8 := hbd.1
  have hb9 := hbd.2
  have hae : ((a.toNat : Nat) : Int) = a := by omega
  have hbe := (hws.E.2 a.toNat (by omega)).1
  have hbe1 := hbe.1
  have hbe2 := hbe.2
  have hpl := pOk_pool hok (by omega)
  have hpl1 := hpl.1
  have hpl2 := hpl.2
  have h4p := pOk_P4 hok
  have h4a := h4p.1
  have h4b := h4p.2
  refine lv_aload_n hx hb dX9_isSpared_0 rfl (lv_at hl 0 rfl) ?_
  refine lv_aload_n hx hb dX9_isSpared_1 rfl (lv_at hl 0 rfl) ?_
  refine g_get (ci := 11) (v := .int (zI (Z 9))) (C := RX9) (T := TX9) (N := 24) hx hb hts iU_X9 hown hK hM ⟨by omega, by omega⟩ hO rfl 9 (by decide) (hts _ u_1153) (fun _ h9 => h9) rfl dX9_isSpared_2 ?_
  rw [hz9]
  have hC1 := c_X9_planOf l g b0 n f ps (by omega)
  refine g_callSi (As := [.int (zI (↑ps : Int))]) (rest := [.ref h]) ⟨hx, hb, hml, hown, hts⟩ hK hM hC1 (cuS (n := 1) hts u_1228 u_1226 u_10 (by decide) u_1227 ⟨Nat.le_of_ble_eq_true rfl, Nat.le_of_ble_eq_true rfl⟩) rfl hl.1 rfl (Nat.le_of_ble_eq_true rfl) dX9_isSpared_5 ⟨Nat.zero_le _, Nat.zero_le _⟩ (fun r5 f2 H locs hM hp3 => ?_)
  obtain ⟨rfl, rfl⟩ := hp3
  refine g_sipush hx hb dX9_isSpared_8 (by decide) ?_
  have hC4 := c_X9_copies l g b0 n f h Z M (294 * ps) 1764 hO hPl hrg (by omega) (by omega) (by omega)
  refine g_callVv (ci := 11) (C := RX9) (T := TX9) (N := 24) (As := [.int (zI (↑(294 * ps) : Int)), .int (zI 1764)]) (rest := []) ⟨hx, hb, hml, hown, hts⟩ hK hM hC4 (cuV (n := 2) hts u_1425 u_1422 u_10 (by decide) u_1424 us_56 ⟨Nat.le_of_ble_eq_true rfl, Nat.le_of_ble_eq_true rfl⟩) ⟨by omega, by omega⟩ hO rfl rfl hl.1 rfl (Nat.le_of_ble_eq_true rfl) dX9_isSpared_11 ⟨Nat.zero_le _, Nat.zero_le _⟩ (fun f5 H locs hM hp6 => ?_)
  obtain ⟨hn7, o8⟩ := hp6
  have hp9 : mpAt g f5 h M 1764 (P ps) := mpAt.cong (show mpAt g f5 h M 1764 (fun i => M (294 * ps + i)) from hn7) (fun i hi => (hMp i hi).symm)
  refine lv_aload_n hx hb dX9_isSpared_14 rfl (lv_at hl 0 rfl) ?_
  refine g_sipush hx hb dX9_isSpared_15 (by decide) ?_
  have hf10 : f5 (h) = .inr (11, [.int (zI (Z 0)), .ref (h + 1), .ref (h + 2), .ref (h + 3), .ref (h + 4), .ref (h + 5), .ref (h + 6), .ref (h + 7), .ref (h + 8), .int (zI (Z 9)), .int (zI (Z 10)), .int (zI (Z 11)), .int (zI (Z 12)), .int (zI (Z 13)), .int (zI (Z 14)), .int (zI (Z 15)), .int (zI (Z 16)), .ref (h + 9), .ref (h + 10), .ref (h + 11), .int (zI (Z 20)), .int (zI (Z 21)), .int (zI (Z 22)), .ref (h + 12)]) := (o8 (h) (by omega)).trans hO
  refine g_put (ci := 11) (v := .int (zI 1764)) (ty := .int) (C := RX9) (T := TX9) (N := 24) hx hb hts iU_X9 tyX9 tyX9_ok nmX9 hown hK hM ⟨by omega, by omega⟩ hf10 rfl 11 (by decide) (hts _ u_1155) (fun _ h9 => h9) rfl (by decide +kernel) rfl rfl (Nat.le_of_ble_eq_true rfl) dX9_isSpared_18 (fun f11 H locs hM hf13 o12 => ?_)
  have hf13 : f11 (h) = .inr (11, [.int (zI (Z 0)), .ref (h + 1), .ref (h + 2), .ref (h + 3), .ref (h + 4), .ref (h + 5), .ref (h + 6), .ref (h + 7), .ref (h + 8), .int (zI (Z 9)), .int (zI (Z 10)), .int (zI 1764), .int (zI (Z 12)), .int (zI (Z 13)), .int (zI (Z 14)), .int (zI (Z 15)), .int (zI (Z 16)), .ref (h + 9), .ref (h + 10), .ref (h + 11), .int (zI (Z 20)), .int (zI (Z 21)), .int (zI (Z 22)), .ref (h + 12)]) := hf13
  refine lv_aload_n hx hb dX9_isSpared_21 rfl (lv_at hl 0 rfl) ?_
  refine lv_iload_n hx hb dX9_isSpared_22 rfl (lv_at hl 1 rfl) ?_
  refine lv_iload_n hx hb dX9_isSpared_23 rfl (lv_at hl 2 rfl) ?_
  refine g_i2l hx hb dX9_isSpared_24 ⟨by omega, by omega⟩ ?_
  have hf14 := hp9.kept (fun q h1 h2 => (o12 (q) (by omega)))
  have hq15 := c_X9_maySpend l g b0 n f11 h (pu Z 11 1764) M 1764 (P ps) a.toNat x hf13 hf14 hrg (pu_s _ _ _) (by omega) (by omega) ⟨by omega, by omega⟩ ⟨by omega, by omega⟩ ⟨by omega, by omega⟩
  rw [hae] at hq15
  have hC16 := hq15
  refine g_callVi (ci := 11) (C := RX9) (T := TX9) (N := 24) (As := [.int (zI a), .long (zL x)]) (rest := []) ⟨hx, hb, hml, hown, hts⟩ hK hM hC16 (cuV (n := 2) hts u_1319 u_1316 u_10 (by decide) u_1318 us_45 ⟨Nat.le_of_ble_eq_true rfl, Nat.le_of_ble_eq_true rfl⟩) ⟨by omega, by omega⟩ hf13 rfl rfl hl.1 rfl (Nat.le_of_ble_eq_true rfl) dX9_isSpared_25 ⟨Nat.zero_le _, Nat.zero_le _⟩ (fun r25 f17 H locs hM hp18 => ?_)
  obtain ⟨rfl, rfl⟩ := hp18
  refine g_ifb_ne (tgt := 33) hx hb dX9_isSpared_28 (by decide) (fun c28 => ?_) (fun c28 => ?_)
  · skip
    refine lv_aload_n hx hb dX9_isSpared_33 rfl (lv_at hl 0 rfl) ?_
    refine g_iconst hx hb dX9_isSpared_34 ?_
    have hC19 := c_X9_p l g b0 n f11 h (pu Z 11 1764) M 1764 (P ps) 4 (4) hf13 hf14 hrg (pu_s _ _ _) (by omega) (by omega) (by omega)
    refine g_callVl (ci := 11) (C := RX9) (T := TX9) (N := 24) (As := [.int (zI 4)]) (rest := []) ⟨hx, hb, hml, hown, hts⟩ hK hM hC19 (cuV (n := 1) hts u_1283 u_1280 u_10 (by decide) u_1282 us_37 ⟨Nat.le_of_ble_eq_true rfl, Nat.le_of_ble_eq_true rfl⟩) ⟨by omega, by omega⟩ hf13 rfl rfl hl.1 rfl (Nat.le_of_ble_eq_true rfl) dX9_isSpared_35 ⟨Nat.zero_le _, Nat.zero_le _⟩ (fun r35 f20 H locs hM hp21 => ?_)
    obtain ⟨rfl, rfl⟩ := hp21
    refine lv_lstore (lv' := [(4, .long (zL ((P ps) 4))), (0, .ref h), (1, .int (zI a)), (2, .int (zI x)), (3, .int (zI b))]) hx hb dX9_isSpared_38 hl (by decide) rfl (fun ls hl => ?_)
    refine lv_aload_n hx hb dX9_isSpared_40 rfl (lv_at hl 1 rfl) ?_
    refine lv_aload_n hx hb dX9_isSpared_41 rfl (lv_at hl 1 rfl) ?_
    refine lv_iload_n hx hb dX9_isSpared_42 rfl (lv_at hl 2 rfl) ?_
    refine lv_iload_n hx hb dX9_isSpared_43 rfl (lv_at hl 3 rfl) ?_
    refine g_i2l hx hb dX9_isSpared_44 ⟨by omega, by omega⟩ ?_
    have hq22 := c_X9_spends l g b0 n f11 h (pu Z 11 1764) M 1764 (P ps) a.toNat x hf13 hf14 hrg (pu_s _ _ _) (by omega) (by omega) ⟨by omega, by omega⟩ ⟨by omega, by omega⟩ ⟨by omega, by omega⟩
    rw [hae] at hq22
    have hC23 := hq22
    refine g_callVl (ci := 11) (C := RX9) (T := TX9) (N := 24) (As := [.int (zI a), .long (zL x)]) (rest := [.ref h]) ⟨hx, hb, hml, hown, hts⟩ hK hM hC23 (cuV (n := 2) hts u_1323 u_1320 u_10 (by decide) u_1322 us_46 ⟨Nat.le_of_ble_eq_true rfl, Nat.le_of_ble_eq_true rfl⟩) ⟨by omega, by omega⟩ hf13 rfl rfl hl.1 rfl (Nat.le_of_ble_eq_true rfl) dX9_isSpared_45 ⟨Nat.zero_le _, Nat.zero_le _⟩ (fun r45 f24 H locs hM hp25 => ?_)
    obtain ⟨rfl, hn26, o27⟩ := hp25
    obtain ⟨P1, hP1⟩ : ∃ Q : Nat → Int, Q = sPay (P ps) a.toNat x := ⟨_, rfl⟩
    rw [← hP1] at hn26
    have hd2 : pOkL P1 v0 8 := by rw [hP1]; exact pOkL_pay hok (by omega) (by omega) c28
    have hf29 := hsc.kept (fun q h1 h2 => ((o27 (q) (by omega)).trans ((o12 (q) (by omega)).trans (o8 (q) (by omega)))))
    have hf30 : f24 (h) = .inr (11, [.int (zI (Z 0)), .ref (h + 1), .ref (h + 2), .ref (h + 3), .ref (h + 4), .ref (h + 5), .ref (h + 6), .ref (h + 7), .ref (h + 8), .int (zI (Z 9)), .int (zI (Z 10)), .int (zI 1764), .int (zI (Z 12)), .int (zI (Z 13)), .int (zI (Z 14)), .int (zI (Z 15)), .int (zI (Z 16)), .ref (h + 9), .ref (h + 10), .ref (h + 11), .int (zI (Z 20)), .int (zI (Z 21)), .int (zI (Z 22)), .ref (h + 12)]) := (o27 (h) (by omega)).trans hf13
    have hC31 := c_X9_settled l g b0 n f24 h (pu Z 11 1764) M 1764 P1 (x - min (P ps (11 + 4 * a.toNat)) x) hf30 hn26 hrg (pu_s _ _ _) (by omega) hf29 (wfS_mono (pOkL_wfS hd2 (by omega)) (by omega)) hd2.2.2.1
    refine g_callVi (ci := 11) (C := RX9) (T := TX9) (N := 24) (As := [.long (zL (x - min (P ps (11 + 4 * a.toNat)) x))]) (rest := []) ⟨hx, hb, hml, hown, hts⟩ hK hM hC31 (cuV (n := 1) hts u_1311 u_1308 u_10 (by decide) u_1310 us_43 ⟨Nat.le_of_ble_eq_true rfl, Nat.le_of_ble_eq_true rfl⟩) ⟨by omega, by omega⟩ hf30 rfl rfl hl.1 rfl (Nat.le_of_ble_eq_true rfl) dX9_isSpared_48 ⟨Nat.zero_le _, Nat.zero_le _⟩ (fun r48 f32 H locs hM hp33 => ?_)
    obtain ⟨rfl, hn34, hs36, o35⟩ := hp33
    obtain ⟨P2, hP2⟩ : ∃ Q : Nat → Int, Q = sSet P1 := ⟨_, rfl⟩
    rw [← hP2] at hn34
    refine lv_istore (lv' := [(6, .int (zI (x - min (P ps (11 + 4 * a.toNat)) x))), (4, .long (zL ((P ps) 4))), (0, .ref h), (1, .int (zI a)), (2, .int (zI x)), (3, .int (zI b))]) hx hb dX9_isSpared_51 hl (by decide) rfl (fun ls hl => ?_)
    have hd3 : pOk P2 v0 := by rw [hP2]; exact pOkL_set hd2 (by omega)
    refine g_iconst hx hb dX9_isSpared_53 ?_
    refine lv_istore (lv' := [(7, .int (zI 0)), (6, .int (zI (x - min (P ps (11 + 4 * a.toNat)) x))), (4, .long (zL ((P ps) 4))), (0, .ref h), (1, .int (zI a)), (2, .int (zI x)), (3, .int (zI b))]) hx hb dX9_isSpared_54 hl (by decide) rfl (fun ls hl => ?_)
    have lp56 : ∀ (k : Nat), ∀ (i : Nat) (Pk : Nat → Int) (fL : gF) (H : Heap) (locs : List Loc) (ls : Array Slot), (b.toNat - i < k) → ((i : Int) ≤ b) → (Pk = sDays P2 i) → (pOk Pk (v0 + 9 * i)) → (∀ q, (q < h ∨ (h + 2 ≤ q ∧ q < h + 9) ∨ h + 11 ≤ q) → fL q = f q) → gH g b0 n fL s.heap H locs → (mdO fL h (pu Z 11 1764)) → (mpAt g fL h M 1764 Pk) → (scrAt g fL h) → lv_has ls 8 [(0, .ref h), (3, .int (zI b)), (4, .long (zL (P ps 4))), (7, .int (zI (↑i : Int)))] → W p l e0 { frames := 7, cells := 0, slots := 0, locals := 221 } s m args below meth c H locs 0 0 (MQ below (va_Qi (po_X9_isSpared g f h Z M P ps a x b v0) (gB g b0 n) (gA b0)) args s 0 0 (gA b0)) (F0 m 56 ls []) := by
      intro k
      induction k with
      | zero =>
        intro i Pk fL H locs ls hk hi hPk hod hfr hM hL0 hL1 hL2 hl
        exact absurd hk (Nat.not_lt_zero _)
      | succ k ih56 =>
        intro i Pk fL H locs ls hk hi hPk hod hfr hM hL0 hL1 hL2 hl
        have hp4 := pOk_P4 hod
        have hp4a := hp4.1
        have hp4b := hp4.2
        refine lv_iload hx hb dX9_isSpared_56 (lv_at hl 3 rfl) ?_
        refine lv_iload_n hx hb dX9_isSpared_58 rfl (lv_at hl 1 rfl) ?_
        refine g_icmp_ge (tgt := 72) hx hb dX9_isSpared_59 (by decide) ⟨by omega, by omega⟩ ⟨by omega, by omega⟩ (fun c59 => ?_) (fun c59 => ?_)
        · skip
          refine lv_aload_n hx hb dX9_isSpared_72 rfl (lv_at hl 0 rfl) ?_
          refine g_iconst hx hb dX9_isSpared_73 ?_
          have hC37 := c_X9_p l g b0 n fL h (pu Z 11 1764) M 1764 Pk 4 (4) hL0 hL1 hrg (pu_s _ _ _) (by omega) (by omega) (by omega)
          refine g_callVl (ci := 11) (C := RX9) (T := TX9) (N := 24) (As := [.int (zI 4)]) (rest := []) ⟨hx, hb, hml, hown, hts⟩ hK hM hC37 (cuV (n := 1) hts u_1283 u_1280 u_10 (by decide) u_1282 us_37 ⟨Nat.le_of_ble_eq_true rfl, Nat.le_of_ble_eq_true rfl⟩) ⟨by omega, by omega⟩ hL0 rfl rfl hl.1 rfl (Nat.le_of_ble_eq_true rfl) dX9_isSpared_74 ⟨Nat.zero_le _, Nat.zero_le _⟩ (fun r74 f38 H locs hM hp39 => ?_)
          obtain ⟨rfl, rfl⟩ := hp39
          refine lv_lload hx hb dX9_isSpared_77 (lv_at hl 2 rfl) ?_
          refine g_lcmp_ne (tgt := 87) hx hb dX9_isSpared_79 dX9_isSpared_80 (by decide) ⟨by omega, by omega⟩ ⟨by omega, by omega⟩ (fun c79 => ?_) (fun c79 => ?_)
          · skip
            refine g_iconst hx hb dX9_isSpared_87 ?_
            refine g_zret hx hb hr hlk hK hM dX9_isSpared_88 rfl ?_
            have hib : i = b.toNat := by omega
            have hB : spB (P ps) a.toNat x b.toNat = false := by
              unfold spB
              rw [← hP1, ← hP2, ← hib, ← hPk]
              rw [decide_eq_false (show ¬ Pk 4 = P ps 4 by omega), Bool.and_false]
            refine ⟨by rw [hB]; rfl, ⟨_, hL1, fun j hj => mov_n (by omega)⟩, hL0, hL2, (fun q hq => (hfr (q) (by omega)))⟩
          · skip
            refine g_iconst hx hb dX9_isSpared_83 ?_
            refine lv_goto (tgt := 88) hx hb dX9_isSpared_84 (by decide) ?_
            refine g_zret hx hb hr hlk hK hM dX9_isSpared_88 rfl ?_
            have hib : i = b.toNat := by omega
            have hB : spB (P ps) a.toNat x b.toNat = true := by
              unfold spB
              rw [← hP1, ← hP2, ← hib, ← hPk]
              rw [decide_eq_true (show x ≤ P ps (11 + 4 * a.toNat) + P ps 0 from c28), decide_eq_true (show Pk 4 = P ps 4 by omega)]
              rfl
            refine ⟨by rw [hB]; rfl, ⟨_, hL1, fun j hj => mov_n (by omega)⟩, hL0, hL2, (fun q hq => (hfr (q) (by omega)))⟩
        · skip
          refine lv_aload_n hx hb dX9_isSpared_62 rfl (lv_at hl 0 rfl) ?_
          have hC40 := c_X9_day l g b0 n fL h (pu Z 11 1764) M 1764 Pk (v0 + 9 * i) hL0 hL1 hrg (pu_s _ _ _) (by omega) hL2 hod (by omega) (by omega)
          refine g_callVv (ci := 11) (C := RX9) (T := TX9) (N := 24) (As := []) (rest := []) ⟨hx, hb, hml, hown, hts⟩ hK hM hC40 (cuV (n := 0) hts u_1339 u_1336 u_10 (by decide) u_1338 us_50 ⟨Nat.le_of_ble_eq_true rfl, Nat.le_of_ble_eq_true rfl⟩) ⟨by omega, by omega⟩ hL0 rfl rfl hl.1 rfl (Nat.le_of_ble_eq_true rfl) dX9_isSpared_63 ⟨Nat.zero_le _, Nat.zero_le _⟩ (fun f41 H locs hM hp42 => ?_)
          obtain ⟨hn43, hs45, o44⟩ := hp42
          obtain ⟨Pz46, hPz46⟩ : ∃ Q : Nat → Int, Q = sDay Pk := ⟨_, rfl⟩
          rw [← hPz46] at hn43
          refine lv_iinc (v := zI ((↑i : Int) + 1)) (lv' := [(7, .int (zI ((↑i : Int) + 1))), (0, .ref h), (3, .int (zI b)), (4, .long (zL (P ps 4)))]) hx hb dX9_isSpared_66 hl (k := 3) rfl (zI_add _ _) (by decide) rfl (fun ls hl => ?_)
          refine lv_goto (tgt := 56) hx hb dX9_isSpared_69 (by decide) ?_
          have hf47 : f41 (h) = .inr (11, [.int (zI (Z 0)), .ref (h + 1), .ref (h + 2), .ref (h + 3), .ref (h + 4), .ref (h + 5), .ref (h + 6), .ref (h + 7), .ref (h + 8), .int (zI (Z 9)), .int (zI (Z 10)), .int (zI 1764), .int (zI (Z 12)), .int (zI (Z 13)), .int (zI (Z 14)), .int (zI (Z 15)), .int (zI (Z 16)), .ref (h + 9), .ref (h + 10), .ref (h + 11), .int (zI (Z 20)), .int (zI (Z 21)), .int (zI (Z 22)), .ref (h + 12)]) := (o44 (h) (by omega)).trans hL0
          exact ih56 (i + 1) Pz46 f41 _ _ _ (by omega) (by omega) (by rw [hPz46, hPk]; rfl) (by rw [hPz46]; exact pOk_mono (pOk_day hod (by omega)).1 (by omega)) (fun q hq => ((o44 (q) (by omega)).trans (hfr (q) (by omega)))) hM hf47 hn43 hs45 (lv_sub hl [1, 2, 3, 0] rfl)
    have hf48 : f32 (h) = .inr (11, [.int (zI (Z 0)), .ref (h + 1), .ref (h + 2), .ref (h + 3), .ref (h + 4), .ref (h + 5), .ref (h + 6), .ref (h + 7), .ref (h + 8), .int (zI (Z 9)), .int (zI (Z 10)), .int (zI 1764), .int (zI (Z 12)), .int (zI (Z 13)), .int (zI (Z 14)), .int (zI (Z 15)), .int (zI (Z 16)), .ref (h + 9), .ref (h + 10), .ref (h + 11), .int (zI (Z 20)), .int (zI (Z 21)), .int (zI (Z 22)), .ref (h + 12)]) := (o35 (h) (by omega)).trans hf30
    exact lp56 ((b.toNat + 1)) 0 P2 f32 _ _ _ (by omega) (by omega) rfl (pOk_mono hd3 (by omega)) (fun q hq => ((o35 (q) (by omega)).trans ((o27 (q) (by omega)).trans ((o12 (q) (by omega)).trans (o8 (q) (by omega)))))) hM hf48 hn34 hs36 (lv_sub hl [3, 6, 2, 0] rfl)
  · skip
    refine g_iconst hx hb dX9_isSpared_31 ?_
    have hf49 := hsc.kept (fun q h1 h2 => ((o12 (q) (by omega)).trans (o8 (q) (by omega))))
    refine g_zret hx hb hr hlk hK hM dX9_isSpared_32 rfl ?_
    have hB : spB (P ps) a.toNat x b.toNat = false := by
      unfold spB
      rw [decide_eq_false (show ¬ x ≤ P ps (11 + 4 * a.toNat) + P ps 0 from c28)]
      rfl
    refine ⟨by rw [hB]; rfl, ⟨_, hf14, fun j hj => mov_n (by omega)⟩, hf13, hf49, (fun q hq => ((o12 (q) (by omega)).trans (o8 (q) (by omega))))⟩

def po_X9_spare (g : gE) (f : gF) (h : Nat) (Z M : Nat → Int) (P : Nat → Nat → Int) (ps : Nat) (a b v0 : Int) : Int32 → gF → Prop := fun r f1 => ∃ Z1 M1 : Nat → Int, mdO f1 h Z1 ∧ zKeep Z Z1 ∧ Z1 0 = (cd2 (0 ≤ a ∧ a < P ps 7) (1 ≤ b ∧ b ≤ 60)) ∧ ((cd2 (0 ≤ a ∧ a < P ps 7) (1 ≤ b ∧ b ≤ 60)) = 0 → r = zI (spV (P ps) a.toNat b.toNat)) ∧ arJ g f1 (h + 1) 2058 M1 ∧ (∀ j, j < 1764 → M1 j = mov M (294 * ps) (P ps) j) ∧ scrAt g f1 h ∧ ∀ q, (q < h ∨ (h + 2 ≤ q ∧ q < h + 9) ∨ h + 11 ≤ q) → f1 q = f q
set_option maxRecDepth 100000 in
set_option maxHeartbeats 1000000 in
/-- spare(e, days) -/
theorem c_X9_spare (l : Launch) (g : gE) (b0 n : Nat) (f : gF) (h : Nat) (Z M : Nat → Int) (P : Nat → Nat → Int) (ps : Nat) (a b v0 : Int) (hO : mdO f h Z) (hP : mpAt g f h M (294 * ps) (P ps)) (hrg : b0 ≤ h ∧ h + 13 ≤ b0 + n) (hsc : scrAt g f h) (hz9 : Z 9 = ↑ps) (hps : ps < 6) (hok : pOk (P ps) v0) (hv1 : 0 ≤ v0) (hv0 : v0 + 1800 ≤ 800000000) (hra : rI a) (hrb : rI b) : cI l yX9_spare cX9_spare 6 (some .int) 8 248 [.ref h, .int (zI a), .int (zI b)] g b0 n f (po_X9_spare g f h Z M P ps a b v0) := by
  refine gs_i (cc := cX9_spare) (maxL := 6) (ret := (some .int)) (by decide) (Nat.le_of_ble_eq_true rfl) ?_
  intro p e0 s m args below meth c ls hx hb hr hml hown hts hlk hK hM hl
  have hl : lv_has ls 6 [(0, .ref h), (1, .int (zI a)), (2, .int (zI b))] := hl
  have hcn7 := hok.1.1
  have hcn8 := hok.2.1.1
  have hcn9 := hok.2.2.1.1
  have hcn10 := hok.2.2.2.2.2.2.2.1
  have hcp7 := hcn7.1
  have hcp8 := hcn8.1
  have hcp9 := hcn9.1
  have hcp10 := hcn10.1
  have hcq7 := hcn7.2
  have hcq8 := hcn8.2
  have hcq9 := hcn9.2
  have hcq10 := hcn10.2
  have hws := pOkL_wfS hok (by omega)
  refine lv_aload_n hx hb dX9_spare_0 rfl (lv_at hl 0 rfl) ?_
  have hC1 := c_X9_begins l g b0 n f h Z ps hO hrg hz9 hps
  refine g_callVv (ci := 11) (C := RX9) (T := TX9) (N := 24) (As := []) (rest := []) ⟨hx, hb, hml, hown, hts⟩ hK hM hC1 (cuV (n := 0) hts u_1408 u_1405 u_10 (by decide) u_1407 us_54 ⟨Nat.le_of_ble_eq_true rfl, Nat.le_of_ble_eq_true rfl⟩) ⟨by omega, by omega⟩ hO rfl rfl hl.1 rfl (Nat.le_of_ble_eq_true rfl) dX9_spare_1 ⟨Nat.zero_le _, Nat.zero_le _⟩ (fun f2 H locs hM hp3 => ?_)
  obtain ⟨hm4, o5⟩ := hp3
  have ho6 : f2 h = .inr (11, [.int (zI 0), .ref (h + 1), .ref (h + 2), .ref (h + 3), .ref (h + 4), .ref (h + 5), .ref (h + 6), .ref (h + 7), .ref (h + 8), .int (zI (Z 9)), .int (zI (Z 10)), .int (zI (↑(294 * ps) : Int)), .int (zI (Z 12)), .int (zI (Z 13)), .int (zI (Z 14)), .int (zI (Z 15)), .int (zI (Z 16)), .ref (h + 9), .ref (h + 10), .ref (h + 11), .int (zI (Z 20)), .int (zI (Z 21)), .int (zI (Z 22)), .ref (h + 12)]) := hm4
  refine lv_aload_n hx hb dX9_spare_4 rfl (lv_at hl 0 rfl) ?_
  refine lv_iload_n hx hb dX9_spare_5 rfl (lv_at hl 1 rfl) ?_
  have hf7 := hP.kept (fun q h1 h2 => (o5 (q) (by omega)))
  have hC8 := c_X9_isEnvelope l g b0 n f2 h (pu (pu Z 0 0) 11 (↑(294 * ps) : Int)) M (294 * ps) (P ps) a ho6 hf7 hrg (pu_s _ _ _) (by omega) hcn7 hra
  refine g_callVi (ci := 11) (C := RX9) (T := TX9) (N := 24) (As := [.int (zI a)]) (rest := []) ⟨hx, hb, hml, hown, hts⟩ hK hM hC8 (cuV (n := 1) hts u_1265 u_1262 u_10 (by decide) u_1264 us_34 ⟨Nat.le_of_ble_eq_true rfl, Nat.le_of_ble_eq_true rfl⟩) ⟨by omega, by omega⟩ ho6 rfl rfl hl.1 rfl (Nat.le_of_ble_eq_true rfl) dX9_spare_6 ⟨Nat.zero_le _, Nat.zero_le _⟩ (fun r6 f9 H locs hM hp10 => ?_)
  obtain ⟨rfl, rfl⟩ := hp10
  refine g_ifb_ne (tgt := 18) hx hb dX9_spare_9 (by decide) (fun c9 => ?_) (fun c9 => ?_)
  · skip
    refine lv_iload_n hx hb dX9_spare_18 rfl (lv_at hl 2 rfl) ?_
    refine g_i2l hx hb dX9_spare_19 hrb ?_
    refine g_lconst (z := 1) hx hb dX9_spare_20 (by decide) ?_
    refine g_ldc2 (z := 60) hx hb hown (hts _ u_1288) dX9_spare_21 (by decide) ?_
    have hC11 := c_X9_in l g b0 n f2 b 1 60 (rI_L hrb) (by decide) (by decide)
    refine g_callSi (As := [.long (zL b), .long (zL 1), .long (zL 60)]) (rest := []) ⟨hx, hb, hml, hown, hts⟩ hK hM hC11 (cuS (n := 3) hts u_1240 u_1238 u_10 (by decide) u_1239 ⟨Nat.le_of_ble_eq_true rfl, Nat.le_of_ble_eq_true rfl⟩) rfl hl.1 rfl (Nat.le_of_ble_eq_true rfl) dX9_spare_24 ⟨Nat.zero_le _, Nat.zero_le _⟩ (fun r24 f12 H locs hM hp13 => ?_)
    obtain ⟨rfl, rfl⟩ := hp13
    refine g_ifb_ne (tgt := 36) hx hb dX9_spare_27 (by decide) (fun c27 => ?_) (fun c27 => ?_)
    · skip
      refine g_iconst hx hb dX9_spare_36 ?_
      refine lv_istore_n (lv' := [(3, .int (zI 0)), (0, .ref h), (1, .int (zI a)), (2, .int (zI b))]) hx hb dX9_spare_37 rfl hl (by decide) rfl (fun ls hl => ?_)
      refine g_ldcw (z := 1000001) hx hb hown (hts _ u_1470) dX9_spare_38 (by decide) ?_
      refine lv_istore (lv' := [(4, .int (zI 1000001)), (3, .int (zI 0)), (0, .ref h), (1, .int (zI a)), (2, .int (zI b))]) hx hb dX9_spare_41 hl (by decide) rfl (fun ls hl => ?_)
      have lp43 : ∀ (k : Nat), ∀ (i : Nat) (lo : Int) (hh9 : Int) (z11 : Int) (Mk : Nat → Int) (fL : gF) (H : Heap) (locs : List Loc) (ls : Array Slot), (21 - i < k) → (i ≤ 20) → ((lo, hh9) = sIt (spT (P ps) a.toNat b.toNat) (0, 1000001) i) → (∀ j, j < 1764 → Mk j = (mov M (294 * ps) (P ps)) j) → (∀ q, (q < h ∨ (h + 2 ≤ q ∧ q < h + 9) ∨ h + 11 ≤ q) → fL q = f q) → gH g b0 n fL s.heap H locs → (mdO fL h (pu (pu Z 0 0) 11 z11)) → (arJ g fL (h + 1) 2058 Mk) → (scrAt g fL h) → lv_has ls 6 [(0, .ref h), (1, .int (zI a)), (2, .int (zI b)), (3, .int (zI lo)), (4, .int (zI hh9))] → W p l e0 { frames := 8, cells := 0, slots := 0, locals := 248 } s m args below meth c H locs 0 0 (MQ below (va_Qi (po_X9_spare g f h Z M P ps a b v0) (gB g b0 n) (gA b0)) args s 0 0 (gA b0)) (F0 m 43 ls []) := by
        intro k
        induction k with
        | zero =>
          intro i lo hh9 z11 Mk fL H locs ls hk hi hst hMk hfr hM hL0 hL1 hL2 hl
          exact absurd hk (Nat.not_lt_zero _)
        | succ k ih43 =>
          intro i lo hh9 z11 Mk fL H locs ls hk hi hst hMk hfr hM hL0 hL1 hL2 hl
          have hin := spT_in (P := P ps) (e := a.toNat) (d := b.toNat) i hi
          rw [← hst] at hin
          obtain ⟨⟨hin1, hin2, hin3⟩, hin4⟩ := hin
          simp only [] at hin1 hin2 hin3 hin4
          have htd : Int.tdiv (lo + hh9) 2 = (lo + hh9) / 2 := Int.tdiv_eq_ediv_of_nonneg (by omega)
          have hi20 : lo + 1 < hh9 → i < 20 := fun hh => by
            rcases Nat.lt_or_ge i 20 with q | q
            · exact q
            · exfalso; have e20 : i = 20 := by omega
              rw [e20] at hin4; have hz : (2 : Int) ^ (20 - 20) = 1 := rfl
              omega
          refine lv_iload hx hb dX9_spare_43 (lv_at hl 4 rfl) ?_
          refine lv_iload_n hx hb dX9_spare_45 rfl (lv_at hl 3 rfl) ?_
          refine g_iconst hx hb dX9_spare_46 ?_
          refine g_iadd hx hb dX9_spare_47 ?_
          refine g_icmp_le (tgt := 83) hx hb dX9_spare_48 (by decide) ⟨by omega, by omega⟩ ⟨by omega, by omega⟩ (fun c48 => ?_) (fun c48 => ?_)
          · skip
            refine lv_iload_n hx hb dX9_spare_83 rfl (lv_at hl 3 rfl) ?_
            refine g_iret hx hb hr hlk hK hM dX9_spare_84 ?_
            have hcd : (cd2 (0 ≤ a ∧ a < P ps 7) (1 ≤ b ∧ b ≤ 60)) = 0 := cd2_y (by omega) (by omega)
            refine ⟨(pu (pu Z 0 0) 11 z11), Mk, hL0, ((zKeep.rf.pu (by decide)).pu (by decide)), hcd.symm, fun hh => ?_, hL1, hMk, hL2, (fun q hq => (hfr (q) (by omega)))⟩
            rw [spV_eq (i := i) (by omega) (by rw [← hst]; show ¬ lo + 1 < hh9; omega), ← hst]
          · skip
            have hi19 := hi20 (by omega)
            refine lv_iload_n hx hb dX9_spare_51 rfl (lv_at hl 3 rfl) ?_
            refine lv_iload hx hb dX9_spare_52 (lv_at hl 4 rfl) ?_
            refine g_iadd hx hb dX9_spare_54 ?_
            refine g_iconst hx hb dX9_spare_55 ?_
            refine g_idiv hx hb dX9_spare_56 ⟨by omega, by omega⟩ (by decide) (by decide) ?_
            refine lv_istore (lv' := [(5, .int (zI (Int.tdiv (lo + hh9) 2))), (0, .ref h), (1, .int (zI a)), (2, .int (zI b)), (3, .int (zI lo)), (4, .int (zI hh9))]) hx hb dX9_spare_57 hl (by decide) rfl (fun ls hl => ?_)
            refine lv_aload_n hx hb dX9_spare_59 rfl (lv_at hl 1 rfl) ?_
            refine lv_iload_n hx hb dX9_spare_60 rfl (lv_at hl 2 rfl) ?_
            refine lv_iload hx hb dX9_spare_61 (lv_at hl 0 rfl) ?_
            refine lv_iload_n hx hb dX9_spare_63 rfl (lv_at hl 3 rfl) ?_
            have hC14 := c_X9_isSpared l g b0 n fL h (pu (pu Z 0 0) 11 z11) Mk P ps a (Int.tdiv (lo + hh9) 2) b v0 hL0 hL1 (fun i hi => by rw [hMk _ (by omega)]; exact mov_at rfl hi) hrg hL2 hz9 hps hok hv1 (by omega) (by omega) ⟨by omega, by omega⟩ (by omega)
            refine g_callVi (ci := 11) (C := RX9) (T := TX9) (N := 24) (As := [.int (zI a), .int (zI (Int.tdiv (lo + hh9) 2)), .int (zI b)]) (rest := []) ⟨hx, hb, hml, hown, hts⟩ hK hM hC14 (cuV (n := 3) hts u_1474 u_1471 u_10 (by decide) u_1473 us_60 ⟨Nat.le_of_ble_eq_true rfl, Nat.le_of_ble_eq_true rfl⟩) ⟨by omega, by omega⟩ hL0 rfl rfl hl.1 rfl (Nat.le_of_ble_eq_true rfl) dX9_spare_64 ⟨Nat.zero_le _, Nat.zero_le _⟩ (fun r64 f15 H locs hM hp16 => ?_)
            obtain ⟨rfl, ⟨M2, hj17, hk_18⟩, hm19, hs20, o21⟩ := hp16
            have ho22 : f15 h = .inr (11, [.int (zI 0), .ref (h + 1), .ref (h + 2), .ref (h + 3), .ref (h + 4), .ref (h + 5), .ref (h + 6), .ref (h + 7), .ref (h + 8), .int (zI (Z 9)), .int (zI (Z 10)), .int (zI 1764), .int (zI (Z 12)), .int (zI (Z 13)), .int (zI (Z 14)), .int (zI (Z 15)), .int (zI (Z 16)), .ref (h + 9), .ref (h + 10), .ref (h + 11), .int (zI (Z 20)), .int (zI (Z 21)), .int (zI (Z 22)), .ref (h + 12)]) := hm19
            refine g_ifb_eq (tgt := 76) hx hb dX9_spare_67 (by decide) (fun c67 => ?_) (fun c67 => ?_)
            · skip
              refine lv_iload hx hb dX9_spare_76 (lv_at hl 0 rfl) ?_
              refine lv_istore (lv' := [(4, .int (zI (Int.tdiv (lo + hh9) 2))), (5, .int (zI (Int.tdiv (lo + hh9) 2))), (0, .ref h), (1, .int (zI a)), (2, .int (zI b)), (3, .int (zI lo))]) hx hb dX9_spare_78 hl (by decide) rfl (fun ls hl => ?_)
              refine lv_goto (tgt := 43) hx hb dX9_spare_80 (by decide) ?_
              exact ih43 (i + 1) lo (Int.tdiv (lo + hh9) 2) 1764 M2 f15 _ _ _ (by omega) (by omega) (by rw [sIt_succ, ← hst]; unfold spT; rw [if_pos (show lo + 1 < hh9 by omega), if_neg c67]) (fun j hj => by rw [hk_18 j hj]; exact hMk j hj) (fun q hq => ((o21 (q) (by omega)).trans (hfr (q) (by omega)))) hM ho22 hj17 hs20 (lv_sub hl [2, 3, 4, 5, 0] rfl)
            · skip
              refine lv_iload hx hb dX9_spare_70 (lv_at hl 0 rfl) ?_
              refine lv_istore_n (lv' := [(3, .int (zI (Int.tdiv (lo + hh9) 2))), (5, .int (zI (Int.tdiv (lo + hh9) 2))), (0, .ref h), (1, .int (zI a)), (2, .int (zI b)), (4, .int (zI hh9))]) hx hb dX9_spare_72 rfl hl (by decide) rfl (fun ls hl => ?_)
              refine lv_goto (tgt := 80) hx hb dX9_spare_73 (by decide) ?_
              refine lv_goto (tgt := 43) hx hb dX9_spare_80 (by decide) ?_
              exact ih43 (i + 1) (Int.tdiv (lo + hh9) 2) hh9 1764 M2 f15 _ _ _ (by omega) (by omega) (by rw [sIt_succ, ← hst]; unfold spT; rw [if_pos (show lo + 1 < hh9 by omega), if_pos c67]) (fun j hj => by rw [hk_18 j hj]; exact hMk j hj) (fun q hq => ((o21 (q) (by omega)).trans (hfr (q) (by omega)))) hM ho22 hj17 hs20 (lv_sub hl [2, 3, 4, 0, 5] rfl)
      have hf23 := hsc.kept (fun q h1 h2 => (o5 (q) (by omega)))
      exact lp43 (22) 0 0 1000001 (↑(294 * ps) : Int) (mov M (294 * ps) (P ps)) f2 _ _ _ (by omega) (by omega) rfl (fun j hj => rfl) (fun q hq => (o5 (q) (by omega))) hM ho6 hf7 hf23 (lv_sub hl [2, 3, 4, 1, 0] rfl)
    · skip
      refine lv_aload_n hx hb dX9_spare_30 rfl (lv_at hl 0 rfl) ?_
      refine g_iconst hx hb dX9_spare_31 ?_
      have hC24 := c_X9_fails l g b0 n f2 h (pu (pu Z 0 0) 11 (↑(294 * ps) : Int)) 2 ho6 hrg
      refine g_callVi (ci := 11) (C := RX9) (T := TX9) (N := 24) (As := [.int (zI 2)]) (rest := []) ⟨hx, hb, hml, hown, hts⟩ hK hM hC24 (cuV (n := 1) hts u_1412 u_1409 u_10 (by decide) u_1411 us_55 ⟨Nat.le_of_ble_eq_true rfl, Nat.le_of_ble_eq_true rfl⟩) ⟨by omega, by omega⟩ ho6 rfl rfl hl.1 rfl (Nat.le_of_ble_eq_true rfl) dX9_spare_32 ⟨Nat.zero_le _, Nat.zero_le _⟩ (fun r32 f25 H locs hM hp26 => ?_)
      obtain ⟨rfl, hm27, o28⟩ := hp26
      have ho29 : f25 h = .inr (11, [.int (zI 2), .ref (h + 1), .ref (h + 2), .ref (h + 3), .ref (h + 4), .ref (h + 5), .ref (h + 6), .ref (h + 7), .ref (h + 8), .int (zI (Z 9)), .int (zI (Z 10)), .int (zI (↑(294 * ps) : Int)), .int (zI (Z 12)), .int (zI (Z 13)), .int (zI (Z 14)), .int (zI (Z 15)), .int (zI (Z 16)), .ref (h + 9), .ref (h + 10), .ref (h + 11), .int (zI (Z 20)), .int (zI (Z 21)), .int (zI (Z 22)), .ref (h + 12)]) := hm27
      have hf30 := hf7.kept (fun q h1 h2 => (o28 (q) (by omega)))
      have hf31 := hsc.kept (fun q h1 h2 => ((o28 (q) (by omega)).trans (o5 (q) (by omega))))
      refine g_iret hx hb hr hlk hK hM dX9_spare_35 ?_
      have hcd : (cd2 (0 ≤ a ∧ a < P ps 7) (1 ≤ b ∧ b ≤ 60)) = 2 := cd2_2 (by omega) (by omega)
      refine ⟨(pu (pu Z 0 2) 11 (↑(294 * ps) : Int)), (mov M (294 * ps) (P ps)), ho29, ((zKeep.rf.pu (by decide)).pu (by decide)), ?_, fun hh => ?_, hf30, fun j hj => rfl, hf31, (fun q hq => ((o28 (q) (by omega)).trans (o5 (q) (by omega))))⟩
      · exact hcd.symm
      · rw [hcd] at hh; exact absurd hh (by decide)
  · skip
    refine lv_aload_n hx hb dX9_spare_12 rfl (lv_at hl 0 rfl) ?_
    refine g_iconst hx hb dX9_spare_13 ?_
    have hC32 := c_X9_fails l g b0 n f2 h (pu (pu Z 0 0) 11 (↑(294 * ps) : Int)) 1 ho6 hrg
    refine g_callVi (ci := 11) (C := RX9) (T := TX9) (N := 24) (As := [.int (zI 1)]) (rest := []) ⟨hx, hb, hml, hown, hts⟩ hK hM hC32 (cuV (n := 1) hts u_1412 u_1409 u_10 (by decide) u_1411 us_55 ⟨Nat.le_of_ble_eq_true rfl, Nat.le_of_ble_eq_true rfl⟩) ⟨by omega, by omega⟩ ho6 rfl rfl hl.1 rfl (Nat.le_of_ble_eq_true rfl) dX9_spare_14 ⟨Nat.zero_le _, Nat.zero_le _⟩ (fun r14 f33 H locs hM hp34 => ?_)
    obtain ⟨rfl, hm35, o36⟩ := hp34
    have ho37 : f33 h = .inr (11, [.int (zI 1), .ref (h + 1), .ref (h + 2), .ref (h + 3), .ref (h + 4), .ref (h + 5), .ref (h + 6), .ref (h + 7), .ref (h + 8), .int (zI (Z 9)), .int (zI (Z 10)), .int (zI (↑(294 * ps) : Int)), .int (zI (Z 12)), .int (zI (Z 13)), .int (zI (Z 14)), .int (zI (Z 15)), .int (zI (Z 16)), .ref (h + 9), .ref (h + 10), .ref (h + 11), .int (zI (Z 20)), .int (zI (Z 21)), .int (zI (Z 22)), .ref (h + 12)]) := hm35
    have hf38 := hf7.kept (fun q h1 h2 => (o36 (q) (by omega)))
    have hf39 := hsc.kept (fun q h1 h2 => ((o36 (q) (by omega)).trans (o5 (q) (by omega))))
    refine g_iret hx hb hr hlk hK hM dX9_spare_17 ?_
    have hcd : (cd2 (0 ≤ a ∧ a < P ps 7) (1 ≤ b ∧ b ≤ 60)) = 1 := cd2_1 (by omega)
    refine ⟨(pu (pu Z 0 1) 11 (↑(294 * ps) : Int)), (mov M (294 * ps) (P ps)), ho37, ((zKeep.rf.pu (by decide)).pu (by decide)), ?_, fun hh => ?_, hf38, fun j hj => rfl, hf39, (fun q hq => ((o36 (q) (by omega)).trans (o5 (q) (by omega))))⟩
    · exact hcd.symm
    · rw [hcd] at hh; exact absurd hh (by decide)
