def po_X9_begins (g : gE) (f : gF) (h : Nat) (Z : Nat → Int) (ps : Nat) : gF → Prop := fun f1 => mdO f1 h (pu (pu Z 0 0) 11 (↑(294 * ps) : Int)) ∧ ∀ q, q ≠ h → f1 q = f q
set_option maxRecDepth 100000 in
set_option maxHeartbeats 1000000 in
/-- begins -/
theorem c_X9_begins (l : Launch) (g : gE) (b0 n : Nat) (f : gF) (h : Nat) (Z : Nat → Int) (ps : Nat) (hO : mdO f h Z) (hrg : b0 ≤ h ∧ h + 13 ≤ b0 + n) (hz9 : Z 9 = ↑ps) (hps : ps < 6) : cV l yX9_begins cX9_begins 1 none 1 20 [.ref h] g b0 n f (po_X9_begins g f h Z ps) := by
  refine gs_v (cc := cX9_begins) (maxL := 1) (ret := none) (by decide) (Nat.le_of_ble_eq_true rfl) ?_
  intro p e0 s m args below meth c ls hx hb hr hml hown hts hlk hK hM hl
  have hl : lv_has ls 1 [(0, .ref h)] := hl
  refine lv_aload_n hx hb dX9_begins_0 rfl (lv_at hl 0 rfl) ?_
  refine g_iconst hx hb dX9_begins_1 ?_
  refine g_put (ci := 11) (v := .int (zI 0)) (ty := .int) (C := RX9) (T := TX9) (N := 24) hx hb hts iU_X9 tyX9 tyX9_ok nmX9 hown hK hM ⟨by omega, by omega⟩ hO rfl 0 (by decide) (hts _ u_1144) (fun _ h9 => h9) rfl (by decide +kernel) rfl rfl (Nat.le_of_ble_eq_true rfl) dX9_begins_2 (fun f1 H locs hM hf3 o2 => ?_)
  have hf3 : f1 (h) = .inr (11, [.int (zI 0), .ref (h + 1), .ref (h + 2), .ref (h + 3), .ref (h + 4), .ref (h + 5), .ref (h + 6), .ref (h + 7), .ref (h + 8), .int (zI (Z 9)), .int (zI (Z 10)), .int (zI (Z 11)), .int (zI (Z 12)), .int (zI (Z 13)), .int (zI (Z 14)), .int (zI (Z 15)), .int (zI (Z 16)), .ref (h + 9), .ref (h + 10), .ref (h + 11), .int (zI (Z 20)), .int (zI (Z 21)), .int (zI (Z 22)), .ref (h + 12)]) := hf3
  refine lv_aload_n hx hb dX9_begins_5 rfl (lv_at hl 0 rfl) ?_
  refine lv_aload_n hx hb dX9_begins_6 rfl (lv_at hl 0 rfl) ?_
  refine g_get (ci := 11) (v := .int (zI (Z 9))) (C := RX9) (T := TX9) (N := 24) hx hb hts iU_X9 hown hK hM ⟨by omega, by omega⟩ hf3 rfl 9 (by decide) (hts _ u_1153) (fun _ h9 => h9) rfl dX9_begins_7 ?_
  rw [hz9]
  have hC4 := c_X9_planOf l g b0 n f1 ps (by omega)
  refine g_callSi (As := [.int (zI (↑ps : Int))]) (rest := [.ref h]) ⟨hx, hb, hml, hown, hts⟩ hK hM hC4 (cuS (n := 1) hts u_1228 u_1226 u_10 (by decide) u_1227 ⟨Nat.le_of_ble_eq_true rfl, Nat.le_of_ble_eq_true rfl⟩) rfl hl.1 rfl (Nat.le_of_ble_eq_true rfl) dX9_begins_10 ⟨Nat.zero_le _, Nat.zero_le _⟩ (fun r10 f5 H locs hM hp6 => ?_)
  obtain ⟨rfl, rfl⟩ := hp6
  refine g_put (ci := 11) (v := .int (zI (↑(294 * ps) : Int))) (ty := .int) (C := RX9) (T := TX9) (N := 24) hx hb hts iU_X9 tyX9 tyX9_ok nmX9 hown hK hM ⟨by omega, by omega⟩ hf3 rfl 11 (by decide) (hts _ u_1155) (fun _ h9 => h9) rfl (by decide +kernel) rfl rfl (Nat.le_of_ble_eq_true rfl) dX9_begins_13 (fun f7 H locs hM hf9 o8 => ?_)
  have hf9 : f7 (h) = .inr (11, [.int (zI 0), .ref (h + 1), .ref (h + 2), .ref (h + 3), .ref (h + 4), .ref (h + 5), .ref (h + 6), .ref (h + 7), .ref (h + 8), .int (zI (Z 9)), .int (zI (Z 10)), .int (zI (↑(294 * ps) : Int)), .int (zI (Z 12)), .int (zI (Z 13)), .int (zI (Z 14)), .int (zI (Z 15)), .int (zI (Z 16)), .ref (h + 9), .ref (h + 10), .ref (h + 11), .int (zI (Z 20)), .int (zI (Z 21)), .int (zI (Z 22)), .ref (h + 12)]) := hf9
  refine g_vret hx hb hr hlk hK hM dX9_begins_16 ?_
  exact ⟨hf9, (fun q hq => ((o8 (q) (by omega)).trans (o2 (q) (by omega))))⟩

def po_X9_envelope (g : gE) (f : gF) (h : Nat) (Z M : Nat → Int) (P : Nat → Nat → Int) (ps : Nat) (a b v0 : Int) : Int64 → gF → Prop := fun r f1 => ∃ Z1 M1 : Nat → Int, mdO f1 h Z1 ∧ zKeep Z Z1 ∧ Z1 0 = (cd2 (0 ≤ a ∧ a < P ps 7) (0 ≤ b ∧ b ≤ 4)) ∧ ((cd2 (0 ≤ a ∧ a < P ps 7) (0 ≤ b ∧ b ≤ 4)) = 0 → r = zL (sNumE (P ps) a.toNat b.toNat)) ∧ arJ g f1 (h + 1) 2058 M1 ∧ (∀ j, j < 1764 → M1 j = mov M (294 * ps) (P ps) j) ∧ scrAt g f1 h ∧ ∀ q, (q < h ∨ (h + 2 ≤ q ∧ q < h + 9) ∨ h + 11 ≤ q) → f1 q = f q
set_option maxRecDepth 100000 in
set_option maxHeartbeats 1000000 in
/-- envelope(e, what) -/
theorem c_X9_envelope (l : Launch) (g : gE) (b0 n : Nat) (f : gF) (h : Nat) (Z M : Nat → Int) (P : Nat → Nat → Int) (ps : Nat) (a b v0 : Int) (hO : mdO f h Z) (hP : mpAt g f h M (294 * ps) (P ps)) (hrg : b0 ≤ h ∧ h + 13 ≤ b0 + n) (hsc : scrAt g f h) (hz9 : Z 9 = ↑ps) (hps : ps < 6) (hok : pOk (P ps) v0) (hv1 : 0 ≤ v0) (hv0 : v0 + 1800 ≤ 800000000) (hra : rI a) (hrb : rI b) : cL l yX9_envelope cX9_envelope 3 (some .long) 2 83 [.ref h, .int (zI a), .int (zI b)] g b0 n f (po_X9_envelope g f h Z M P ps a b v0) := by
  refine gs_l (cc := cX9_envelope) (maxL := 3) (ret := (some .long)) (by decide) (Nat.le_of_ble_eq_true rfl) ?_
  intro p e0 s m args below meth c ls hx hb hr hml hown hts hlk hK hM hl
  have hl : lv_has ls 3 [(0, .ref h), (1, .int (zI a)), (2, .int (zI b))] := hl
  have hcn7 := hok.1.1
  have hcn8 := hok.2.1.1
  have hcn9 := hok.2.2.1.1
  have hcn10 := hok.2.2.2.2.2.2.2.1
  have hcp7 := hcn7.1
  have hcp8 := hcn8.1
  have hcp9 := hcn9.1
  have hcp10 := hcn10.1
  have hcq7 := hcn7.2
  have hcq8 := hcn8.2
  have hcq9 := hcn9.2
  have hcq10 := hcn10.2
  have hws := pOkL_wfS hok (by omega)
  refine lv_aload_n hx hb dX9_envelope_0 rfl (lv_at hl 0 rfl) ?_
  have hC1 := c_X9_begins l g b0 n f h Z ps hO hrg hz9 hps
  refine g_callVv (ci := 11) (C := RX9) (T := TX9) (N := 24) (As := []) (rest := []) ⟨hx, hb, hml, hown, hts⟩ hK hM hC1 (cuV (n := 0) hts u_1408 u_1405 u_10 (by decide) u_1407 us_54 ⟨Nat.le_of_ble_eq_true rfl, Nat.le_of_ble_eq_true rfl⟩) ⟨by omega, by omega⟩ hO rfl rfl hl.1 rfl (Nat.le_of_ble_eq_true rfl) dX9_envelope_1 ⟨Nat.zero_le _, Nat.zero_le _⟩ (fun f2 H locs hM hp3 => ?_)
  obtain ⟨hm4, o5⟩ := hp3
  have ho6 : f2 h = .inr (11, [.int (zI 0), .ref (h + 1), .ref (h + 2), .ref (h + 3), .ref (h + 4), .ref (h + 5), .ref (h + 6), .ref (h + 7), .ref (h + 8), .int (zI (Z 9)), .int (zI (Z 10)), .int (zI (↑(294 * ps) : Int)), .int (zI (Z 12)), .int (zI (Z 13)), .int (zI (Z 14)), .int (zI (Z 15)), .int (zI (Z 16)), .ref (h + 9), .ref (h + 10), .ref (h + 11), .int (zI (Z 20)), .int (zI (Z 21)), .int (zI (Z 22)), .ref (h + 12)]) := hm4
  refine lv_aload_n hx hb dX9_envelope_4 rfl (lv_at hl 0 rfl) ?_
  refine lv_iload_n hx hb dX9_envelope_5 rfl (lv_at hl 1 rfl) ?_
  have hf7 := hP.kept (fun q h1 h2 => (o5 (q) (by omega)))
  have hC8 := c_X9_isEnvelope l g b0 n f2 h (pu (pu Z 0 0) 11 (↑(294 * ps) : Int)) M (294 * ps) (P ps) a ho6 hf7 hrg (pu_s _ _ _) (by omega) hcn7 hra
  refine g_callVi (ci := 11) (C := RX9) (T := TX9) (N := 24) (As := [.int (zI a)]) (rest := []) ⟨hx, hb, hml, hown, hts⟩ hK hM hC8 (cuV (n := 1) hts u_1265 u_1262 u_10 (by decide) u_1264 us_34 ⟨Nat.le_of_ble_eq_true rfl, Nat.le_of_ble_eq_true rfl⟩) ⟨by omega, by omega⟩ ho6 rfl rfl hl.1 rfl (Nat.le_of_ble_eq_true rfl) dX9_envelope_6 ⟨Nat.zero_le _, Nat.zero_le _⟩ (fun r6 f9 H locs hM hp10 => ?_)
  obtain ⟨rfl, rfl⟩ := hp10
  refine g_ifb_ne (tgt := 19) hx hb dX9_envelope_9 (by decide) (fun c9 => ?_) (fun c9 => ?_)
  · skip
    refine lv_iload_n hx hb dX9_envelope_19 rfl (lv_at hl 2 rfl) ?_
    refine g_i2l hx hb dX9_envelope_20 hrb ?_
    refine g_lconst (z := 0) hx hb dX9_envelope_21 (by decide) ?_
    refine g_ldc2 (z := 4) hx hb hown (hts _ u_1413) dX9_envelope_22 (by decide) ?_
    have hC11 := c_X9_in l g b0 n f2 b 0 4 (rI_L hrb) (by decide) (by decide)
    refine g_callSi (As := [.long (zL b), .long (zL 0), .long (zL 4)]) (rest := []) ⟨hx, hb, hml, hown, hts⟩ hK hM hC11 (cuS (n := 3) hts u_1240 u_1238 u_10 (by decide) u_1239 ⟨Nat.le_of_ble_eq_true rfl, Nat.le_of_ble_eq_true rfl⟩) rfl hl.1 rfl (Nat.le_of_ble_eq_true rfl) dX9_envelope_25 ⟨Nat.zero_le _, Nat.zero_le _⟩ (fun r25 f12 H locs hM hp13 => ?_)
    obtain ⟨rfl, rfl⟩ := hp13
    refine g_ifb_ne (tgt := 38) hx hb dX9_envelope_28 (by decide) (fun c28 => ?_) (fun c28 => ?_)
    · skip
      have hae : ((a.toNat : Nat) : Int) = a := by omega
      obtain ⟨⟨hb1, hb2⟩, ⟨hb3, hb4⟩, hb5⟩ := hws.E.2 a.toNat (by omega)
      refine lv_iload_n hx hb dX9_envelope_38 rfl (lv_at hl 2 rfl) ?_
      refine g_iconst hx hb dX9_envelope_39 ?_
      refine g_icmp_ne (tgt := 72) hx hb dX9_envelope_40 (by decide) hrb (by decide) (fun c40 => ?_) (fun c40 => ?_)
      · skip
        refine lv_aload_n hx hb dX9_envelope_72 rfl (lv_at hl 0 rfl) ?_
        refine g_bipush hx hb dX9_envelope_73 (by decide) ?_
        refine g_iconst hx hb dX9_envelope_75 ?_
        refine lv_iload_n hx hb dX9_envelope_76 rfl (lv_at hl 1 rfl) ?_
        refine g_imul hx hb dX9_envelope_77 ?_
        refine g_iadd hx hb dX9_envelope_78 ?_
        refine lv_iload_n hx hb dX9_envelope_79 rfl (lv_at hl 2 rfl) ?_
        refine g_iconst hx hb dX9_envelope_80 ?_
        refine g_icmp_ne (tgt := 88) hx hb dX9_envelope_81 (by decide) hrb (by decide) (fun c81 => ?_) (fun c81 => ?_)
        · skip
          refine lv_iload_n hx hb dX9_envelope_88 rfl (lv_at hl 2 rfl) ?_
          refine g_iadd hx hb dX9_envelope_89 ?_
          have hC14 := c_X9_p l g b0 n f2 h (pu (pu Z 0 0) 11 (↑(294 * ps) : Int)) M (294 * ps) (P ps) ((11 + (4 * a)) + b) (11 + 4 * a.toNat + b.toNat) ho6 hf7 hrg (pu_s _ _ _) (by omega) (by omega) (by omega)
          refine g_callVl (ci := 11) (C := RX9) (T := TX9) (N := 24) (As := [.int (zI ((11 + (4 * a)) + b))]) (rest := []) ⟨hx, hb, hml, hown, hts⟩ hK hM hC14 (cuV (n := 1) hts u_1283 u_1280 u_10 (by decide) u_1282 us_37 ⟨Nat.le_of_ble_eq_true rfl, Nat.le_of_ble_eq_true rfl⟩) ⟨by omega, by omega⟩ ho6 rfl rfl hl.1 rfl (Nat.le_of_ble_eq_true rfl) dX9_envelope_90 ⟨Nat.zero_le _, Nat.zero_le _⟩ (fun r90 f15 H locs hM hp16 => ?_)
          obtain ⟨rfl, rfl⟩ := hp16
          have hf17 := hsc.kept (fun q h1 h2 => (o5 (q) (by omega)))
          refine g_lret hx hb hr hlk hK hM dX9_envelope_93 ?_
          have hcd : (cd2 (0 ≤ a ∧ a < P ps 7) (0 ≤ b ∧ b ≤ 4)) = 0 := cd2_y (by omega) (by omega)
          refine ⟨(pu (pu Z 0 0) 11 (↑(294 * ps) : Int)), (mov M (294 * ps) (P ps)), ho6, ((zKeep.rf.pu (by decide)).pu (by decide)), ?_, fun hh => ?_, hf7, fun j hj => rfl, hf17, (fun q hq => (o5 (q) (by omega)))⟩
          · exact hcd.symm
          · unfold sNumE
            rw [if_neg (show ¬ b.toNat = 3 by omega)]
            exact congrArg (fun j => zL (P ps j)) (by (repeat' split) <;> omega)
        · skip
          refine g_iconst hx hb dX9_envelope_84 ?_
          refine lv_goto (tgt := 89) hx hb dX9_envelope_85 (by decide) ?_
          refine g_iadd hx hb dX9_envelope_89 ?_
          have hC18 := c_X9_p l g b0 n f2 h (pu (pu Z 0 0) 11 (↑(294 * ps) : Int)) M (294 * ps) (P ps) ((11 + (4 * a)) + 3) (14 + 4 * a.toNat) ho6 hf7 hrg (pu_s _ _ _) (by omega) (by omega) (by omega)
          refine g_callVl (ci := 11) (C := RX9) (T := TX9) (N := 24) (As := [.int (zI ((11 + (4 * a)) + 3))]) (rest := []) ⟨hx, hb, hml, hown, hts⟩ hK hM hC18 (cuV (n := 1) hts u_1283 u_1280 u_10 (by decide) u_1282 us_37 ⟨Nat.le_of_ble_eq_true rfl, Nat.le_of_ble_eq_true rfl⟩) ⟨by omega, by omega⟩ ho6 rfl rfl hl.1 rfl (Nat.le_of_ble_eq_true rfl) dX9_envelope_90 ⟨Nat.zero_le _, Nat.zero_le _⟩ (fun r90 f19 H locs hM hp20 => ?_)
          obtain ⟨rfl, rfl⟩ := hp20
          have hf21 := hsc.kept (fun q h1 h2 => (o5 (q) (by omega)))
          refine g_lret hx hb hr hlk hK hM dX9_envelope_93 ?_
          have hcd : (cd2 (0 ≤ a ∧ a < P ps 7) (0 ≤ b ∧ b ≤ 4)) = 0 := cd2_y (by omega) (by omega)
          refine ⟨(pu (pu Z 0 0) 11 (↑(294 * ps) : Int)), (mov M (294 * ps) (P ps)), ho6, ((zKeep.rf.pu (by decide)).pu (by decide)), ?_, fun hh => ?_, hf7, fun j hj => rfl, hf21, (fun q hq => (o5 (q) (by omega)))⟩
          · exact hcd.symm
          · unfold sNumE
            rw [if_neg (show ¬ b.toNat = 3 by omega)]
            exact congrArg (fun j => zL (P ps j)) (by (repeat' split) <;> omega)
      · skip
        refine lv_aload_n hx hb dX9_envelope_43 rfl (lv_at hl 0 rfl) ?_
        refine g_bipush hx hb dX9_envelope_44 (by decide) ?_
        refine g_iconst hx hb dX9_envelope_46 ?_
        refine lv_iload_n hx hb dX9_envelope_47 rfl (lv_at hl 1 rfl) ?_
        refine g_imul hx hb dX9_envelope_48 ?_
        refine g_iadd hx hb dX9_envelope_49 ?_
        refine g_iconst hx hb dX9_envelope_50 ?_
        refine g_iadd hx hb dX9_envelope_51 ?_
        have hC22 := c_X9_p l g b0 n f2 h (pu (pu Z 0 0) 11 (↑(294 * ps) : Int)) M (294 * ps) (P ps) ((11 + (4 * a)) + 1) (12 + 4 * a.toNat) ho6 hf7 hrg (pu_s _ _ _) (by omega) (by omega) (by omega)
        refine g_callVl (ci := 11) (C := RX9) (T := TX9) (N := 24) (As := [.int (zI ((11 + (4 * a)) + 1))]) (rest := []) ⟨hx, hb, hml, hown, hts⟩ hK hM hC22 (cuV (n := 1) hts u_1283 u_1280 u_10 (by decide) u_1282 us_37 ⟨Nat.le_of_ble_eq_true rfl, Nat.le_of_ble_eq_true rfl⟩) ⟨by omega, by omega⟩ ho6 rfl rfl hl.1 rfl (Nat.le_of_ble_eq_true rfl) dX9_envelope_52 ⟨Nat.zero_le _, Nat.zero_le _⟩ (fun r52 f23 H locs hM hp24 => ?_)
        obtain ⟨rfl, rfl⟩ := hp24
        refine g_lconst (z := 0) hx hb dX9_envelope_55 (by decide) ?_
        refine g_lcmp_ge (tgt := 66) hx hb dX9_envelope_56 dX9_envelope_57 (by decide) ⟨by omega, by omega⟩ (by decide) (fun c56 => ?_) (fun c56 => ?_)
        · skip
          refine lv_aload_n hx hb dX9_envelope_66 rfl (lv_at hl 0 rfl) ?_
          refine lv_iload_n hx hb dX9_envelope_67 rfl (lv_at hl 1 rfl) ?_
          have hq25 := c_X9_roomIn l g b0 n f2 h (pu (pu Z 0 0) 11 (↑(294 * ps) : Int)) M (294 * ps) (P ps) a.toNat ho6 hf7 hrg (pu_s _ _ _) (by omega) (by omega) ⟨by omega, by omega⟩ ⟨by omega, by omega⟩
          rw [hae] at hq25
          have hC26 := hq25
          refine g_callVl (ci := 11) (C := RX9) (T := TX9) (N := 24) (As := [.int (zI a)]) (rest := []) ⟨hx, hb, hml, hown, hts⟩ hK hM hC26 (cuV (n := 1) hts u_1304 u_1301 u_10 (by decide) u_1303 us_42 ⟨Nat.le_of_ble_eq_true rfl, Nat.le_of_ble_eq_true rfl⟩) ⟨by omega, by omega⟩ ho6 rfl rfl hl.1 rfl (Nat.le_of_ble_eq_true rfl) dX9_envelope_68 ⟨Nat.zero_le _, Nat.zero_le _⟩ (fun r68 f27 H locs hM hp28 => ?_)
          obtain ⟨rfl, rfl⟩ := hp28
          have hf29 := hsc.kept (fun q h1 h2 => (o5 (q) (by omega)))
          refine g_lret hx hb hr hlk hK hM dX9_envelope_71 ?_
          have hcd : (cd2 (0 ≤ a ∧ a < P ps 7) (0 ≤ b ∧ b ≤ 4)) = 0 := cd2_y (by omega) (by omega)
          refine ⟨(pu (pu Z 0 0) 11 (↑(294 * ps) : Int)), (mov M (294 * ps) (P ps)), ho6, ((zKeep.rf.pu (by decide)).pu (by decide)), ?_, fun hh => ?_, hf7, fun j hj => rfl, hf29, (fun q hq => (o5 (q) (by omega)))⟩
          · exact hcd.symm
          · unfold sNumE
            rw [if_pos (show b.toNat = 3 by omega)]
            first | rw [if_pos (by omega)] | (rw [if_neg (by omega)]; unfold rmI; rw [if_neg (by omega)])
        · skip
          refine g_ldc2 (z := -1) hx hb hown (hts _ u_1236) dX9_envelope_60 (by decide) ?_
          refine lv_goto (tgt := 71) hx hb dX9_envelope_63 (by decide) ?_
          have hf30 := hsc.kept (fun q h1 h2 => (o5 (q) (by omega)))
          refine g_lret hx hb hr hlk hK hM dX9_envelope_71 ?_
          have hcd : (cd2 (0 ≤ a ∧ a < P ps 7) (0 ≤ b ∧ b ≤ 4)) = 0 := cd2_y (by omega) (by omega)
          refine ⟨(pu (pu Z 0 0) 11 (↑(294 * ps) : Int)), (mov M (294 * ps) (P ps)), ho6, ((zKeep.rf.pu (by decide)).pu (by decide)), ?_, fun hh => ?_, hf7, fun j hj => rfl, hf30, (fun q hq => (o5 (q) (by omega)))⟩
          · exact hcd.symm
          · unfold sNumE
            rw [if_pos (show b.toNat = 3 by omega)]
            first | rw [if_pos (by omega)] | (rw [if_neg (by omega)]; unfold rmI; rw [if_neg (by omega)])
    · skip
      refine lv_aload_n hx hb dX9_envelope_31 rfl (lv_at hl 0 rfl) ?_
      refine g_iconst hx hb dX9_envelope_32 ?_
      have hC31 := c_X9_fails l g b0 n f2 h (pu (pu Z 0 0) 11 (↑(294 * ps) : Int)) 2 ho6 hrg
      refine g_callVi (ci := 11) (C := RX9) (T := TX9) (N := 24) (As := [.int (zI 2)]) (rest := []) ⟨hx, hb, hml, hown, hts⟩ hK hM hC31 (cuV (n := 1) hts u_1412 u_1409 u_10 (by decide) u_1411 us_55 ⟨Nat.le_of_ble_eq_true rfl, Nat.le_of_ble_eq_true rfl⟩) ⟨by omega, by omega⟩ ho6 rfl rfl hl.1 rfl (Nat.le_of_ble_eq_true rfl) dX9_envelope_33 ⟨Nat.zero_le _, Nat.zero_le _⟩ (fun r33 f32 H locs hM hp33 => ?_)
      obtain ⟨rfl, hm34, o35⟩ := hp33
      have ho36 : f32 h = .inr (11, [.int (zI 2), .ref (h + 1), .ref (h + 2), .ref (h + 3), .ref (h + 4), .ref (h + 5), .ref (h + 6), .ref (h + 7), .ref (h + 8), .int (zI (Z 9)), .int (zI (Z 10)), .int (zI (↑(294 * ps) : Int)), .int (zI (Z 12)), .int (zI (Z 13)), .int (zI (Z 14)), .int (zI (Z 15)), .int (zI (Z 16)), .ref (h + 9), .ref (h + 10), .ref (h + 11), .int (zI (Z 20)), .int (zI (Z 21)), .int (zI (Z 22)), .ref (h + 12)]) := hm34
      refine g_i2l hx hb dX9_envelope_36 (by decide) ?_
      have hf37 := hf7.kept (fun q h1 h2 => (o35 (q) (by omega)))
      have hf38 := hsc.kept (fun q h1 h2 => ((o35 (q) (by omega)).trans (o5 (q) (by omega))))
      refine g_lret hx hb hr hlk hK hM dX9_envelope_37 ?_
      have hcd : (cd2 (0 ≤ a ∧ a < P ps 7) (0 ≤ b ∧ b ≤ 4)) = 2 := cd2_2 (by omega) (by omega)
      refine ⟨(pu (pu Z 0 2) 11 (↑(294 * ps) : Int)), (mov M (294 * ps) (P ps)), ho36, ((zKeep.rf.pu (by decide)).pu (by decide)), ?_, fun hh => ?_, hf37, fun j hj => rfl, hf38, (fun q hq => ((o35 (q) (by omega)).trans (o5 (q) (by omega))))⟩
      · exact hcd.symm
      · rw [hcd] at hh; exact absurd hh (by decide)
  · skip
    refine lv_aload_n hx hb dX9_envelope_12 rfl (lv_at hl 0 rfl) ?_
    refine g_iconst hx hb dX9_envelope_13 ?_
    have hC39 := c_X9_fails l g b0 n f2 h (pu (pu Z 0 0) 11 (↑(294 * ps) : Int)) 1 ho6 hrg
    refine g_callVi (ci := 11) (C := RX9) (T := TX9) (N := 24) (As := [.int (zI 1)]) (rest := []) ⟨hx, hb, hml, hown, hts⟩ hK hM hC39 (cuV (n := 1) hts u_1412 u_1409 u_10 (by decide) u_1411 us_55 ⟨Nat.le_of_ble_eq_true rfl, Nat.le_of_ble_eq_true rfl⟩) ⟨by omega, by omega⟩ ho6 rfl rfl hl.1 rfl (Nat.le_of_ble_eq_true rfl) dX9_envelope_14 ⟨Nat.zero_le _, Nat.zero_le _⟩ (fun r14 f40 H locs hM hp41 => ?_)
    obtain ⟨rfl, hm42, o43⟩ := hp41
    have ho44 : f40 h = .inr (11, [.int (zI 1), .ref (h + 1), .ref (h + 2), .ref (h + 3), .ref (h + 4), .ref (h + 5), .ref (h + 6), .ref (h + 7), .ref (h + 8), .int (zI (Z 9)), .int (zI (Z 10)), .int (zI (↑(294 * ps) : Int)), .int (zI (Z 12)), .int (zI (Z 13)), .int (zI (Z 14)), .int (zI (Z 15)), .int (zI (Z 16)), .ref (h + 9), .ref (h + 10), .ref (h + 11), .int (zI (Z 20)), .int (zI (Z 21)), .int (zI (Z 22)), .ref (h + 12)]) := hm42
    refine g_i2l hx hb dX9_envelope_17 (by decide) ?_
    have hf45 := hf7.kept (fun q h1 h2 => (o43 (q) (by omega)))
    have hf46 := hsc.kept (fun q h1 h2 => ((o43 (q) (by omega)).trans (o5 (q) (by omega))))
    refine g_lret hx hb hr hlk hK hM dX9_envelope_18 ?_
    have hcd : (cd2 (0 ≤ a ∧ a < P ps 7) (0 ≤ b ∧ b ≤ 4)) = 1 := cd2_1 (by omega)
    refine ⟨(pu (pu Z 0 1) 11 (↑(294 * ps) : Int)), (mov M (294 * ps) (P ps)), ho44, ((zKeep.rf.pu (by decide)).pu (by decide)), ?_, fun hh => ?_, hf45, fun j hj => rfl, hf46, (fun q hq => ((o43 (q) (by omega)).trans (o5 (q) (by omega))))⟩
    · exact hcd.symm
    · rw [hcd] at hh; exact absurd hh (by decide)

def po_X9_rule (g : gE) (f : gF) (h : Nat) (Z M : Nat → Int) (P : Nat → Nat → Int) (ps : Nat) (a b v0 : Int) : Int32 → gF → Prop := fun r f1 => ∃ Z1 M1 : Nat → Int, mdO f1 h Z1 ∧ zKeep Z Z1 ∧ Z1 0 = (cd2 (0 ≤ a ∧ a < P ps 8) (0 ≤ b ∧ b ≤ 2)) ∧ ((cd2 (0 ≤ a ∧ a < P ps 8) (0 ≤ b ∧ b ≤ 2)) = 0 → r = zI (P ps (51 + 3 * a.toNat + b.toNat))) ∧ arJ g f1 (h + 1) 2058 M1 ∧ (∀ j, j < 1764 → M1 j = mov M (294 * ps) (P ps) j) ∧ scrAt g f1 h ∧ ∀ q, (q < h ∨ (h + 2 ≤ q ∧ q < h + 9) ∨ h + 11 ≤ q) → f1 q = f q
set_option maxRecDepth 100000 in
set_option maxHeartbeats 1000000 in
/-- rule(r, what) -/
theorem c_X9_rule (l : Launch) (g : gE) (b0 n : Nat) (f : gF) (h : Nat) (Z M : Nat → Int) (P : Nat → Nat → Int) (ps : Nat) (a b v0 : Int) (hO : mdO f h Z) (hP : mpAt g f h M (294 * ps) (P ps)) (hrg : b0 ≤ h ∧ h + 13 ≤ b0 + n) (hsc : scrAt g f h) (hz9 : Z 9 = ↑ps) (hps : ps < 6) (hok : pOk (P ps) v0) (hv1 : 0 ≤ v0) (hv0 : v0 + 1800 ≤ 800000000) (hra : rI a) (hrb : rI b) : cI l yX9_rule cX9_rule 3 (some .int) 2 40 [.ref h, .int (zI a), .int (zI b)] g b0 n f (po_X9_rule g f h Z M P ps a b v0) := by
  refine gs_i (cc := cX9_rule) (maxL := 3) (ret := (some .int)) (by decide) (Nat.le_of_ble_eq_true rfl) ?_
  intro p e0 s m args below meth c ls hx hb hr hml hown hts hlk hK hM hl
  have hl : lv_has ls 3 [(0, .ref h), (1, .int (zI a)), (2, .int (zI b))] := hl
  have hcn7 := hok.1.1
  have hcn8 := hok.2.1.1
  have hcn9 := hok.2.2.1.1
  have hcn10 := hok.2.2.2.2.2.2.2.1
  have hcp7 := hcn7.1
  have hcp8 := hcn8.1
  have hcp9 := hcn9.1
  have hcp10 := hcn10.1
  have hcq7 := hcn7.2
  have hcq8 := hcn8.2
  have hcq9 := hcn9.2
  have hcq10 := hcn10.2
  have hws := pOkL_wfS hok (by omega)
  refine lv_aload_n hx hb dX9_rule_0 rfl (lv_at hl 0 rfl) ?_
  have hC1 := c_X9_begins l g b0 n f h Z ps hO hrg hz9 hps
  refine g_callVv (ci := 11) (C := RX9) (T := TX9) (N := 24) (As := []) (rest := []) ⟨hx, hb, hml, hown, hts⟩ hK hM hC1 (cuV (n := 0) hts u_1408 u_1405 u_10 (by decide) u_1407 us_54 ⟨Nat.le_of_ble_eq_true rfl, Nat.le_of_ble_eq_true rfl⟩) ⟨by omega, by omega⟩ hO rfl rfl hl.1 rfl (Nat.le_of_ble_eq_true rfl) dX9_rule_1 ⟨Nat.zero_le _, Nat.zero_le _⟩ (fun f2 H locs hM hp3 => ?_)
  obtain ⟨hm4, o5⟩ := hp3
  have ho6 : f2 h = .inr (11, [.int (zI 0), .ref (h + 1), .ref (h + 2), .ref (h + 3), .ref (h + 4), .ref (h + 5), .ref (h + 6), .ref (h + 7), .ref (h + 8), .int (zI (Z 9)), .int (zI (Z 10)), .int (zI (↑(294 * ps) : Int)), .int (zI (Z 12)), .int (zI (Z 13)), .int (zI (Z 14)), .int (zI (Z 15)), .int (zI (Z 16)), .ref (h + 9), .ref (h + 10), .ref (h + 11), .int (zI (Z 20)), .int (zI (Z 21)), .int (zI (Z 22)), .ref (h + 12)]) := hm4
  refine lv_iload_n hx hb dX9_rule_4 rfl (lv_at hl 1 rfl) ?_
  refine g_i2l hx hb dX9_rule_5 hra ?_
  refine g_lconst (z := 0) hx hb dX9_rule_6 (by decide) ?_
  refine lv_aload_n hx hb dX9_rule_7 rfl (lv_at hl 0 rfl) ?_
  refine g_bipush hx hb dX9_rule_8 (by decide) ?_
  have hf7 := hP.kept (fun q h1 h2 => (o5 (q) (by omega)))
  have hC8 := c_X9_n l g b0 n f2 h (pu (pu Z 0 0) 11 (↑(294 * ps) : Int)) M (294 * ps) (P ps) 8 (8) ho6 hf7 hrg (pu_s _ _ _) (by omega) (by omega) (by omega)
  refine g_callVi (ci := 11) (C := RX9) (T := TX9) (N := 24) (As := [.int (zI 8)]) (rest := [.long (zL 0), .long (zL a)]) ⟨hx, hb, hml, hown, hts⟩ hK hM hC8 (cuV (n := 1) hts u_1249 u_1246 u_10 (by decide) u_1248 us_30 ⟨Nat.le_of_ble_eq_true rfl, Nat.le_of_ble_eq_true rfl⟩) ⟨by omega, by omega⟩ ho6 rfl rfl hl.1 rfl (Nat.le_of_ble_eq_true rfl) dX9_rule_10 ⟨Nat.zero_le _, Nat.zero_le _⟩ (fun r10 f9 H locs hM hp10 => ?_)
  obtain ⟨rfl, rfl⟩ := hp10
  refine g_iconst hx hb dX9_rule_13 ?_
  refine g_isub hx hb dX9_rule_14 ?_
  refine g_i2l hx hb dX9_rule_15 ⟨by omega, by omega⟩ ?_
  have hC11 := c_X9_in l g b0 n f2 a 0 (((P ps) 8) - 1) (rI_L hra) (by decide) ⟨by omega, by omega⟩
  refine g_callSi (As := [.long (zL a), .long (zL 0), .long (zL (((P ps) 8) - 1))]) (rest := []) ⟨hx, hb, hml, hown, hts⟩ hK hM hC11 (cuS (n := 3) hts u_1240 u_1238 u_10 (by decide) u_1239 ⟨Nat.le_of_ble_eq_true rfl, Nat.le_of_ble_eq_true rfl⟩) rfl hl.1 rfl (Nat.le_of_ble_eq_true rfl) dX9_rule_16 ⟨Nat.zero_le _, Nat.zero_le _⟩ (fun r16 f12 H locs hM hp13 => ?_)
  obtain ⟨rfl, rfl⟩ := hp13
  refine g_ifb_ne (tgt := 28) hx hb dX9_rule_19 (by decide) (fun c19 => ?_) (fun c19 => ?_)
  · skip
    refine lv_iload_n hx hb dX9_rule_28 rfl (lv_at hl 2 rfl) ?_
    refine g_i2l hx hb dX9_rule_29 hrb ?_
    refine g_lconst (z := 0) hx hb dX9_rule_30 (by decide) ?_
    refine g_ldc2 (z := 2) hx hb hown (hts _ u_1241) dX9_rule_31 (by decide) ?_
    have hC14 := c_X9_in l g b0 n f2 b 0 2 (rI_L hrb) (by decide) (by decide)
    refine g_callSi (As := [.long (zL b), .long (zL 0), .long (zL 2)]) (rest := []) ⟨hx, hb, hml, hown, hts⟩ hK hM hC14 (cuS (n := 3) hts u_1240 u_1238 u_10 (by decide) u_1239 ⟨Nat.le_of_ble_eq_true rfl, Nat.le_of_ble_eq_true rfl⟩) rfl hl.1 rfl (Nat.le_of_ble_eq_true rfl) dX9_rule_34 ⟨Nat.zero_le _, Nat.zero_le _⟩ (fun r34 f15 H locs hM hp16 => ?_)
    obtain ⟨rfl, rfl⟩ := hp16
    refine g_ifb_eq (tgt := 55) hx hb dX9_rule_37 (by decide) (fun c37 => ?_) (fun c37 => ?_)
    · skip
      refine lv_aload_n hx hb dX9_rule_55 rfl (lv_at hl 0 rfl) ?_
      refine g_iconst hx hb dX9_rule_56 ?_
      have hC17 := c_X9_fails l g b0 n f2 h (pu (pu Z 0 0) 11 (↑(294 * ps) : Int)) 2 ho6 hrg
      refine g_callVi (ci := 11) (C := RX9) (T := TX9) (N := 24) (As := [.int (zI 2)]) (rest := []) ⟨hx, hb, hml, hown, hts⟩ hK hM hC17 (cuV (n := 1) hts u_1412 u_1409 u_10 (by decide) u_1411 us_55 ⟨Nat.le_of_ble_eq_true rfl, Nat.le_of_ble_eq_true rfl⟩) ⟨by omega, by omega⟩ ho6 rfl rfl hl.1 rfl (Nat.le_of_ble_eq_true rfl) dX9_rule_57 ⟨Nat.zero_le _, Nat.zero_le _⟩ (fun r57 f18 H locs hM hp19 => ?_)
      obtain ⟨rfl, hm20, o21⟩ := hp19
      have ho22 : f18 h = .inr (11, [.int (zI 2), .ref (h + 1), .ref (h + 2), .ref (h + 3), .ref (h + 4), .ref (h + 5), .ref (h + 6), .ref (h + 7), .ref (h + 8), .int (zI (Z 9)), .int (zI (Z 10)), .int (zI (↑(294 * ps) : Int)), .int (zI (Z 12)), .int (zI (Z 13)), .int (zI (Z 14)), .int (zI (Z 15)), .int (zI (Z 16)), .ref (h + 9), .ref (h + 10), .ref (h + 11), .int (zI (Z 20)), .int (zI (Z 21)), .int (zI (Z 22)), .ref (h + 12)]) := hm20
      have hf23 := hf7.kept (fun q h1 h2 => (o21 (q) (by omega)))
      have hf24 := hsc.kept (fun q h1 h2 => ((o21 (q) (by omega)).trans (o5 (q) (by omega))))
      refine g_iret hx hb hr hlk hK hM dX9_rule_60 ?_
      have hcd : (cd2 (0 ≤ a ∧ a < P ps 8) (0 ≤ b ∧ b ≤ 2)) = 2 := cd2_2 (by omega) (by omega)
      refine ⟨(pu (pu Z 0 2) 11 (↑(294 * ps) : Int)), (mov M (294 * ps) (P ps)), ho22, ((zKeep.rf.pu (by decide)).pu (by decide)), ?_, fun hh => ?_, hf23, fun j hj => rfl, hf24, (fun q hq => ((o21 (q) (by omega)).trans (o5 (q) (by omega))))⟩
      · exact hcd.symm
      · rw [hcd] at hh; exact absurd hh (by decide)
    · skip
      refine lv_aload_n hx hb dX9_rule_40 rfl (lv_at hl 0 rfl) ?_
      refine g_bipush hx hb dX9_rule_41 (by decide) ?_
      refine g_iconst hx hb dX9_rule_43 ?_
      refine lv_iload_n hx hb dX9_rule_44 rfl (lv_at hl 1 rfl) ?_
      refine g_imul hx hb dX9_rule_45 ?_
      refine g_iadd hx hb dX9_rule_46 ?_
      refine lv_iload_n hx hb dX9_rule_47 rfl (lv_at hl 2 rfl) ?_
      refine g_iadd hx hb dX9_rule_48 ?_
      have hC25 := c_X9_n l g b0 n f2 h (pu (pu Z 0 0) 11 (↑(294 * ps) : Int)) M (294 * ps) (P ps) ((51 + (3 * a)) + b) (51 + 3 * a.toNat + b.toNat) ho6 hf7 hrg (pu_s _ _ _) (by omega) (by omega) (by omega)
      refine g_callVi (ci := 11) (C := RX9) (T := TX9) (N := 24) (As := [.int (zI ((51 + (3 * a)) + b))]) (rest := []) ⟨hx, hb, hml, hown, hts⟩ hK hM hC25 (cuV (n := 1) hts u_1249 u_1246 u_10 (by decide) u_1248 us_30 ⟨Nat.le_of_ble_eq_true rfl, Nat.le_of_ble_eq_true rfl⟩) ⟨by omega, by omega⟩ ho6 rfl rfl hl.1 rfl (Nat.le_of_ble_eq_true rfl) dX9_rule_49 ⟨Nat.zero_le _, Nat.zero_le _⟩ (fun r49 f26 H locs hM hp27 => ?_)
      obtain ⟨rfl, rfl⟩ := hp27
      refine lv_goto (tgt := 60) hx hb dX9_rule_52 (by decide) ?_
      have hf28 := hsc.kept (fun q h1 h2 => (o5 (q) (by omega)))
      refine g_iret hx hb hr hlk hK hM dX9_rule_60 ?_
      have hcd : (cd2 (0 ≤ a ∧ a < P ps 8) (0 ≤ b ∧ b ≤ 2)) = 0 := cd2_y (by omega) (by omega)
      refine ⟨(pu (pu Z 0 0) 11 (↑(294 * ps) : Int)), (mov M (294 * ps) (P ps)), ho6, ((zKeep.rf.pu (by decide)).pu (by decide)), ?_, fun hh => ?_, hf7, fun j hj => rfl, hf28, (fun q hq => (o5 (q) (by omega)))⟩
      · exact hcd.symm
      · rfl
  · skip
    refine lv_aload_n hx hb dX9_rule_22 rfl (lv_at hl 0 rfl) ?_
    refine g_iconst hx hb dX9_rule_23 ?_
    have hC29 := c_X9_fails l g b0 n f2 h (pu (pu Z 0 0) 11 (↑(294 * ps) : Int)) 1 ho6 hrg
    refine g_callVi (ci := 11) (C := RX9) (T := TX9) (N := 24) (As := [.int (zI 1)]) (rest := []) ⟨hx, hb, hml, hown, hts⟩ hK hM hC29 (cuV (n := 1) hts u_1412 u_1409 u_10 (by decide) u_1411 us_55 ⟨Nat.le_of_ble_eq_true rfl, Nat.le_of_ble_eq_true rfl⟩) ⟨by omega, by omega⟩ ho6 rfl rfl hl.1 rfl (Nat.le_of_ble_eq_true rfl) dX9_rule_24 ⟨Nat.zero_le _, Nat.zero_le _⟩ (fun r24 f30 H locs hM hp31 => ?_)
    obtain ⟨rfl, hm32, o33⟩ := hp31
    have ho34 : f30 h = .inr (11, [.int (zI 1), .ref (h + 1), .ref (h + 2), .ref (h + 3), .ref (h + 4), .ref (h + 5), .ref (h + 6), .ref (h + 7), .ref (h + 8), .int (zI (Z 9)), .int (zI (Z 10)), .int (zI (↑(294 * ps) : Int)), .int (zI (Z 12)), .int (zI (Z 13)), .int (zI (Z 14)), .int (zI (Z 15)), .int (zI (Z 16)), .ref (h + 9), .ref (h + 10), .ref (h + 11), .int (zI (Z 20)), .int (zI (Z 21)), .int (zI (Z 22)), .ref (h + 12)]) := hm32
    have hf35 := hf7.kept (fun q h1 h2 => (o33 (q) (by omega)))
    have hf36 := hsc.kept (fun q h1 h2 => ((o33 (q) (by omega)).trans (o5 (q) (by omega))))
    refine g_iret hx hb hr hlk hK hM dX9_rule_27 ?_
    have hcd : (cd2 (0 ≤ a ∧ a < P ps 8) (0 ≤ b ∧ b ≤ 2)) = 1 := cd2_1 (by omega)
    refine ⟨(pu (pu Z 0 1) 11 (↑(294 * ps) : Int)), (mov M (294 * ps) (P ps)), ho34, ((zKeep.rf.pu (by decide)).pu (by decide)), ?_, fun hh => ?_, hf35, fun j hj => rfl, hf36, (fun q hq => ((o33 (q) (by omega)).trans (o5 (q) (by omega))))⟩
    · exact hcd.symm
    · rw [hcd] at hh; exact absurd hh (by decide)

def po_X9_link (g : gE) (f : gF) (h : Nat) (Z M : Nat → Int) (P : Nat → Nat → Int) (ps : Nat) (a b v0 : Int) : Int64 → gF → Prop := fun r f1 => ∃ Z1 M1 : Nat → Int, mdO f1 h Z1 ∧ zKeep Z Z1 ∧ Z1 0 = (cd2 (0 ≤ a ∧ a < P ps 9) (0 ≤ b ∧ b ≤ 4)) ∧ ((cd2 (0 ≤ a ∧ a < P ps 9) (0 ≤ b ∧ b ≤ 4)) = 0 → r = zL (P ps (69 + 5 * a.toNat + b.toNat))) ∧ arJ g f1 (h + 1) 2058 M1 ∧ (∀ j, j < 1764 → M1 j = mov M (294 * ps) (P ps) j) ∧ scrAt g f1 h ∧ ∀ q, (q < h ∨ (h + 2 ≤ q ∧ q < h + 9) ∨ h + 11 ≤ q) → f1 q = f q
set_option maxRecDepth 100000 in
set_option maxHeartbeats 1000000 in
/-- link(l, what) -/
theorem c_X9_link (l : Launch) (g : gE) (b0 n : Nat) (f : gF) (h : Nat) (Z M : Nat → Int) (P : Nat → Nat → Int) (ps : Nat) (a b v0 : Int) (hO : mdO f h Z) (hP : mpAt g f h M (294 * ps) (P ps)) (hrg : b0 ≤ h ∧ h + 13 ≤ b0 + n) (hsc : scrAt g f h) (hz9 : Z 9 = ↑ps) (hps : ps < 6) (hok : pOk (P ps) v0) (hv1 : 0 ≤ v0) (hv0 : v0 + 1800 ≤ 800000000) (hra : rI a) (hrb : rI b) : cL l yX9_link cX9_link 3 (some .long) 2 40 [.ref h, .int (zI a), .int (zI b)] g b0 n f (po_X9_link g f h Z M P ps a b v0) := by
  refine gs_l (cc := cX9_link) (maxL := 3) (ret := (some .long)) (by decide) (Nat.le_of_ble_eq_true rfl) ?_
  intro p e0 s m args below meth c ls hx hb hr hml hown hts hlk hK hM hl
  have hl : lv_has ls 3 [(0, .ref h), (1, .int (zI a)), (2, .int (zI b))] := hl
  have hcn7 := hok.1.1
  have hcn8 := hok.2.1.1
  have hcn9 := hok.2.2.1.1
  have hcn10 := hok.2.2.2.2.2.2.2.1
  have hcp7 := hcn7.1
  have hcp8 := hcn8.1
  have hcp9 := hcn9.1
  have hcp10 := hcn10.1
  have hcq7 := hcn7.2
  have hcq8 := hcn8.2
  have hcq9 := hcn9.2
  have hcq10 := hcn10.2
  have hws := pOkL_wfS hok (by omega)
  refine lv_aload_n hx hb dX9_link_0 rfl (lv_at hl 0 rfl) ?_
  have hC1 := c_X9_begins l g b0 n f h Z ps hO hrg hz9 hps
  refine g_callVv (ci := 11) (C := RX9) (T := TX9) (N := 24) (As := []) (rest := []) ⟨hx, hb, hml, hown, hts⟩ hK hM hC1 (cuV (n := 0) hts u_1408 u_1405 u_10 (by decide) u_1407 us_54 ⟨Nat.le_of_ble_eq_true rfl, Nat.le_of_ble_eq_true rfl⟩) ⟨by omega, by omega⟩ hO rfl rfl hl.1 rfl (Nat.le_of_ble_eq_true rfl) dX9_link_1 ⟨Nat.zero_le _, Nat.zero_le _⟩ (fun f2 H locs hM hp3 => ?_)
  obtain ⟨hm4, o5⟩ := hp3
  have ho6 : f2 h = .inr (11, [.int (zI 0), .ref (h + 1), .ref (h + 2), .ref (h + 3), .ref (h + 4), .ref (h + 5), .ref (h + 6), .ref (h + 7), .ref (h + 8), .int (zI (Z 9)), .int (zI (Z 10)), .int (zI (↑(294 * ps) : Int)), .int (zI (Z 12)), .int (zI (Z 13)), .int (zI (Z 14)), .int (zI (Z 15)), .int (zI (Z 16)), .ref (h + 9), .ref (h + 10), .ref (h + 11), .int (zI (Z 20)), .int (zI (Z 21)), .int (zI (Z 22)), .ref (h + 12)]) := hm4
  refine lv_iload_n hx hb dX9_link_4 rfl (lv_at hl 1 rfl) ?_
  refine g_i2l hx hb dX9_link_5 hra ?_
  refine g_lconst (z := 0) hx hb dX9_link_6 (by decide) ?_
  refine lv_aload_n hx hb dX9_link_7 rfl (lv_at hl 0 rfl) ?_
  refine g_bipush hx hb dX9_link_8 (by decide) ?_
  have hf7 := hP.kept (fun q h1 h2 => (o5 (q) (by omega)))
  have hC8 := c_X9_n l g b0 n f2 h (pu (pu Z 0 0) 11 (↑(294 * ps) : Int)) M (294 * ps) (P ps) 9 (9) ho6 hf7 hrg (pu_s _ _ _) (by omega) (by omega) (by omega)
  refine g_callVi (ci := 11) (C := RX9) (T := TX9) (N := 24) (As := [.int (zI 9)]) (rest := [.long (zL 0), .long (zL a)]) ⟨hx, hb, hml, hown, hts⟩ hK hM hC8 (cuV (n := 1) hts u_1249 u_1246 u_10 (by decide) u_1248 us_30 ⟨Nat.le_of_ble_eq_true rfl, Nat.le_of_ble_eq_true rfl⟩) ⟨by omega, by omega⟩ ho6 rfl rfl hl.1 rfl (Nat.le_of_ble_eq_true rfl) dX9_link_10 ⟨Nat.zero_le _, Nat.zero_le _⟩ (fun r10 f9 H locs hM hp10 => ?_)
  obtain ⟨rfl, rfl⟩ := hp10
  refine g_iconst hx hb dX9_link_13 ?_
  refine g_isub hx hb dX9_link_14 ?_
  refine g_i2l hx hb dX9_link_15 ⟨by omega, by omega⟩ ?_
  have hC11 := c_X9_in l g b0 n f2 a 0 (((P ps) 9) - 1) (rI_L hra) (by decide) ⟨by omega, by omega⟩
  refine g_callSi (As := [.long (zL a), .long (zL 0), .long (zL (((P ps) 9) - 1))]) (rest := []) ⟨hx, hb, hml, hown, hts⟩ hK hM hC11 (cuS (n := 3) hts u_1240 u_1238 u_10 (by decide) u_1239 ⟨Nat.le_of_ble_eq_true rfl, Nat.le_of_ble_eq_true rfl⟩) rfl hl.1 rfl (Nat.le_of_ble_eq_true rfl) dX9_link_16 ⟨Nat.zero_le _, Nat.zero_le _⟩ (fun r16 f12 H locs hM hp13 => ?_)
  obtain ⟨rfl, rfl⟩ := hp13
  refine g_ifb_ne (tgt := 29) hx hb dX9_link_19 (by decide) (fun c19 => ?_) (fun c19 => ?_)
  · skip
    refine lv_iload_n hx hb dX9_link_29 rfl (lv_at hl 2 rfl) ?_
    refine g_i2l hx hb dX9_link_30 hrb ?_
    refine g_lconst (z := 0) hx hb dX9_link_31 (by decide) ?_
    refine g_ldc2 (z := 4) hx hb hown (hts _ u_1413) dX9_link_32 (by decide) ?_
    have hC14 := c_X9_in l g b0 n f2 b 0 4 (rI_L hrb) (by decide) (by decide)
    refine g_callSi (As := [.long (zL b), .long (zL 0), .long (zL 4)]) (rest := []) ⟨hx, hb, hml, hown, hts⟩ hK hM hC14 (cuS (n := 3) hts u_1240 u_1238 u_10 (by decide) u_1239 ⟨Nat.le_of_ble_eq_true rfl, Nat.le_of_ble_eq_true rfl⟩) rfl hl.1 rfl (Nat.le_of_ble_eq_true rfl) dX9_link_35 ⟨Nat.zero_le _, Nat.zero_le _⟩ (fun r35 f15 H locs hM hp16 => ?_)
    obtain ⟨rfl, rfl⟩ := hp16
    refine g_ifb_eq (tgt := 56) hx hb dX9_link_38 (by decide) (fun c38 => ?_) (fun c38 => ?_)
    · skip
      refine lv_aload_n hx hb dX9_link_56 rfl (lv_at hl 0 rfl) ?_
      refine g_iconst hx hb dX9_link_57 ?_
      have hC17 := c_X9_fails l g b0 n f2 h (pu (pu Z 0 0) 11 (↑(294 * ps) : Int)) 2 ho6 hrg
      refine g_callVi (ci := 11) (C := RX9) (T := TX9) (N := 24) (As := [.int (zI 2)]) (rest := []) ⟨hx, hb, hml, hown, hts⟩ hK hM hC17 (cuV (n := 1) hts u_1412 u_1409 u_10 (by decide) u_1411 us_55 ⟨Nat.le_of_ble_eq_true rfl, Nat.le_of_ble_eq_true rfl⟩) ⟨by omega, by omega⟩ ho6 rfl rfl hl.1 rfl (Nat.le_of_ble_eq_true rfl) dX9_link_58 ⟨Nat.zero_le _, Nat.zero_le _⟩ (fun r58 f18 H locs hM hp19 => ?_)
      obtain ⟨rfl, hm20, o21⟩ := hp19
      have ho22 : f18 h = .inr (11, [.int (zI 2), .ref (h + 1), .ref (h + 2), .ref (h + 3), .ref (h + 4), .ref (h + 5), .ref (h + 6), .ref (h + 7), .ref (h + 8), .int (zI (Z 9)), .int (zI (Z 10)), .int (zI (↑(294 * ps) : Int)), .int (zI (Z 12)), .int (zI (Z 13)), .int (zI (Z 14)), .int (zI (Z 15)), .int (zI (Z 16)), .ref (h + 9), .ref (h + 10), .ref (h + 11), .int (zI (Z 20)), .int (zI (Z 21)), .int (zI (Z 22)), .ref (h + 12)]) := hm20
      refine g_i2l hx hb dX9_link_61 (by decide) ?_
      have hf23 := hf7.kept (fun q h1 h2 => (o21 (q) (by omega)))
      have hf24 := hsc.kept (fun q h1 h2 => ((o21 (q) (by omega)).trans (o5 (q) (by omega))))
      refine g_lret hx hb hr hlk hK hM dX9_link_62 ?_
      have hcd : (cd2 (0 ≤ a ∧ a < P ps 9) (0 ≤ b ∧ b ≤ 4)) = 2 := cd2_2 (by omega) (by omega)
      refine ⟨(pu (pu Z 0 2) 11 (↑(294 * ps) : Int)), (mov M (294 * ps) (P ps)), ho22, ((zKeep.rf.pu (by decide)).pu (by decide)), ?_, fun hh => ?_, hf23, fun j hj => rfl, hf24, (fun q hq => ((o21 (q) (by omega)).trans (o5 (q) (by omega))))⟩
      · exact hcd.symm
      · rw [hcd] at hh; exact absurd hh (by decide)
    · skip
      refine lv_aload_n hx hb dX9_link_41 rfl (lv_at hl 0 rfl) ?_
      refine g_bipush hx hb dX9_link_42 (by decide) ?_
      refine g_iconst hx hb dX9_link_44 ?_
      refine lv_iload_n hx hb dX9_link_45 rfl (lv_at hl 1 rfl) ?_
      refine g_imul hx hb dX9_link_46 ?_
      refine g_iadd hx hb dX9_link_47 ?_
      refine lv_iload_n hx hb dX9_link_48 rfl (lv_at hl 2 rfl) ?_
      refine g_iadd hx hb dX9_link_49 ?_
      have hC25 := c_X9_p l g b0 n f2 h (pu (pu Z 0 0) 11 (↑(294 * ps) : Int)) M (294 * ps) (P ps) ((69 + (5 * a)) + b) (69 + 5 * a.toNat + b.toNat) ho6 hf7 hrg (pu_s _ _ _) (by omega) (by omega) (by omega)
      refine g_callVl (ci := 11) (C := RX9) (T := TX9) (N := 24) (As := [.int (zI ((69 + (5 * a)) + b))]) (rest := []) ⟨hx, hb, hml, hown, hts⟩ hK hM hC25 (cuV (n := 1) hts u_1283 u_1280 u_10 (by decide) u_1282 us_37 ⟨Nat.le_of_ble_eq_true rfl, Nat.le_of_ble_eq_true rfl⟩) ⟨by omega, by omega⟩ ho6 rfl rfl hl.1 rfl (Nat.le_of_ble_eq_true rfl) dX9_link_50 ⟨Nat.zero_le _, Nat.zero_le _⟩ (fun r50 f26 H locs hM hp27 => ?_)
      obtain ⟨rfl, rfl⟩ := hp27
      refine lv_goto (tgt := 62) hx hb dX9_link_53 (by decide) ?_
      have hf28 := hsc.kept (fun q h1 h2 => (o5 (q) (by omega)))
      refine g_lret hx hb hr hlk hK hM dX9_link_62 ?_
      have hcd : (cd2 (0 ≤ a ∧ a < P ps 9) (0 ≤ b ∧ b ≤ 4)) = 0 := cd2_y (by omega) (by omega)
      refine ⟨(pu (pu Z 0 0) 11 (↑(294 * ps) : Int)), (mov M (294 * ps) (P ps)), ho6, ((zKeep.rf.pu (by decide)).pu (by decide)), ?_, fun hh => ?_, hf7, fun j hj => rfl, hf28, (fun q hq => (o5 (q) (by omega)))⟩
      · exact hcd.symm
      · rfl
  · skip
    refine lv_aload_n hx hb dX9_link_22 rfl (lv_at hl 0 rfl) ?_
    refine g_iconst hx hb dX9_link_23 ?_
    have hC29 := c_X9_fails l g b0 n f2 h (pu (pu Z 0 0) 11 (↑(294 * ps) : Int)) 1 ho6 hrg
    refine g_callVi (ci := 11) (C := RX9) (T := TX9) (N := 24) (As := [.int (zI 1)]) (rest := []) ⟨hx, hb, hml, hown, hts⟩ hK hM hC29 (cuV (n := 1) hts u_1412 u_1409 u_10 (by decide) u_1411 us_55 ⟨Nat.le_of_ble_eq_true rfl, Nat.le_of_ble_eq_true rfl⟩) ⟨by omega, by omega⟩ ho6 rfl rfl hl.1 rfl (Nat.le_of_ble_eq_true rfl) dX9_link_24 ⟨Nat.zero_le _, Nat.zero_le _⟩ (fun r24 f30 H locs hM hp31 => ?_)
    obtain ⟨rfl, hm32, o33⟩ := hp31
    have ho34 : f30 h = .inr (11, [.int (zI 1), .ref (h + 1), .ref (h + 2), .ref (h + 3), .ref (h + 4), .ref (h + 5), .ref (h + 6), .ref (h + 7), .ref (h + 8), .int (zI (Z 9)), .int (zI (Z 10)), .int (zI (↑(294 * ps) : Int)), .int (zI (Z 12)), .int (zI (Z 13)), .int (zI (Z 14)), .int (zI (Z 15)), .int (zI (Z 16)), .ref (h + 9), .ref (h + 10), .ref (h + 11), .int (zI (Z 20)), .int (zI (Z 21)), .int (zI (Z 22)), .ref (h + 12)]) := hm32
    refine g_i2l hx hb dX9_link_27 (by decide) ?_
    have hf35 := hf7.kept (fun q h1 h2 => (o33 (q) (by omega)))
    have hf36 := hsc.kept (fun q h1 h2 => ((o33 (q) (by omega)).trans (o5 (q) (by omega))))
    refine g_lret hx hb hr hlk hK hM dX9_link_28 ?_
    have hcd : (cd2 (0 ≤ a ∧ a < P ps 9) (0 ≤ b ∧ b ≤ 4)) = 1 := cd2_1 (by omega)
    refine ⟨(pu (pu Z 0 1) 11 (↑(294 * ps) : Int)), (mov M (294 * ps) (P ps)), ho34, ((zKeep.rf.pu (by decide)).pu (by decide)), ?_, fun hh => ?_, hf35, fun j hj => rfl, hf36, (fun q hq => ((o33 (q) (by omega)).trans (o5 (q) (by omega))))⟩
    · exact hcd.symm
    · rw [hcd] at hh; exact absurd hh (by decide)

def po_X9_item_ (g : gE) (f : gF) (h : Nat) (Z M : Nat → Int) (P : Nat → Nat → Int) (ps : Nat) (a b v0 : Int) : Int32 → gF → Prop := fun r f1 => ∃ Z1 M1 : Nat → Int, mdO f1 h Z1 ∧ zKeep Z Z1 ∧ Z1 0 = (cd2 (0 ≤ a ∧ a < P ps 10) (0 ≤ b ∧ b ≤ 5)) ∧ ((cd2 (0 ≤ a ∧ a < P ps 10) (0 ≤ b ∧ b ≤ 5)) = 0 → r = zI (P ps (99 + 6 * a.toNat + b.toNat))) ∧ arJ g f1 (h + 1) 2058 M1 ∧ (∀ j, j < 1764 → M1 j = mov M (294 * ps) (P ps) j) ∧ scrAt g f1 h ∧ ∀ q, (q < h ∨ (h + 2 ≤ q ∧ q < h + 9) ∨ h + 11 ≤ q) → f1 q = f q
set_option maxRecDepth 100000 in
set_option maxHeartbeats 1000000 in
/-- item(i, what) -/
theorem c_X9_item_ (l : Launch) (g : gE) (b0 n : Nat) (f : gF) (h : Nat) (Z M : Nat → Int) (P : Nat → Nat → Int) (ps : Nat) (a b v0 : Int) (hO : mdO f h Z) (hP : mpAt g f h M (294 * ps) (P ps)) (hrg : b0 ≤ h ∧ h + 13 ≤ b0 + n) (hsc : scrAt g f h) (hz9 : Z 9 = ↑ps) (hps : ps < 6) (hok : pOk (P ps) v0) (hv1 : 0 ≤ v0) (hv0 : v0 + 1800 ≤ 800000000) (hra : rI a) (hrb : rI b) : cI l yX9_item_ cX9_item_ 3 (some .int) 2 40 [.ref h, .int (zI a), .int (zI b)] g b0 n f (po_X9_item_ g f h Z M P ps a b v0) := by
  refine gs_i (cc := cX9_item_) (maxL := 3) (ret := (some .int)) (by decide) (Nat.le_of_ble_eq_true rfl) ?_
  intro p e0 s m args below meth c ls hx hb hr hml hown hts hlk hK hM hl
  have hl : lv_has ls 3 [(0, .ref h), (1, .int (zI a)), (2, .int (zI b))] := hl
  have hcn7 := hok.1.1
  have hcn8 := hok.2.1.1
  have hcn9 := hok.2.2.1.1
  have hcn10 := hok.2.2.2.2.2.2.2.1
  have hcp7 := hcn7.1
  have hcp8 := hcn8.1
  have hcp9 := hcn9.1
  have hcp10 := hcn10.1
  have hcq7 := hcn7.2
  have hcq8 := hcn8.2
  have hcq9 := hcn9.2
  have hcq10 := hcn10.2
  have hws := pOkL_wfS hok (by omega)
  refine lv_aload_n hx hb dX9_item__0 rfl (lv_at hl 0 rfl) ?_
  have hC1 := c_X9_begins l g b0 n f h Z ps hO hrg hz9 hps
  refine g_callVv (ci := 11) (C := RX9) (T := TX9) (N := 24) (As := []) (rest := []) ⟨hx, hb, hml, hown, hts⟩ hK hM hC1 (cuV (n := 0) hts u_1408 u_1405 u_10 (by decide) u_1407 us_54 ⟨Nat.le_of_ble_eq_true rfl, Nat.le_of_ble_eq_true rfl⟩) ⟨by omega, by omega⟩ hO rfl rfl hl.1 rfl (Nat.le_of_ble_eq_true rfl) dX9_item__1 ⟨Nat.zero_le _, Nat.zero_le _⟩ (fun f2 H locs hM hp3 => ?_)
  obtain ⟨hm4, o5⟩ := hp3
  have ho6 : f2 h = .inr (11, [.int (zI 0), .ref (h + 1), .ref (h + 2), .ref (h + 3), .ref (h + 4), .ref (h + 5), .ref (h + 6), .ref (h + 7), .ref (h + 8), .int (zI (Z 9)), .int (zI (Z 10)), .int (zI (↑(294 * ps) : Int)), .int (zI (Z 12)), .int (zI (Z 13)), .int (zI (Z 14)), .int (zI (Z 15)), .int (zI (Z 16)), .ref (h + 9), .ref (h + 10), .ref (h + 11), .int (zI (Z 20)), .int (zI (Z 21)), .int (zI (Z 22)), .ref (h + 12)]) := hm4
  refine lv_iload_n hx hb dX9_item__4 rfl (lv_at hl 1 rfl) ?_
  refine g_i2l hx hb dX9_item__5 hra ?_
  refine g_lconst (z := 0) hx hb dX9_item__6 (by decide) ?_
  refine lv_aload_n hx hb dX9_item__7 rfl (lv_at hl 0 rfl) ?_
  refine g_bipush hx hb dX9_item__8 (by decide) ?_
  have hf7 := hP.kept (fun q h1 h2 => (o5 (q) (by omega)))
  have hC8 := c_X9_n l g b0 n f2 h (pu (pu Z 0 0) 11 (↑(294 * ps) : Int)) M (294 * ps) (P ps) 10 (10) ho6 hf7 hrg (pu_s _ _ _) (by omega) (by omega) (by omega)
  refine g_callVi (ci := 11) (C := RX9) (T := TX9) (N := 24) (As := [.int (zI 10)]) (rest := [.long (zL 0), .long (zL a)]) ⟨hx, hb, hml, hown, hts⟩ hK hM hC8 (cuV (n := 1) hts u_1249 u_1246 u_10 (by decide) u_1248 us_30 ⟨Nat.le_of_ble_eq_true rfl, Nat.le_of_ble_eq_true rfl⟩) ⟨by omega, by omega⟩ ho6 rfl rfl hl.1 rfl (Nat.le_of_ble_eq_true rfl) dX9_item__10 ⟨Nat.zero_le _, Nat.zero_le _⟩ (fun r10 f9 H locs hM hp10 => ?_)
  obtain ⟨rfl, rfl⟩ := hp10
  refine g_iconst hx hb dX9_item__13 ?_
  refine g_isub hx hb dX9_item__14 ?_
  refine g_i2l hx hb dX9_item__15 ⟨by omega, by omega⟩ ?_
  have hC11 := c_X9_in l g b0 n f2 a 0 (((P ps) 10) - 1) (rI_L hra) (by decide) ⟨by omega, by omega⟩
  refine g_callSi (As := [.long (zL a), .long (zL 0), .long (zL (((P ps) 10) - 1))]) (rest := []) ⟨hx, hb, hml, hown, hts⟩ hK hM hC11 (cuS (n := 3) hts u_1240 u_1238 u_10 (by decide) u_1239 ⟨Nat.le_of_ble_eq_true rfl, Nat.le_of_ble_eq_true rfl⟩) rfl hl.1 rfl (Nat.le_of_ble_eq_true rfl) dX9_item__16 ⟨Nat.zero_le _, Nat.zero_le _⟩ (fun r16 f12 H locs hM hp13 => ?_)
  obtain ⟨rfl, rfl⟩ := hp13
  refine g_ifb_ne (tgt := 28) hx hb dX9_item__19 (by decide) (fun c19 => ?_) (fun c19 => ?_)
  · skip
    refine lv_iload_n hx hb dX9_item__28 rfl (lv_at hl 2 rfl) ?_
    refine g_i2l hx hb dX9_item__29 hrb ?_
    refine g_lconst (z := 0) hx hb dX9_item__30 (by decide) ?_
    refine g_ldc2 (z := 5) hx hb hown (hts _ u_1434) dX9_item__31 (by decide) ?_
    have hC14 := c_X9_in l g b0 n f2 b 0 5 (rI_L hrb) (by decide) (by decide)
    refine g_callSi (As := [.long (zL b), .long (zL 0), .long (zL 5)]) (rest := []) ⟨hx, hb, hml, hown, hts⟩ hK hM hC14 (cuS (n := 3) hts u_1240 u_1238 u_10 (by decide) u_1239 ⟨Nat.le_of_ble_eq_true rfl, Nat.le_of_ble_eq_true rfl⟩) rfl hl.1 rfl (Nat.le_of_ble_eq_true rfl) dX9_item__34 ⟨Nat.zero_le _, Nat.zero_le _⟩ (fun r34 f15 H locs hM hp16 => ?_)
    obtain ⟨rfl, rfl⟩ := hp16
    refine g_ifb_eq (tgt := 56) hx hb dX9_item__37 (by decide) (fun c37 => ?_) (fun c37 => ?_)
    · skip
      refine lv_aload_n hx hb dX9_item__56 rfl (lv_at hl 0 rfl) ?_
      refine g_iconst hx hb dX9_item__57 ?_
      have hC17 := c_X9_fails l g b0 n f2 h (pu (pu Z 0 0) 11 (↑(294 * ps) : Int)) 2 ho6 hrg
      refine g_callVi (ci := 11) (C := RX9) (T := TX9) (N := 24) (As := [.int (zI 2)]) (rest := []) ⟨hx, hb, hml, hown, hts⟩ hK hM hC17 (cuV (n := 1) hts u_1412 u_1409 u_10 (by decide) u_1411 us_55 ⟨Nat.le_of_ble_eq_true rfl, Nat.le_of_ble_eq_true rfl⟩) ⟨by omega, by omega⟩ ho6 rfl rfl hl.1 rfl (Nat.le_of_ble_eq_true rfl) dX9_item__58 ⟨Nat.zero_le _, Nat.zero_le _⟩ (fun r58 f18 H locs hM hp19 => ?_)
      obtain ⟨rfl, hm20, o21⟩ := hp19
      have ho22 : f18 h = .inr (11, [.int (zI 2), .ref (h + 1), .ref (h + 2), .ref (h + 3), .ref (h + 4), .ref (h + 5), .ref (h + 6), .ref (h + 7), .ref (h + 8), .int (zI (Z 9)), .int (zI (Z 10)), .int (zI (↑(294 * ps) : Int)), .int (zI (Z 12)), .int (zI (Z 13)), .int (zI (Z 14)), .int (zI (Z 15)), .int (zI (Z 16)), .ref (h + 9), .ref (h + 10), .ref (h + 11), .int (zI (Z 20)), .int (zI (Z 21)), .int (zI (Z 22)), .ref (h + 12)]) := hm20
      have hf23 := hf7.kept (fun q h1 h2 => (o21 (q) (by omega)))
      have hf24 := hsc.kept (fun q h1 h2 => ((o21 (q) (by omega)).trans (o5 (q) (by omega))))
      refine g_iret hx hb hr hlk hK hM dX9_item__61 ?_
      have hcd : (cd2 (0 ≤ a ∧ a < P ps 10) (0 ≤ b ∧ b ≤ 5)) = 2 := cd2_2 (by omega) (by omega)
      refine ⟨(pu (pu Z 0 2) 11 (↑(294 * ps) : Int)), (mov M (294 * ps) (P ps)), ho22, ((zKeep.rf.pu (by decide)).pu (by decide)), ?_, fun hh => ?_, hf23, fun j hj => rfl, hf24, (fun q hq => ((o21 (q) (by omega)).trans (o5 (q) (by omega))))⟩
      · exact hcd.symm
      · rw [hcd] at hh; exact absurd hh (by decide)
    · skip
      refine lv_aload_n hx hb dX9_item__40 rfl (lv_at hl 0 rfl) ?_
      refine g_bipush hx hb dX9_item__41 (by decide) ?_
      refine g_bipush hx hb dX9_item__43 (by decide) ?_
      refine lv_iload_n hx hb dX9_item__45 rfl (lv_at hl 1 rfl) ?_
      refine g_imul hx hb dX9_item__46 ?_
      refine g_iadd hx hb dX9_item__47 ?_
      refine lv_iload_n hx hb dX9_item__48 rfl (lv_at hl 2 rfl) ?_
      refine g_iadd hx hb dX9_item__49 ?_
      have hC25 := c_X9_n l g b0 n f2 h (pu (pu Z 0 0) 11 (↑(294 * ps) : Int)) M (294 * ps) (P ps) ((99 + (6 * a)) + b) (99 + 6 * a.toNat + b.toNat) ho6 hf7 hrg (pu_s _ _ _) (by omega) (by omega) (by omega)
      refine g_callVi (ci := 11) (C := RX9) (T := TX9) (N := 24) (As := [.int (zI ((99 + (6 * a)) + b))]) (rest := []) ⟨hx, hb, hml, hown, hts⟩ hK hM hC25 (cuV (n := 1) hts u_1249 u_1246 u_10 (by decide) u_1248 us_30 ⟨Nat.le_of_ble_eq_true rfl, Nat.le_of_ble_eq_true rfl⟩) ⟨by omega, by omega⟩ ho6 rfl rfl hl.1 rfl (Nat.le_of_ble_eq_true rfl) dX9_item__50 ⟨Nat.zero_le _, Nat.zero_le _⟩ (fun r50 f26 H locs hM hp27 => ?_)
      obtain ⟨rfl, rfl⟩ := hp27
      refine lv_goto (tgt := 61) hx hb dX9_item__53 (by decide) ?_
      have hf28 := hsc.kept (fun q h1 h2 => (o5 (q) (by omega)))
      refine g_iret hx hb hr hlk hK hM dX9_item__61 ?_
      have hcd : (cd2 (0 ≤ a ∧ a < P ps 10) (0 ≤ b ∧ b ≤ 5)) = 0 := cd2_y (by omega) (by omega)
      refine ⟨(pu (pu Z 0 0) 11 (↑(294 * ps) : Int)), (mov M (294 * ps) (P ps)), ho6, ((zKeep.rf.pu (by decide)).pu (by decide)), ?_, fun hh => ?_, hf7, fun j hj => rfl, hf28, (fun q hq => (o5 (q) (by omega)))⟩
      · exact hcd.symm
      · rfl
  · skip
    refine lv_aload_n hx hb dX9_item__22 rfl (lv_at hl 0 rfl) ?_
    refine g_iconst hx hb dX9_item__23 ?_
    have hC29 := c_X9_fails l g b0 n f2 h (pu (pu Z 0 0) 11 (↑(294 * ps) : Int)) 1 ho6 hrg
    refine g_callVi (ci := 11) (C := RX9) (T := TX9) (N := 24) (As := [.int (zI 1)]) (rest := []) ⟨hx, hb, hml, hown, hts⟩ hK hM hC29 (cuV (n := 1) hts u_1412 u_1409 u_10 (by decide) u_1411 us_55 ⟨Nat.le_of_ble_eq_true rfl, Nat.le_of_ble_eq_true rfl⟩) ⟨by omega, by omega⟩ ho6 rfl rfl hl.1 rfl (Nat.le_of_ble_eq_true rfl) dX9_item__24 ⟨Nat.zero_le _, Nat.zero_le _⟩ (fun r24 f30 H locs hM hp31 => ?_)
    obtain ⟨rfl, hm32, o33⟩ := hp31
    have ho34 : f30 h = .inr (11, [.int (zI 1), .ref (h + 1), .ref (h + 2), .ref (h + 3), .ref (h + 4), .ref (h + 5), .ref (h + 6), .ref (h + 7), .ref (h + 8), .int (zI (Z 9)), .int (zI (Z 10)), .int (zI (↑(294 * ps) : Int)), .int (zI (Z 12)), .int (zI (Z 13)), .int (zI (Z 14)), .int (zI (Z 15)), .int (zI (Z 16)), .ref (h + 9), .ref (h + 10), .ref (h + 11), .int (zI (Z 20)), .int (zI (Z 21)), .int (zI (Z 22)), .ref (h + 12)]) := hm32
    have hf35 := hf7.kept (fun q h1 h2 => (o33 (q) (by omega)))
    have hf36 := hsc.kept (fun q h1 h2 => ((o33 (q) (by omega)).trans (o5 (q) (by omega))))
    refine g_iret hx hb hr hlk hK hM dX9_item__27 ?_
    have hcd : (cd2 (0 ≤ a ∧ a < P ps 10) (0 ≤ b ∧ b ≤ 5)) = 1 := cd2_1 (by omega)
    refine ⟨(pu (pu Z 0 1) 11 (↑(294 * ps) : Int)), (mov M (294 * ps) (P ps)), ho34, ((zKeep.rf.pu (by decide)).pu (by decide)), ?_, fun hh => ?_, hf35, fun j hj => rfl, hf36, (fun q hq => ((o33 (q) (by omega)).trans (o5 (q) (by omega))))⟩
    · exact hcd.symm
    · rw [hcd] at hh; exact absurd hh (by decide)

def po_X9_balances (g : gE) (f : gF) (h : Nat) (Z M : Nat → Int) (aa : Nat) (P : Nat → Int) : Int64 → gF → Prop := fun r f1 => r = zL (sSum (fun k => P (11 + 4 * k)) (P 7).toNat) ∧ f = f1
set_option maxRecDepth 100000 in
set_option maxHeartbeats 1000000 in
/-- balances -/
theorem c_X9_balances (l : Launch) (g : gE) (b0 n : Nat) (f : gF) (h : Nat) (Z M : Nat → Int) (aa : Nat) (P : Nat → Int) (hO : mdO f h Z) (hP : mpAt g f h M aa P) (hrg : b0 ≤ h ∧ h + 13 ≤ b0 + n) (hat : Z 11 = ↑aa) (haa : aa + 147 ≤ 2058) (hcn7 : 0 ≤ P 7 ∧ P 7 ≤ 10) : cL l yX9_balances cX9_balances 4 (some .long) 1 21 [.ref h] g b0 n f (po_X9_balances g f h Z M aa P) := by
  refine gs_l (cc := cX9_balances) (maxL := 4) (ret := (some .long)) (by decide) (Nat.le_of_ble_eq_true rfl) ?_
  intro p e0 s m args below meth c ls hx hb hr hml hown hts hlk hK hM hl
  have hl : lv_has ls 4 [(0, .ref h)] := hl
  have hzn := hcn7.1
  have hzm := hcn7.2
  refine g_lconst (z := 0) hx hb dX9_balances_0 (by decide) ?_
  refine lv_lstore_n (lv' := [(1, .long (zL 0)), (0, .ref h)]) hx hb dX9_balances_1 rfl hl (by decide) rfl (fun ls hl => ?_)
  refine g_iconst hx hb dX9_balances_2 ?_
  refine lv_istore_n (lv' := [(3, .int (zI 0)), (1, .long (zL 0)), (0, .ref h)]) hx hb dX9_balances_3 rfl hl (by decide) rfl (fun ls hl => ?_)
  have lp4 : ∀ (k : Nat), ∀ (i : Nat) (H : Heap) (locs : List Loc) (ls : Array Slot), (10 - i < k) → ((i : Int) ≤ P 7) → gH g b0 n f s.heap H locs → lv_has ls 4 [(0, .ref h), (1, .long (zL (sSum (fun k => P (11 + 4 * k)) i))), (3, .int (zI (↑i : Int)))] → W p l e0 { frames := 1, cells := 0, slots := 0, locals := 21 } s m args below meth c H locs 0 0 (MQ below (va_Ql (po_X9_balances g f h Z M aa P) (gB g b0 n) (gA b0)) args s 0 0 (gA b0)) (F0 m 4 ls []) := by
    intro k
    induction k with
    | zero =>
      intro i H locs ls hk hi hM hl
      exact absurd hk (Nat.not_lt_zero _)
    | succ k ih4 =>
      intro i H locs ls hk hi hM hl
      refine lv_iload_n hx hb dX9_balances_4 rfl (lv_at hl 2 rfl) ?_
      refine lv_aload_n hx hb dX9_balances_5 rfl (lv_at hl 0 rfl) ?_
      refine g_bipush hx hb dX9_balances_6 (by decide) ?_
      have hC1 := c_X9_n l g b0 n f h Z M aa P 7 (7) hO hP hrg hat haa (by omega) (by omega)
      refine g_callVi (ci := 11) (C := RX9) (T := TX9) (N := 24) (As := [.int (zI 7)]) (rest := [.int (zI (↑i : Int))]) ⟨hx, hb, hml, hown, hts⟩ hK hM hC1 (cuV (n := 1) hts u_1249 u_1246 u_10 (by decide) u_1248 us_30 ⟨Nat.le_of_ble_eq_true rfl, Nat.le_of_ble_eq_true rfl⟩) ⟨by omega, by omega⟩ hO rfl rfl hl.1 rfl (Nat.le_of_ble_eq_true rfl) dX9_balances_8 ⟨Nat.zero_le _, Nat.zero_le _⟩ (fun r8 f2 H locs hM hp3 => ?_)
      obtain ⟨rfl, rfl⟩ := hp3
      refine g_icmp_ge (tgt := 33) hx hb dX9_balances_11 (by decide) ⟨by omega, by omega⟩ ⟨by omega, by omega⟩ (fun c11 => ?_) (fun c11 => ?_)
      · skip
        refine lv_lload_n hx hb dX9_balances_33 rfl (lv_at hl 1 rfl) ?_
        refine g_lret hx hb hr hlk hK hM dX9_balances_34 ?_
        refine ⟨?_, rfl⟩
        have hi2 : i = (P 7).toNat := by omega
        rw [hi2]
      · skip
        refine lv_lload_n hx hb dX9_balances_14 rfl (lv_at hl 1 rfl) ?_
        refine lv_aload_n hx hb dX9_balances_15 rfl (lv_at hl 0 rfl) ?_
        refine g_bipush hx hb dX9_balances_16 (by decide) ?_
        refine g_iconst hx hb dX9_balances_18 ?_
        refine lv_iload_n hx hb dX9_balances_19 rfl (lv_at hl 2 rfl) ?_
        refine g_imul hx hb dX9_balances_20 ?_
        refine g_iadd hx hb dX9_balances_21 ?_
        have hC4 := c_X9_p l g b0 n f h Z M aa P (11 + (4 * (↑i : Int))) (11 + 4 * i) hO hP hrg hat haa (by omega) (by omega)
        refine g_callVl (ci := 11) (C := RX9) (T := TX9) (N := 24) (As := [.int (zI (11 + (4 * (↑i : Int))))]) (rest := [.long (zL (sSum (fun k => P (11 + 4 * k)) i))]) ⟨hx, hb, hml, hown, hts⟩ hK hM hC4 (cuV (n := 1) hts u_1283 u_1280 u_10 (by decide) u_1282 us_37 ⟨Nat.le_of_ble_eq_true rfl, Nat.le_of_ble_eq_true rfl⟩) ⟨by omega, by omega⟩ hO rfl rfl hl.1 rfl (Nat.le_of_ble_eq_true rfl) dX9_balances_22 ⟨Nat.zero_le _, Nat.zero_le _⟩ (fun r22 f5 H locs hM hp6 => ?_)
        obtain ⟨rfl, rfl⟩ := hp6
        refine g_ladd hx hb dX9_balances_25 ?_
        refine lv_lstore_n (lv' := [(1, .long (zL ((sSum (fun k => P (11 + 4 * k)) i) + (P (11 + 4 * i))))), (0, .ref h), (3, .int (zI (↑i : Int)))]) hx hb dX9_balances_26 rfl hl (by decide) rfl (fun ls hl => ?_)
        refine lv_iinc (v := zI ((↑i : Int) + 1)) (lv' := [(3, .int (zI ((↑i : Int) + 1))), (1, .long (zL ((sSum (fun k => P (11 + 4 * k)) i) + (P (11 + 4 * i))))), (0, .ref h)]) hx hb dX9_balances_27 hl (k := 2) rfl (zI_add _ _) (by decide) rfl (fun ls hl => ?_)
        refine lv_goto (tgt := 4) hx hb dX9_balances_30 (by decide) ?_
        exact ih4 (i + 1) _ _ _ (by omega) (by omega) hM (lv_sub hl [2, 1, 0] rfl)
  exact lp4 (11) 0 _ _ _ (by omega) (by omega) hM (lv_sub hl [2, 1, 0] rfl)

def po_X9_totalOf (g : gE) (f : gF) (h : Nat) (Z M : Nat → Int) (aa : Nat) (P : Nat → Int) (a : Int) : Int64 → gF → Prop := fun r f1 => r = zL (sTt P a.toNat) ∧ f = f1
set_option maxRecDepth 100000 in
set_option maxHeartbeats 1000000 in
/-- totalOf -/
theorem c_X9_totalOf (l : Launch) (g : gE) (b0 n : Nat) (f : gF) (h : Nat) (Z M : Nat → Int) (aa : Nat) (P : Nat → Int) (a : Int) (hO : mdO f h Z) (hP : mpAt g f h M aa P) (hrg : b0 ≤ h ∧ h + 13 ≤ b0 + n) (hat : Z 11 = ↑aa) (haa : aa + 147 ≤ 2058) (hcn7 : 0 ≤ P 7 ∧ P 7 ≤ 10) (ha : 0 ≤ a ∧ a ≤ 11) : cL l yX9_totalOf cX9_totalOf 2 (some .long) 2 44 [.ref h, .int (zI a)] g b0 n f (po_X9_totalOf g f h Z M aa P a) := by
  refine gs_l (cc := cX9_totalOf) (maxL := 2) (ret := (some .long)) (by decide) (Nat.le_of_ble_eq_true rfl) ?_
  intro p e0 s m args below meth c ls hx hb hr hml hown hts hlk hK hM hl
  have hl : lv_has ls 2 [(0, .ref h), (1, .int (zI a))] := hl
  have ha1 := ha.1
  have ha2 := ha.2
  refine lv_iload_n hx hb dX9_totalOf_0 rfl (lv_at hl 1 rfl) ?_
  have hz1 := zI_toInt (z := a) ⟨by omega, by omega⟩
  rcases g_sw (0) (7) a with c1 | c1
  · refine lv_tableOut (tgt := 96) hx hb dX9_totalOf_1 (by rw [hz1]; exact c1) (by decide) ?_
    refine lv_aload_n hx hb dX9_totalOf_96 rfl (lv_at hl 0 rfl) ?_
    refine g_bipush hx hb dX9_totalOf_97 (by decide) ?_
    refine lv_iload_n hx hb dX9_totalOf_99 rfl (lv_at hl 1 rfl) ?_
    refine g_iadd hx hb dX9_totalOf_100 ?_
    refine g_bipush hx hb dX9_totalOf_101 (by decide) ?_
    refine g_isub hx hb dX9_totalOf_103 ?_
    have hC1 := c_X9_p l g b0 n f h Z M aa P ((7 + a) - 8) (a.toNat - 1) hO hP hrg hat haa (by omega) (by omega)
    refine g_callVl (ci := 11) (C := RX9) (T := TX9) (N := 24) (As := [.int (zI ((7 + a) - 8))]) (rest := []) ⟨hx, hb, hml, hown, hts⟩ hK hM hC1 (cuV (n := 1) hts u_1283 u_1280 u_10 (by decide) u_1282 us_37 ⟨Nat.le_of_ble_eq_true rfl, Nat.le_of_ble_eq_true rfl⟩) ⟨by omega, by omega⟩ hO rfl rfl hl.1 rfl (Nat.le_of_ble_eq_true rfl) dX9_totalOf_104 ⟨Nat.zero_le _, Nat.zero_le _⟩ (fun r104 f2 H locs hM hp3 => ?_)
    obtain ⟨rfl, rfl⟩ := hp3
    refine g_lret hx hb hr hlk hK hM dX9_totalOf_107 ?_
    refine ⟨?_, rfl⟩
    unfold sTt
    rw [if_neg (by omega), if_neg (by omega), if_neg (by omega), if_neg (by omega), if_neg (by omega), if_neg (by omega)]
  · rcases (show a = 0 ∨ a = 1 ∨ a = 2 ∨ a = 3 ∨ a = 4 ∨ a = 5 ∨ a = 6 ∨ a = 7 by omega) with c1 | c1 | c1 | c1 | c1 | c1 | c1 | c1
    · refine lv_tableIn (off := 47) (tgt := 48) hx hb dX9_totalOf_1 (by rw [hz1, c1]; decide) (by rw [hz1, c1]; decide) (by rw [hz1, c1]; decide) (by decide) ?_
      subst c1
      refine lv_aload_n hx hb dX9_totalOf_48 rfl (lv_at hl 0 rfl) ?_
      refine g_iconst hx hb dX9_totalOf_49 ?_
      have hC4 := c_X9_p l g b0 n f h Z M aa P 0 (0) hO hP hrg hat haa (by omega) (by omega)
      refine g_callVl (ci := 11) (C := RX9) (T := TX9) (N := 24) (As := [.int (zI 0)]) (rest := []) ⟨hx, hb, hml, hown, hts⟩ hK hM hC4 (cuV (n := 1) hts u_1283 u_1280 u_10 (by decide) u_1282 us_37 ⟨Nat.le_of_ble_eq_true rfl, Nat.le_of_ble_eq_true rfl⟩) ⟨by omega, by omega⟩ hO rfl rfl hl.1 rfl (Nat.le_of_ble_eq_true rfl) dX9_totalOf_50 ⟨Nat.zero_le _, Nat.zero_le _⟩ (fun r50 f5 H locs hM hp6 => ?_)
      obtain ⟨rfl, rfl⟩ := hp6
      refine g_lret hx hb hr hlk hK hM dX9_totalOf_53 ?_
      exact ⟨rfl, rfl⟩
    · refine lv_tableIn (off := 53) (tgt := 54) hx hb dX9_totalOf_1 (by rw [hz1, c1]; decide) (by rw [hz1, c1]; decide) (by rw [hz1, c1]; decide) (by decide) ?_
      subst c1
      refine lv_aload_n hx hb dX9_totalOf_54 rfl (lv_at hl 0 rfl) ?_
      have hC7 := c_X9_balances l g b0 n f h Z M aa P  hO hP hrg hat haa hcn7
      refine g_callVl (ci := 11) (C := RX9) (T := TX9) (N := 24) (As := []) (rest := []) ⟨hx, hb, hml, hown, hts⟩ hK hM hC7 (cuV (n := 0) hts u_1447 u_1444 u_10 (by decide) u_1446 us_58 ⟨Nat.le_of_ble_eq_true rfl, Nat.le_of_ble_eq_true rfl⟩) ⟨by omega, by omega⟩ hO rfl rfl hl.1 rfl (Nat.le_of_ble_eq_true rfl) dX9_totalOf_55 ⟨Nat.zero_le _, Nat.zero_le _⟩ (fun r55 f8 H locs hM hp9 => ?_)
      obtain ⟨rfl, rfl⟩ := hp9
      refine g_lret hx hb hr hlk hK hM dX9_totalOf_58 ?_
      exact ⟨rfl, rfl⟩
    · refine lv_tableIn (off := 58) (tgt := 59) hx hb dX9_totalOf_1 (by rw [hz1, c1]; decide) (by rw [hz1, c1]; decide) (by rw [hz1, c1]; decide) (by decide) ?_
      subst c1
      refine lv_aload_n hx hb dX9_totalOf_59 rfl (lv_at hl 0 rfl) ?_
      refine g_iconst hx hb dX9_totalOf_60 ?_
      have hC10 := c_X9_p l g b0 n f h Z M aa P 2 (2) hO hP hrg hat haa (by omega) (by omega)
      refine g_callVl (ci := 11) (C := RX9) (T := TX9) (N := 24) (As := [.int (zI 2)]) (rest := []) ⟨hx, hb, hml, hown, hts⟩ hK hM hC10 (cuV (n := 1) hts u_1283 u_1280 u_10 (by decide) u_1282 us_37 ⟨Nat.le_of_ble_eq_true rfl, Nat.le_of_ble_eq_true rfl⟩) ⟨by omega, by omega⟩ hO rfl rfl hl.1 rfl (Nat.le_of_ble_eq_true rfl) dX9_totalOf_61 ⟨Nat.zero_le _, Nat.zero_le _⟩ (fun r61 f11 H locs hM hp12 => ?_)
      obtain ⟨rfl, rfl⟩ := hp12
      refine g_lret hx hb hr hlk hK hM dX9_totalOf_64 ?_
      exact ⟨rfl, rfl⟩
    · refine lv_tableIn (off := 64) (tgt := 65) hx hb dX9_totalOf_1 (by rw [hz1, c1]; decide) (by rw [hz1, c1]; decide) (by rw [hz1, c1]; decide) (by decide) ?_
      subst c1
      refine lv_aload_n hx hb dX9_totalOf_65 rfl (lv_at hl 0 rfl) ?_
      refine g_iconst hx hb dX9_totalOf_66 ?_
      have hC13 := c_X9_p l g b0 n f h Z M aa P 3 (3) hO hP hrg hat haa (by omega) (by omega)
      refine g_callVl (ci := 11) (C := RX9) (T := TX9) (N := 24) (As := [.int (zI 3)]) (rest := []) ⟨hx, hb, hml, hown, hts⟩ hK hM hC13 (cuV (n := 1) hts u_1283 u_1280 u_10 (by decide) u_1282 us_37 ⟨Nat.le_of_ble_eq_true rfl, Nat.le_of_ble_eq_true rfl⟩) ⟨by omega, by omega⟩ hO rfl rfl hl.1 rfl (Nat.le_of_ble_eq_true rfl) dX9_totalOf_67 ⟨Nat.zero_le _, Nat.zero_le _⟩ (fun r67 f14 H locs hM hp15 => ?_)
      obtain ⟨rfl, rfl⟩ := hp15
      refine g_lret hx hb hr hlk hK hM dX9_totalOf_70 ?_
      exact ⟨rfl, rfl⟩
    · refine lv_tableIn (off := 70) (tgt := 71) hx hb dX9_totalOf_1 (by rw [hz1, c1]; decide) (by rw [hz1, c1]; decide) (by rw [hz1, c1]; decide) (by decide) ?_
      subst c1
      refine lv_aload_n hx hb dX9_totalOf_71 rfl (lv_at hl 0 rfl) ?_
      refine g_iconst hx hb dX9_totalOf_72 ?_
      have hC16 := c_X9_p l g b0 n f h Z M aa P 4 (4) hO hP hrg hat haa (by omega) (by omega)
      refine g_callVl (ci := 11) (C := RX9) (T := TX9) (N := 24) (As := [.int (zI 4)]) (rest := []) ⟨hx, hb, hml, hown, hts⟩ hK hM hC16 (cuV (n := 1) hts u_1283 u_1280 u_10 (by decide) u_1282 us_37 ⟨Nat.le_of_ble_eq_true rfl, Nat.le_of_ble_eq_true rfl⟩) ⟨by omega, by omega⟩ hO rfl rfl hl.1 rfl (Nat.le_of_ble_eq_true rfl) dX9_totalOf_73 ⟨Nat.zero_le _, Nat.zero_le _⟩ (fun r73 f17 H locs hM hp18 => ?_)
      obtain ⟨rfl, rfl⟩ := hp18
      refine g_lret hx hb hr hlk hK hM dX9_totalOf_76 ?_
      exact ⟨rfl, rfl⟩
    · refine lv_tableIn (off := 76) (tgt := 77) hx hb dX9_totalOf_1 (by rw [hz1, c1]; decide) (by rw [hz1, c1]; decide) (by rw [hz1, c1]; decide) (by decide) ?_
      subst c1
      refine lv_aload_n hx hb dX9_totalOf_77 rfl (lv_at hl 0 rfl) ?_
      refine g_iconst hx hb dX9_totalOf_78 ?_
      have hC19 := c_X9_p l g b0 n f h Z M aa P 1 (1) hO hP hrg hat haa (by omega) (by omega)
      refine g_callVl (ci := 11) (C := RX9) (T := TX9) (N := 24) (As := [.int (zI 1)]) (rest := []) ⟨hx, hb, hml, hown, hts⟩ hK hM hC19 (cuV (n := 1) hts u_1283 u_1280 u_10 (by decide) u_1282 us_37 ⟨Nat.le_of_ble_eq_true rfl, Nat.le_of_ble_eq_true rfl⟩) ⟨by omega, by omega⟩ hO rfl rfl hl.1 rfl (Nat.le_of_ble_eq_true rfl) dX9_totalOf_79 ⟨Nat.zero_le _, Nat.zero_le _⟩ (fun r79 f20 H locs hM hp21 => ?_)
      obtain ⟨rfl, rfl⟩ := hp21
      refine g_lret hx hb hr hlk hK hM dX9_totalOf_82 ?_
      exact ⟨rfl, rfl⟩
    · refine lv_tableIn (off := 82) (tgt := 83) hx hb dX9_totalOf_1 (by rw [hz1, c1]; decide) (by rw [hz1, c1]; decide) (by rw [hz1, c1]; decide) (by decide) ?_
      subst c1
      refine lv_aload_n hx hb dX9_totalOf_83 rfl (lv_at hl 0 rfl) ?_
      refine g_iconst hx hb dX9_totalOf_84 ?_
      have hC22 := c_X9_p l g b0 n f h Z M aa P 5 (5) hO hP hrg hat haa (by omega) (by omega)
      refine g_callVl (ci := 11) (C := RX9) (T := TX9) (N := 24) (As := [.int (zI 5)]) (rest := []) ⟨hx, hb, hml, hown, hts⟩ hK hM hC22 (cuV (n := 1) hts u_1283 u_1280 u_10 (by decide) u_1282 us_37 ⟨Nat.le_of_ble_eq_true rfl, Nat.le_of_ble_eq_true rfl⟩) ⟨by omega, by omega⟩ hO rfl rfl hl.1 rfl (Nat.le_of_ble_eq_true rfl) dX9_totalOf_85 ⟨Nat.zero_le _, Nat.zero_le _⟩ (fun r85 f23 H locs hM hp24 => ?_)
      obtain ⟨rfl, rfl⟩ := hp24
      refine g_lret hx hb hr hlk hK hM dX9_totalOf_88 ?_
      exact ⟨rfl, rfl⟩
    · refine lv_tableIn (off := 88) (tgt := 89) hx hb dX9_totalOf_1 (by rw [hz1, c1]; decide) (by rw [hz1, c1]; decide) (by rw [hz1, c1]; decide) (by decide) ?_
      subst c1
      refine lv_aload_n hx hb dX9_totalOf_89 rfl (lv_at hl 0 rfl) ?_
      refine g_bipush hx hb dX9_totalOf_90 (by decide) ?_
      have hC25 := c_X9_p l g b0 n f h Z M aa P 6 (6) hO hP hrg hat haa (by omega) (by omega)
      refine g_callVl (ci := 11) (C := RX9) (T := TX9) (N := 24) (As := [.int (zI 6)]) (rest := []) ⟨hx, hb, hml, hown, hts⟩ hK hM hC25 (cuV (n := 1) hts u_1283 u_1280 u_10 (by decide) u_1282 us_37 ⟨Nat.le_of_ble_eq_true rfl, Nat.le_of_ble_eq_true rfl⟩) ⟨by omega, by omega⟩ hO rfl rfl hl.1 rfl (Nat.le_of_ble_eq_true rfl) dX9_totalOf_92 ⟨Nat.zero_le _, Nat.zero_le _⟩ (fun r92 f26 H locs hM hp27 => ?_)
      obtain ⟨rfl, rfl⟩ := hp27
      refine g_lret hx hb hr hlk hK hM dX9_totalOf_95 ?_
      exact ⟨rfl, rfl⟩

def po_X9_total (g : gE) (f : gF) (h : Nat) (Z M : Nat → Int) (P : Nat → Nat → Int) (ps : Nat) (a v0 : Int) : Int64 → gF → Prop := fun r f1 => ∃ Z1 M1 : Nat → Int, mdO f1 h Z1 ∧ zKeep Z Z1 ∧ Z1 0 = (cd1 (0 ≤ a ∧ a ≤ 11)) ∧ ((cd1 (0 ≤ a ∧ a ≤ 11)) = 0 → r = zL (sTt (P ps) a.toNat)) ∧ arJ g f1 (h + 1) 2058 M1 ∧ (∀ j, j < 1764 → M1 j = mov M (294 * ps) (P ps) j) ∧ scrAt g f1 h ∧ ∀ q, (q < h ∨ (h + 2 ≤ q ∧ q < h + 9) ∨ h + 11 ≤ q) → f1 q = f q
set_option maxRecDepth 100000 in
set_option maxHeartbeats 1000000 in
/-- total(what) -/
theorem c_X9_total (l : Launch) (g : gE) (b0 n : Nat) (f : gF) (h : Nat) (Z M : Nat → Int) (P : Nat → Nat → Int) (ps : Nat) (a v0 : Int) (hO : mdO f h Z) (hP : mpAt g f h M (294 * ps) (P ps)) (hrg : b0 ≤ h ∧ h + 13 ≤ b0 + n) (hsc : scrAt g f h) (hz9 : Z 9 = ↑ps) (hps : ps < 6) (hok : pOk (P ps) v0) (hv1 : 0 ≤ v0) (hv0 : v0 + 1800 ≤ 800000000) (hra : rI a) : cL l yX9_total cX9_total 2 (some .long) 3 65 [.ref h, .int (zI a)] g b0 n f (po_X9_total g f h Z M P ps a v0) := by
  refine gs_l (cc := cX9_total) (maxL := 2) (ret := (some .long)) (by decide) (Nat.le_of_ble_eq_true rfl) ?_
  intro p e0 s m args below meth c ls hx hb hr hml hown hts hlk hK hM hl
  have hl : lv_has ls 2 [(0, .ref h), (1, .int (zI a))] := hl
  have hcn7 := hok.1.1
  have hcn8 := hok.2.1.1
  have hcn9 := hok.2.2.1.1
  have hcn10 := hok.2.2.2.2.2.2.2.1
  have hcp7 := hcn7.1
  have hcp8 := hcn8.1
  have hcp9 := hcn9.1
  have hcp10 := hcn10.1
  have hcq7 := hcn7.2
  have hcq8 := hcn8.2
  have hcq9 := hcn9.2
  have hcq10 := hcn10.2
  have hws := pOkL_wfS hok (by omega)
  refine lv_aload_n hx hb dX9_total_0 rfl (lv_at hl 0 rfl) ?_
  have hC1 := c_X9_begins l g b0 n f h Z ps hO hrg hz9 hps
  refine g_callVv (ci := 11) (C := RX9) (T := TX9) (N := 24) (As := []) (rest := []) ⟨hx, hb, hml, hown, hts⟩ hK hM hC1 (cuV (n := 0) hts u_1408 u_1405 u_10 (by decide) u_1407 us_54 ⟨Nat.le_of_ble_eq_true rfl, Nat.le_of_ble_eq_true rfl⟩) ⟨by omega, by omega⟩ hO rfl rfl hl.1 rfl (Nat.le_of_ble_eq_true rfl) dX9_total_1 ⟨Nat.zero_le _, Nat.zero_le _⟩ (fun f2 H locs hM hp3 => ?_)
  obtain ⟨hm4, o5⟩ := hp3
  have ho6 : f2 h = .inr (11, [.int (zI 0), .ref (h + 1), .ref (h + 2), .ref (h + 3), .ref (h + 4), .ref (h + 5), .ref (h + 6), .ref (h + 7), .ref (h + 8), .int (zI (Z 9)), .int (zI (Z 10)), .int (zI (↑(294 * ps) : Int)), .int (zI (Z 12)), .int (zI (Z 13)), .int (zI (Z 14)), .int (zI (Z 15)), .int (zI (Z 16)), .ref (h + 9), .ref (h + 10), .ref (h + 11), .int (zI (Z 20)), .int (zI (Z 21)), .int (zI (Z 22)), .ref (h + 12)]) := hm4
  refine lv_iload_n hx hb dX9_total_4 rfl (lv_at hl 1 rfl) ?_
  refine g_i2l hx hb dX9_total_5 hra ?_
  refine g_lconst (z := 0) hx hb dX9_total_6 (by decide) ?_
  refine g_ldc2 (z := 11) hx hb hown (hts _ u_1439) dX9_total_7 (by decide) ?_
  have hC7 := c_X9_in l g b0 n f2 a 0 11 (rI_L hra) (by decide) (by decide)
  refine g_callSi (As := [.long (zL a), .long (zL 0), .long (zL 11)]) (rest := []) ⟨hx, hb, hml, hown, hts⟩ hK hM hC7 (cuS (n := 3) hts u_1240 u_1238 u_10 (by decide) u_1239 ⟨Nat.le_of_ble_eq_true rfl, Nat.le_of_ble_eq_true rfl⟩) rfl hl.1 rfl (Nat.le_of_ble_eq_true rfl) dX9_total_10 ⟨Nat.zero_le _, Nat.zero_le _⟩ (fun r10 f8 H locs hM hp9 => ?_)
  obtain ⟨rfl, rfl⟩ := hp9
  refine g_ifb_eq (tgt := 24) hx hb dX9_total_13 (by decide) (fun c13 => ?_) (fun c13 => ?_)
  · skip
    refine lv_aload_n hx hb dX9_total_24 rfl (lv_at hl 0 rfl) ?_
    refine g_iconst hx hb dX9_total_25 ?_
    have hC10 := c_X9_fails l g b0 n f2 h (pu (pu Z 0 0) 11 (↑(294 * ps) : Int)) 1 ho6 hrg
    refine g_callVi (ci := 11) (C := RX9) (T := TX9) (N := 24) (As := [.int (zI 1)]) (rest := []) ⟨hx, hb, hml, hown, hts⟩ hK hM hC10 (cuV (n := 1) hts u_1412 u_1409 u_10 (by decide) u_1411 us_55 ⟨Nat.le_of_ble_eq_true rfl, Nat.le_of_ble_eq_true rfl⟩) ⟨by omega, by omega⟩ ho6 rfl rfl hl.1 rfl (Nat.le_of_ble_eq_true rfl) dX9_total_26 ⟨Nat.zero_le _, Nat.zero_le _⟩ (fun r26 f11 H locs hM hp12 => ?_)
    obtain ⟨rfl, hm13, o14⟩ := hp12
    have ho15 : f11 h = .inr (11, [.int (zI 1), .ref (h + 1), .ref (h + 2), .ref (h + 3), .ref (h + 4), .ref (h + 5), .ref (h + 6), .ref (h + 7), .ref (h + 8), .int (zI (Z 9)), .int (zI (Z 10)), .int (zI (↑(294 * ps) : Int)), .int (zI (Z 12)), .int (zI (Z 13)), .int (zI (Z 14)), .int (zI (Z 15)), .int (zI (Z 16)), .ref (h + 9), .ref (h + 10), .ref (h + 11), .int (zI (Z 20)), .int (zI (Z 21)), .int (zI (Z 22)), .ref (h + 12)]) := hm13
    refine g_i2l hx hb dX9_total_29 (by decide) ?_
    have hf16 := hP.kept (fun q h1 h2 => ((o14 (q) (by omega)).trans (o5 (q) (by omega))))
    have hf17 := hsc.kept (fun q h1 h2 => ((o14 (q) (by omega)).trans (o5 (q) (by omega))))
    refine g_lret hx hb hr hlk hK hM dX9_total_30 ?_
    have hcd : (cd1 (0 ≤ a ∧ a ≤ 11)) = 1 := cd1_n (by omega)
    refine ⟨(pu (pu Z 0 1) 11 (↑(294 * ps) : Int)), (mov M (294 * ps) (P ps)), ho15, ((zKeep.rf.pu (by decide)).pu (by decide)), ?_, fun hh => ?_, hf16, fun j hj => rfl, hf17, (fun q hq => ((o14 (q) (by omega)).trans (o5 (q) (by omega))))⟩
    · exact hcd.symm
    · rw [hcd] at hh; exact absurd hh (by decide)
  · skip
    refine lv_aload_n hx hb dX9_total_16 rfl (lv_at hl 0 rfl) ?_
    refine lv_iload_n hx hb dX9_total_17 rfl (lv_at hl 1 rfl) ?_
    have hf18 := hP.kept (fun q h1 h2 => (o5 (q) (by omega)))
    have hC19 := c_X9_totalOf l g b0 n f2 h (pu (pu Z 0 0) 11 (↑(294 * ps) : Int)) M (294 * ps) (P ps) a ho6 hf18 hrg (pu_s _ _ _) (by omega) hcn7 (by omega)
    refine g_callVl (ci := 11) (C := RX9) (T := TX9) (N := 24) (As := [.int (zI a)]) (rest := []) ⟨hx, hb, hml, hown, hts⟩ hK hM hC19 (cuV (n := 1) hts u_1443 u_1440 u_10 (by decide) u_1442 us_57 ⟨Nat.le_of_ble_eq_true rfl, Nat.le_of_ble_eq_true rfl⟩) ⟨by omega, by omega⟩ ho6 rfl rfl hl.1 rfl (Nat.le_of_ble_eq_true rfl) dX9_total_18 ⟨Nat.zero_le _, Nat.zero_le _⟩ (fun r18 f20 H locs hM hp21 => ?_)
    obtain ⟨rfl, rfl⟩ := hp21
    refine lv_goto (tgt := 30) hx hb dX9_total_21 (by decide) ?_
    have hf22 := hsc.kept (fun q h1 h2 => (o5 (q) (by omega)))
    refine g_lret hx hb hr hlk hK hM dX9_total_30 ?_
    have hcd : (cd1 (0 ≤ a ∧ a ≤ 11)) = 0 := cd1_y (by omega)
    refine ⟨(pu (pu Z 0 0) 11 (↑(294 * ps) : Int)), (mov M (294 * ps) (P ps)), ho6, ((zKeep.rf.pu (by decide)).pu (by decide)), ?_, fun hh => ?_, hf18, fun j hj => rfl, hf22, (fun q hq => (o5 (q) (by omega)))⟩
    · exact hcd.symm
    · rfl

def po_X9_thinks (g : gE) (f : gF) (h : Nat) (Z M : Nat → Int) (P : Nat → Nat → Int) (ps : Nat) : gF → Prop := fun f1 => mdO f1 h (pu (pu Z 0 0) 11 1764) ∧ mpAt g f1 h (mov M (294 * ps) (P ps)) 1764 (P ps) ∧ ∀ q, (q ≠ h ∧ q ≠ h + 1) → f1 q = f q
set_option maxRecDepth 100000 in
set_option maxHeartbeats 1000000 in
/-- thinks -/
theorem c_X9_thinks (l : Launch) (g : gE) (b0 n : Nat) (f : gF) (h : Nat) (Z M : Nat → Int) (P : Nat → Nat → Int) (ps : Nat) (hO : mdO f h Z) (hP : mpAt g f h M (294 * ps) (P ps)) (hrg : b0 ≤ h ∧ h + 13 ≤ b0 + n) (hz9 : Z 9 = ↑ps) (hps : ps < 6) : cV l yX9_thinks cX9_thinks 1 none 2 40 [.ref h] g b0 n f (po_X9_thinks g f h Z M P ps) := by
  refine gs_v (cc := cX9_thinks) (maxL := 1) (ret := none) (by decide) (Nat.le_of_ble_eq_true rfl) ?_
  intro p e0 s m args below meth c ls hx hb hr hml hown hts hlk hK hM hl
  have hl : lv_has ls 1 [(0, .ref h)] := hl
  refine lv_aload_n hx hb dX9_thinks_0 rfl (lv_at hl 0 rfl) ?_
  have hC1 := c_X9_begins l g b0 n f h Z ps hO hrg hz9 hps
  refine g_callVv (ci := 11) (C := RX9) (T := TX9) (N := 24) (As := []) (rest := []) ⟨hx, hb, hml, hown, hts⟩ hK hM hC1 (cuV (n := 0) hts u_1408 u_1405 u_10 (by decide) u_1407 us_54 ⟨Nat.le_of_ble_eq_true rfl, Nat.le_of_ble_eq_true rfl⟩) ⟨by omega, by omega⟩ hO rfl rfl hl.1 rfl (Nat.le_of_ble_eq_true rfl) dX9_thinks_1 ⟨Nat.zero_le _, Nat.zero_le _⟩ (fun f2 H locs hM hp3 => ?_)
  obtain ⟨hm4, o5⟩ := hp3
  have ho6 : f2 h = .inr (11, [.int (zI 0), .ref (h + 1), .ref (h + 2), .ref (h + 3), .ref (h + 4), .ref (h + 5), .ref (h + 6), .ref (h + 7), .ref (h + 8), .int (zI (Z 9)), .int (zI (Z 10)), .int (zI (↑(294 * ps) : Int)), .int (zI (Z 12)), .int (zI (Z 13)), .int (zI (Z 14)), .int (zI (Z 15)), .int (zI (Z 16)), .ref (h + 9), .ref (h + 10), .ref (h + 11), .int (zI (Z 20)), .int (zI (Z 21)), .int (zI (Z 22)), .ref (h + 12)]) := hm4
  refine lv_aload_n hx hb dX9_thinks_4 rfl (lv_at hl 0 rfl) ?_
  refine lv_aload_n hx hb dX9_thinks_5 rfl (lv_at hl 0 rfl) ?_
  refine g_get (ci := 11) (v := .int (zI (↑(294 * ps) : Int))) (C := RX9) (T := TX9) (N := 24) hx hb hts iU_X9 hown hK hM ⟨by omega, by omega⟩ ho6 rfl 11 (by decide) (hts _ u_1155) (fun _ h9 => h9) rfl dX9_thinks_6 ?_
  refine g_sipush hx hb dX9_thinks_9 (by decide) ?_
  have hf7 := hP.kept (fun q h1 h2 => (o5 (q) (by omega)))
  have hC8 := c_X9_copies l g b0 n f2 h (pu (pu Z 0 0) 11 (↑(294 * ps) : Int)) (mov M (294 * ps) (P ps)) (294 * ps) 1764 ho6 hf7 hrg (by omega) (by omega) (by omega)
  refine g_callVv (ci := 11) (C := RX9) (T := TX9) (N := 24) (As := [.int (zI (↑(294 * ps) : Int)), .int (zI 1764)]) (rest := []) ⟨hx, hb, hml, hown, hts⟩ hK hM hC8 (cuV (n := 2) hts u_1425 u_1422 u_10 (by decide) u_1424 us_56 ⟨Nat.le_of_ble_eq_true rfl, Nat.le_of_ble_eq_true rfl⟩) ⟨by omega, by omega⟩ ho6 rfl rfl hl.1 rfl (Nat.le_of_ble_eq_true rfl) dX9_thinks_12 ⟨Nat.zero_le _, Nat.zero_le _⟩ (fun f9 H locs hM hp10 => ?_)
  obtain ⟨hn11, o12⟩ := hp10
  have hp13 : mpAt g f9 h (mov M (294 * ps) (P ps)) 1764 (P ps) := mpAt.cong (show mpAt g f9 h (mov M (294 * ps) (P ps)) 1764 (fun i => (mov M (294 * ps) (P ps)) (294 * ps + i)) from hn11) (fun i hi => (mov_at rfl hi).symm)
  refine lv_aload_n hx hb dX9_thinks_15 rfl (lv_at hl 0 rfl) ?_
  refine g_sipush hx hb dX9_thinks_16 (by decide) ?_
  have hf14 : f9 (h) = .inr (11, [.int (zI 0), .ref (h + 1), .ref (h + 2), .ref (h + 3), .ref (h + 4), .ref (h + 5), .ref (h + 6), .ref (h + 7), .ref (h + 8), .int (zI (Z 9)), .int (zI (Z 10)), .int (zI (↑(294 * ps) : Int)), .int (zI (Z 12)), .int (zI (Z 13)), .int (zI (Z 14)), .int (zI (Z 15)), .int (zI (Z 16)), .ref (h + 9), .ref (h + 10), .ref (h + 11), .int (zI (Z 20)), .int (zI (Z 21)), .int (zI (Z 22)), .ref (h + 12)]) := (o12 (h) (by omega)).trans ho6
  refine g_put (ci := 11) (v := .int (zI 1764)) (ty := .int) (C := RX9) (T := TX9) (N := 24) hx hb hts iU_X9 tyX9 tyX9_ok nmX9 hown hK hM ⟨by omega, by omega⟩ hf14 rfl 11 (by decide) (hts _ u_1155) (fun _ h9 => h9) rfl (by decide +kernel) rfl rfl (Nat.le_of_ble_eq_true rfl) dX9_thinks_19 (fun f15 H locs hM hf17 o16 => ?_)
  have hf17 : f15 (h) = .inr (11, [.int (zI 0), .ref (h + 1), .ref (h + 2), .ref (h + 3), .ref (h + 4), .ref (h + 5), .ref (h + 6), .ref (h + 7), .ref (h + 8), .int (zI (Z 9)), .int (zI (Z 10)), .int (zI 1764), .int (zI (Z 12)), .int (zI (Z 13)), .int (zI (Z 14)), .int (zI (Z 15)), .int (zI (Z 16)), .ref (h + 9), .ref (h + 10), .ref (h + 11), .int (zI (Z 20)), .int (zI (Z 21)), .int (zI (Z 22)), .ref (h + 12)]) := hf17
  have hf18 := hp13.kept (fun q h1 h2 => (o16 (q) (by omega)))
  refine g_vret hx hb hr hlk hK hM dX9_thinks_22 ?_
  exact ⟨hf17, hf18, (fun q hq => ((o16 (q) (by omega)).trans ((o12 (q) (by omega)).trans (o5 (q) (by omega)))))⟩

def po_X9_split (g : gE) (f : gF) (h : Nat) (Z M : Nat → Int) (P : Nat → Nat → Int) (ps : Nat) (a b v0 : Int) : Int32 → gF → Prop := fun r f1 => ∃ Z1 M1 : Nat → Int, mdO f1 h Z1 ∧ zKeep Z Z1 ∧ Z1 0 = (cd2 (a = -1 ∨ (0 ≤ a ∧ a < P ps 7)) (1 ≤ b ∧ b ≤ 1000000)) ∧ ((cd2 (a = -1 ∨ (0 ≤ a ∧ a < P ps 7)) (1 ≤ b ∧ b ≤ 1000000)) = 0 → r = zI (sMon (sInc (P ps) b).2 a - sMon (P ps) a)) ∧ arJ g f1 (h + 1) 2058 M1 ∧ (∀ j, j < 1764 → M1 j = mov M (294 * ps) (P ps) j) ∧ scrAt g f1 h ∧ ∀ q, (q < h ∨ (h + 2 ≤ q ∧ q < h + 9) ∨ h + 11 ≤ q) → f1 q = f q
set_option maxRecDepth 100000 in
set_option maxHeartbeats 1000000 in
/-- split(place, amount) -/
theorem c_X9_split (l : Launch) (g : gE) (b0 n : Nat) (f : gF) (h : Nat) (Z M : Nat → Int) (P : Nat → Nat → Int) (ps : Nat) (a b v0 : Int) (hO : mdO f h Z) (hP : mpAt g f h M (294 * ps) (P ps)) (hrg : b0 ≤ h ∧ h + 13 ≤ b0 + n) (hsc : scrAt g f h) (hz9 : Z 9 = ↑ps) (hps : ps < 6) (hok : pOk (P ps) v0) (hv1 : 0 ≤ v0) (hv0 : v0 + 1800 ≤ 800000000) (hra : rI a) (hrb : rI b) : cI l yX9_split cX9_split 7 (some .int) 5 172 [.ref h, .int (zI a), .int (zI b)] g b0 n f (po_X9_split g f h Z M P ps a b v0) := by
  refine gs_i (cc := cX9_split) (maxL := 7) (ret := (some .int)) (by decide) (Nat.le_of_ble_eq_true rfl) ?_
  intro p e0 s m args below meth c ls hx hb hr hml hown hts hlk hK hM hl
  have hl : lv_has ls 7 [(0, .ref h), (1, .int (zI a)), (2, .int (zI b))] := hl
  have hcn7 := hok.1.1
  have hcn8 := hok.2.1.1
  have hcn9 := hok.2.2.1.1
  have hcn10 := hok.2.2.2.2.2.2.2.1
  have hcp7 := hcn7.1
  have hcp8 := hcn8.1
  have hcp9 := hcn9.1
  have hcp10 := hcn10.1
  have hcq7 := hcn7.2
  have hcq8 := hcn8.2
  have hcq9 := hcn9.2
  have hcq10 := hcn10.2
  have hws := pOkL_wfS hok (by omega)
  refine lv_aload_n hx hb dX9_split_0 rfl (lv_at hl 0 rfl) ?_
  have hC1 := c_X9_begins l g b0 n f h Z ps hO hrg hz9 hps
  refine g_callVv (ci := 11) (C := RX9) (T := TX9) (N := 24) (As := []) (rest := []) ⟨hx, hb, hml, hown, hts⟩ hK hM hC1 (cuV (n := 0) hts u_1408 u_1405 u_10 (by decide) u_1407 us_54 ⟨Nat.le_of_ble_eq_true rfl, Nat.le_of_ble_eq_true rfl⟩) ⟨by omega, by omega⟩ hO rfl rfl hl.1 rfl (Nat.le_of_ble_eq_true rfl) dX9_split_1 ⟨Nat.zero_le _, Nat.zero_le _⟩ (fun f2 H locs hM hp3 => ?_)
  obtain ⟨hm4, o5⟩ := hp3
  have ho6 : f2 h = .inr (11, [.int (zI 0), .ref (h + 1), .ref (h + 2), .ref (h + 3), .ref (h + 4), .ref (h + 5), .ref (h + 6), .ref (h + 7), .ref (h + 8), .int (zI (Z 9)), .int (zI (Z 10)), .int (zI (↑(294 * ps) : Int)), .int (zI (Z 12)), .int (zI (Z 13)), .int (zI (Z 14)), .int (zI (Z 15)), .int (zI (Z 16)), .ref (h + 9), .ref (h + 10), .ref (h + 11), .int (zI (Z 20)), .int (zI (Z 21)), .int (zI (Z 22)), .ref (h + 12)]) := hm4
  refine lv_aload_n hx hb dX9_split_4 rfl (lv_at hl 0 rfl) ?_
  refine lv_iload_n hx hb dX9_split_5 rfl (lv_at hl 1 rfl) ?_
  have hf7 := hP.kept (fun q h1 h2 => (o5 (q) (by omega)))
  have hC8 := c_X9_isPlace l g b0 n f2 h (pu (pu Z 0 0) 11 (↑(294 * ps) : Int)) M (294 * ps) (P ps) a ho6 hf7 hrg (pu_s _ _ _) (by omega) hcn7 hra
  refine g_callVi (ci := 11) (C := RX9) (T := TX9) (N := 24) (As := [.int (zI a)]) (rest := []) ⟨hx, hb, hml, hown, hts⟩ hK hM hC8 (cuV (n := 1) hts u_1327 u_1324 u_10 (by decide) u_1326 us_47 ⟨Nat.le_of_ble_eq_true rfl, Nat.le_of_ble_eq_true rfl⟩) ⟨by omega, by omega⟩ ho6 rfl rfl hl.1 rfl (Nat.le_of_ble_eq_true rfl) dX9_split_6 ⟨Nat.zero_le _, Nat.zero_le _⟩ (fun r6 f9 H locs hM hp10 => ?_)
  obtain ⟨rfl, rfl⟩ := hp10
  refine g_ifb_ne (tgt := 18) hx hb dX9_split_9 (by decide) (fun c9 => ?_) (fun c9 => ?_)
  · skip
    refine lv_iload_n hx hb dX9_split_18 rfl (lv_at hl 2 rfl) ?_
    refine g_i2l hx hb dX9_split_19 hrb ?_
    refine g_lconst (z := 1) hx hb dX9_split_20 (by decide) ?_
    refine g_ldc2 (z := 1000000) hx hb hown (hts _ u_1273) dX9_split_21 (by decide) ?_
    have hC11 := c_X9_in l g b0 n f2 b 1 1000000 (rI_L hrb) (by decide) (by decide)
    refine g_callSi (As := [.long (zL b), .long (zL 1), .long (zL 1000000)]) (rest := []) ⟨hx, hb, hml, hown, hts⟩ hK hM hC11 (cuS (n := 3) hts u_1240 u_1238 u_10 (by decide) u_1239 ⟨Nat.le_of_ble_eq_true rfl, Nat.le_of_ble_eq_true rfl⟩) rfl hl.1 rfl (Nat.le_of_ble_eq_true rfl) dX9_split_24 ⟨Nat.zero_le _, Nat.zero_le _⟩ (fun r24 f12 H locs hM hp13 => ?_)
    obtain ⟨rfl, rfl⟩ := hp13
    refine g_ifb_ne (tgt := 36) hx hb dX9_split_27 (by decide) (fun c27 => ?_) (fun c27 => ?_)
    · skip
      refine lv_aload_n hx hb dX9_split_36 rfl (lv_at hl 0 rfl) ?_
      refine lv_aload_n hx hb dX9_split_37 rfl (lv_at hl 0 rfl) ?_
      refine g_get (ci := 11) (v := .int (zI (↑(294 * ps) : Int))) (C := RX9) (T := TX9) (N := 24) hx hb hts iU_X9 hown hK hM ⟨by omega, by omega⟩ ho6 rfl 11 (by decide) (hts _ u_1155) (fun _ h9 => h9) rfl dX9_split_38 ?_
      refine g_sipush hx hb dX9_split_41 (by decide) ?_
      have hC14 := c_X9_copies l g b0 n f2 h (pu (pu Z 0 0) 11 (↑(294 * ps) : Int)) (mov M (294 * ps) (P ps)) (294 * ps) 1764 ho6 hf7 hrg (by omega) (by omega) (by omega)
      refine g_callVv (ci := 11) (C := RX9) (T := TX9) (N := 24) (As := [.int (zI (↑(294 * ps) : Int)), .int (zI 1764)]) (rest := []) ⟨hx, hb, hml, hown, hts⟩ hK hM hC14 (cuV (n := 2) hts u_1425 u_1422 u_10 (by decide) u_1424 us_56 ⟨Nat.le_of_ble_eq_true rfl, Nat.le_of_ble_eq_true rfl⟩) ⟨by omega, by omega⟩ ho6 rfl rfl hl.1 rfl (Nat.le_of_ble_eq_true rfl) dX9_split_44 ⟨Nat.zero_le _, Nat.zero_le _⟩ (fun f15 H locs hM hp16 => ?_)
      obtain ⟨hn17, o18⟩ := hp16
      have hp19 : mpAt g f15 h (mov M (294 * ps) (P ps)) 1764 (P ps) := mpAt.cong (show mpAt g f15 h (mov M (294 * ps) (P ps)) 1764 (fun i => (mov M (294 * ps) (P ps)) (294 * ps + i)) from hn17) (fun i hi => (mov_at rfl hi).symm)
      refine lv_aload_n hx hb dX9_split_47 rfl (lv_at hl 0 rfl) ?_
      refine g_sipush hx hb dX9_split_48 (by decide) ?_
      have hf20 : f15 (h) = .inr (11, [.int (zI 0), .ref (h + 1), .ref (h + 2), .ref (h + 3), .ref (h + 4), .ref (h + 5), .ref (h + 6), .ref (h + 7), .ref (h + 8), .int (zI (Z 9)), .int (zI (Z 10)), .int (zI (↑(294 * ps) : Int)), .int (zI (Z 12)), .int (zI (Z 13)), .int (zI (Z 14)), .int (zI (Z 15)), .int (zI (Z 16)), .ref (h + 9), .ref (h + 10), .ref (h + 11), .int (zI (Z 20)), .int (zI (Z 21)), .int (zI (Z 22)), .ref (h + 12)]) := (o18 (h) (by omega)).trans ho6
      refine g_put (ci := 11) (v := .int (zI 1764)) (ty := .int) (C := RX9) (T := TX9) (N := 24) hx hb hts iU_X9 tyX9 tyX9_ok nmX9 hown hK hM ⟨by omega, by omega⟩ hf20 rfl 11 (by decide) (hts _ u_1155) (fun _ h9 => h9) rfl (by decide +kernel) rfl rfl (Nat.le_of_ble_eq_true rfl) dX9_split_51 (fun f21 H locs hM hf23 o22 => ?_)
      have hf23 : f21 (h) = .inr (11, [.int (zI 0), .ref (h + 1), .ref (h + 2), .ref (h + 3), .ref (h + 4), .ref (h + 5), .ref (h + 6), .ref (h + 7), .ref (h + 8), .int (zI (Z 9)), .int (zI (Z 10)), .int (zI 1764), .int (zI (Z 12)), .int (zI (Z 13)), .int (zI (Z 14)), .int (zI (Z 15)), .int (zI (Z 16)), .ref (h + 9), .ref (h + 10), .ref (h + 11), .int (zI (Z 20)), .int (zI (Z 21)), .int (zI (Z 22)), .ref (h + 12)]) := hf23
      refine lv_aload_n hx hb dX9_split_54 rfl (lv_at hl 0 rfl) ?_
      refine lv_iload_n hx hb dX9_split_55 rfl (lv_at hl 1 rfl) ?_
      have hf24 := hp19.kept (fun q h1 h2 => (o22 (q) (by omega)))
      have hC25 := c_X9_moneyIn l g b0 n f21 h (pu (pu Z 0 0) 11 1764) (mov M (294 * ps) (P ps)) 1764 (P ps) a hf23 hf24 hrg (pu_s _ _ _) (by omega) hcn7 hra (by omega)
      refine g_callVl (ci := 11) (C := RX9) (T := TX9) (N := 24) (As := [.int (zI a)]) (rest := []) ⟨hx, hb, hml, hown, hts⟩ hK hM hC25 (cuV (n := 1) hts u_1331 u_1328 u_10 (by decide) u_1330 us_48 ⟨Nat.le_of_ble_eq_true rfl, Nat.le_of_ble_eq_true rfl⟩) ⟨by omega, by omega⟩ hf23 rfl rfl hl.1 rfl (Nat.le_of_ble_eq_true rfl) dX9_split_56 ⟨Nat.zero_le _, Nat.zero_le _⟩ (fun r56 f26 H locs hM hp27 => ?_)
      obtain ⟨rfl, rfl⟩ := hp27
      refine lv_lstore_n (lv' := [(3, .long (zL (sMon (P ps) a))), (0, .ref h), (1, .int (zI a)), (2, .int (zI b))]) hx hb dX9_split_59 rfl hl (by decide) rfl (fun ls hl => ?_)
      refine lv_aload_n hx hb dX9_split_60 rfl (lv_at hl 1 rfl) ?_
      refine lv_iload_n hx hb dX9_split_61 rfl (lv_at hl 3 rfl) ?_
      refine g_i2l hx hb dX9_split_62 hrb ?_
      have hf28 := hsc.kept (fun q h1 h2 => ((o22 (q) (by omega)).trans ((o18 (q) (by omega)).trans (o5 (q) (by omega)))))
      have hC29 := c_X9_receives l g b0 n f21 h (pu (pu Z 0 0) 11 1764) (mov M (294 * ps) (P ps)) 1764 (P ps) b hf23 hf24 hrg (pu_s _ _ _) (by omega) hf28 (wfE_mono hws.E (by omega)) hok.2.1 ⟨by omega, by omega⟩
      refine g_callVl (ci := 11) (C := RX9) (T := TX9) (N := 24) (As := [.long (zL b)]) (rest := []) ⟨hx, hb, hml, hown, hts⟩ hK hM hC29 (cuV (n := 1) hts u_1292 u_1289 u_10 (by decide) u_1291 us_39 ⟨Nat.le_of_ble_eq_true rfl, Nat.le_of_ble_eq_true rfl⟩) ⟨by omega, by omega⟩ hf23 rfl rfl hl.1 rfl (Nat.le_of_ble_eq_true rfl) dX9_split_63 ⟨Nat.zero_le _, Nat.zero_le _⟩ (fun r63 f30 H locs hM hp31 => ?_)
      obtain ⟨rfl, hn32, hs34, o33⟩ := hp31
      obtain ⟨P1, hP1⟩ : ∃ Q : Nat → Int, Q = (sInc (P ps) b).2 := ⟨_, rfl⟩
      rw [← hP1] at hn32
      refine lv_lstore (lv' := [(5, .long (zL ((sInc (P ps) b).1))), (3, .long (zL (sMon (P ps) a))), (0, .ref h), (1, .int (zI a)), (2, .int (zI b))]) hx hb dX9_split_66 hl (by decide) rfl (fun ls hl => ?_)
      refine lv_aload_n hx hb dX9_split_68 rfl (lv_at hl 2 rfl) ?_
      have hk7 : P1 7 = P ps 7 := by rw [hP1]; exact (sInc_ok hok.1 hok.2.1 hok.2.2.2.1 (by omega) (by omega)).1 7 (by unfold keyI; omega)
      refine lv_iload_n hx hb dX9_split_69 rfl (lv_at hl 3 rfl) ?_
      have hf35 : f30 (h) = .inr (11, [.int (zI 0), .ref (h + 1), .ref (h + 2), .ref (h + 3), .ref (h + 4), .ref (h + 5), .ref (h + 6), .ref (h + 7), .ref (h + 8), .int (zI (Z 9)), .int (zI (Z 10)), .int (zI 1764), .int (zI (Z 12)), .int (zI (Z 13)), .int (zI (Z 14)), .int (zI (Z 15)), .int (zI (Z 16)), .ref (h + 9), .ref (h + 10), .ref (h + 11), .int (zI (Z 20)), .int (zI (Z 21)), .int (zI (Z 22)), .ref (h + 12)]) := (o33 (h) (by omega)).trans hf23
      have hC36 := c_X9_moneyIn l g b0 n f30 h (pu (pu Z 0 0) 11 1764) (mov M (294 * ps) (P ps)) 1764 P1 a hf35 hn32 hrg (pu_s _ _ _) (by omega) (by rw [hk7]; exact hcn7) hra (by rw [hk7]; omega)
      refine g_callVl (ci := 11) (C := RX9) (T := TX9) (N := 24) (As := [.int (zI a)]) (rest := []) ⟨hx, hb, hml, hown, hts⟩ hK hM hC36 (cuV (n := 1) hts u_1331 u_1328 u_10 (by decide) u_1330 us_48 ⟨Nat.le_of_ble_eq_true rfl, Nat.le_of_ble_eq_true rfl⟩) ⟨by omega, by omega⟩ hf35 rfl rfl hl.1 rfl (Nat.le_of_ble_eq_true rfl) dX9_split_70 ⟨Nat.zero_le _, Nat.zero_le _⟩ (fun r70 f37 H locs hM hp38 => ?_)
      obtain ⟨rfl, rfl⟩ := hp38
      refine lv_lload_n hx hb dX9_split_73 rfl (lv_at hl 1 rfl) ?_
      refine g_lsub hx hb dX9_split_74 ?_
      refine g_l2i hx hb dX9_split_75 ?_
      refine g_iret hx hb hr hlk hK hM dX9_split_76 ?_
      have hcd : (cd2 (a = -1 ∨ (0 ≤ a ∧ a < P ps 7)) (1 ≤ b ∧ b ≤ 1000000)) = 0 := cd2_y (by omega) (by omega)
      refine ⟨(pu (pu Z 0 0) 11 1764), (mov (mov M (294 * ps) (P ps)) 1764 P1), hf35, ((zKeep.rf.pu (by decide)).pu (by decide)), ?_, fun hh => ?_, hn32, fun j hj => mov_n (by omega), hs34, (fun q hq => ((o33 (q) (by omega)).trans ((o22 (q) (by omega)).trans ((o18 (q) (by omega)).trans (o5 (q) (by omega))))))⟩
      · exact hcd.symm
      · rw [← hP1]
    · skip
      refine lv_aload_n hx hb dX9_split_30 rfl (lv_at hl 0 rfl) ?_
      refine g_iconst hx hb dX9_split_31 ?_
      have hC39 := c_X9_fails l g b0 n f2 h (pu (pu Z 0 0) 11 (↑(294 * ps) : Int)) 2 ho6 hrg
      refine g_callVi (ci := 11) (C := RX9) (T := TX9) (N := 24) (As := [.int (zI 2)]) (rest := []) ⟨hx, hb, hml, hown, hts⟩ hK hM hC39 (cuV (n := 1) hts u_1412 u_1409 u_10 (by decide) u_1411 us_55 ⟨Nat.le_of_ble_eq_true rfl, Nat.le_of_ble_eq_true rfl⟩) ⟨by omega, by omega⟩ ho6 rfl rfl hl.1 rfl (Nat.le_of_ble_eq_true rfl) dX9_split_32 ⟨Nat.zero_le _, Nat.zero_le _⟩ (fun r32 f40 H locs hM hp41 => ?_)
      obtain ⟨rfl, hm42, o43⟩ := hp41
      have ho44 : f40 h = .inr (11, [.int (zI 2), .ref (h + 1), .ref (h + 2), .ref (h + 3), .ref (h + 4), .ref (h + 5), .ref (h + 6), .ref (h + 7), .ref (h + 8), .int (zI (Z 9)), .int (zI (Z 10)), .int (zI (↑(294 * ps) : Int)), .int (zI (Z 12)), .int (zI (Z 13)), .int (zI (Z 14)), .int (zI (Z 15)), .int (zI (Z 16)), .ref (h + 9), .ref (h + 10), .ref (h + 11), .int (zI (Z 20)), .int (zI (Z 21)), .int (zI (Z 22)), .ref (h + 12)]) := hm42
      have hf45 := hf7.kept (fun q h1 h2 => (o43 (q) (by omega)))
      have hf46 := hsc.kept (fun q h1 h2 => ((o43 (q) (by omega)).trans (o5 (q) (by omega))))
      refine g_iret hx hb hr hlk hK hM dX9_split_35 ?_
      have hcd : (cd2 (a = -1 ∨ (0 ≤ a ∧ a < P ps 7)) (1 ≤ b ∧ b ≤ 1000000)) = 2 := cd2_2 (by omega) (by omega)
      refine ⟨(pu (pu Z 0 2) 11 (↑(294 * ps) : Int)), (mov M (294 * ps) (P ps)), ho44, ((zKeep.rf.pu (by decide)).pu (by decide)), ?_, fun hh => ?_, hf45, fun j hj => rfl, hf46, (fun q hq => ((o43 (q) (by omega)).trans (o5 (q) (by omega))))⟩
      · exact hcd.symm
      · rw [hcd] at hh; exact absurd hh (by decide)
  · skip
    refine lv_aload_n hx hb dX9_split_12 rfl (lv_at hl 0 rfl) ?_
    refine g_iconst hx hb dX9_split_13 ?_
    have hC47 := c_X9_fails l g b0 n f2 h (pu (pu Z 0 0) 11 (↑(294 * ps) : Int)) 1 ho6 hrg
    refine g_callVi (ci := 11) (C := RX9) (T := TX9) (N := 24) (As := [.int (zI 1)]) (rest := []) ⟨hx, hb, hml, hown, hts⟩ hK hM hC47 (cuV (n := 1) hts u_1412 u_1409 u_10 (by decide) u_1411 us_55 ⟨Nat.le_of_ble_eq_true rfl, Nat.le_of_ble_eq_true rfl⟩) ⟨by omega, by omega⟩ ho6 rfl rfl hl.1 rfl (Nat.le_of_ble_eq_true rfl) dX9_split_14 ⟨Nat.zero_le _, Nat.zero_le _⟩ (fun r14 f48 H locs hM hp49 => ?_)
    obtain ⟨rfl, hm50, o51⟩ := hp49
    have ho52 : f48 h = .inr (11, [.int (zI 1), .ref (h + 1), .ref (h + 2), .ref (h + 3), .ref (h + 4), .ref (h + 5), .ref (h + 6), .ref (h + 7), .ref (h + 8), .int (zI (Z 9)), .int (zI (Z 10)), .int (zI (↑(294 * ps) : Int)), .int (zI (Z 12)), .int (zI (Z 13)), .int (zI (Z 14)), .int (zI (Z 15)), .int (zI (Z 16)), .ref (h + 9), .ref (h + 10), .ref (h + 11), .int (zI (Z 20)), .int (zI (Z 21)), .int (zI (Z 22)), .ref (h + 12)]) := hm50
    have hf53 := hf7.kept (fun q h1 h2 => (o51 (q) (by omega)))
    have hf54 := hsc.kept (fun q h1 h2 => ((o51 (q) (by omega)).trans (o5 (q) (by omega))))
    refine g_iret hx hb hr hlk hK hM dX9_split_17 ?_
    have hcd : (cd2 (a = -1 ∨ (0 ≤ a ∧ a < P ps 7)) (1 ≤ b ∧ b ≤ 1000000)) = 1 := cd2_1 (by omega)
    refine ⟨(pu (pu Z 0 1) 11 (↑(294 * ps) : Int)), (mov M (294 * ps) (P ps)), ho52, ((zKeep.rf.pu (by decide)).pu (by decide)), ?_, fun hh => ?_, hf53, fun j hj => rfl, hf54, (fun q hq => ((o51 (q) (by omega)).trans (o5 (q) (by omega))))⟩
    · exact hcd.symm
    · rw [hcd] at hh; exact absurd hh (by decide)
