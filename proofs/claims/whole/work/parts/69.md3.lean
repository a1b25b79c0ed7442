def po_X9_carriesOut (g : gE) (f : gF) (h : Nat) (Z M : Nat → Int) (aa : Nat) (P : Nat → Int) (i : Nat) (v : Int) : gF → Prop := fun f1 => mpAt g f1 h M aa (sItmT i P) ∧ scrAt g f1 h ∧ ∀ q, (q < h + 1 ∨ (h + 2 ≤ q ∧ q < h + 9) ∨ h + 11 ≤ q) → f1 q = f q
set_option maxRecDepth 100000 in
set_option maxHeartbeats 1000000 in
/-- carriesOut(item) -/
theorem c_X9_carriesOut (l : Launch) (g : gE) (b0 n : Nat) (f : gF) (h : Nat) (Z M : Nat → Int) (aa : Nat) (P : Nat → Int) (i : Nat) (v : Int) (hO : mdO f h Z) (hP : mpAt g f h M aa P) (hrg : b0 ≤ h ∧ h + 13 ≤ b0 + n) (hat : Z 11 = ↑aa) (haa : aa + 147 ≤ 2058) (hsc : scrAt g f h) (H0k : pOkL P v i) (hi : (i : Int) < P 10) (hdue : P (103 + 6 * i) = P 1) (hv0 : 0 ≤ v) (hv : v + 1 ≤ 800000000) : cV l yX9_carriesOut cX9_carriesOut 5 none 5 172 [.ref h, .int (zI (↑i : Int))] g b0 n f (po_X9_carriesOut g f h Z M aa P i v) := by
  refine gs_v (cc := cX9_carriesOut) (maxL := 5) (ret := none) (by decide) (Nat.le_of_ble_eq_true rfl) ?_
  intro p e0 s m args below meth c ls hx hb hr hml hown hts hlk hK hM hl
  have hl : lv_has ls 5 [(0, .ref h), (1, .int (zI (↑i : Int)))] := hl
  have hi8 := H0k.2.2.2.2.2.2.2.1
  refine g_bipush hx hb dX9_carriesOut_0 (by decide) ?_
  refine g_bipush hx hb dX9_carriesOut_2 (by decide) ?_
  refine lv_iload_n hx hb dX9_carriesOut_4 rfl (lv_at hl 1 rfl) ?_
  refine g_imul hx hb dX9_carriesOut_5 ?_
  refine g_iadd hx hb dX9_carriesOut_6 ?_
  refine lv_istore_n (lv' := [(2, .int (zI (99 + (6 * (↑i : Int))))), (0, .ref h), (1, .int (zI (↑i : Int)))]) hx hb dX9_carriesOut_7 rfl hl (by decide) rfl (fun ls hl => ?_)
  refine lv_aload_n hx hb dX9_carriesOut_8 rfl (lv_at hl 1 rfl) ?_
  refine lv_iload_n hx hb dX9_carriesOut_9 rfl (lv_at hl 0 rfl) ?_
  refine g_iconst hx hb dX9_carriesOut_10 ?_
  refine g_iadd hx hb dX9_carriesOut_11 ?_
  refine lv_aload_n hx hb dX9_carriesOut_12 rfl (lv_at hl 1 rfl) ?_
  refine lv_iload_n hx hb dX9_carriesOut_13 rfl (lv_at hl 0 rfl) ?_
  refine g_iconst hx hb dX9_carriesOut_14 ?_
  refine g_iadd hx hb dX9_carriesOut_15 ?_
  have hC1 := c_X9_p l g b0 n f h Z M aa P ((99 + (6 * (↑i : Int))) + 4) (103 + 6 * i) hO hP hrg hat haa (by omega) (by omega)
  refine g_callVl (ci := 11) (C := RX9) (T := TX9) (N := 24) (As := [.int (zI ((99 + (6 * (↑i : Int))) + 4))]) (rest := [.int (zI ((99 + (6 * (↑i : Int))) + 4)), .ref h]) ⟨hx, hb, hml, hown, hts⟩ hK hM hC1 (cuV (n := 1) hts u_1283 u_1280 u_10 (by decide) u_1282 us_37 ⟨Nat.le_of_ble_eq_true rfl, Nat.le_of_ble_eq_true rfl⟩) ⟨by omega, by omega⟩ hO rfl rfl hl.1 rfl (Nat.le_of_ble_eq_true rfl) dX9_carriesOut_16 ⟨Nat.zero_le _, Nat.zero_le _⟩ (fun r16 f2 H locs hM hp3 => ?_)
  obtain ⟨rfl, rfl⟩ := hp3
  refine lv_aload_n hx hb dX9_carriesOut_19 rfl (lv_at hl 1 rfl) ?_
  refine lv_iload_n hx hb dX9_carriesOut_20 rfl (lv_at hl 0 rfl) ?_
  refine g_iconst hx hb dX9_carriesOut_21 ?_
  refine g_iadd hx hb dX9_carriesOut_22 ?_
  have hC4 := c_X9_p l g b0 n f h Z M aa P ((99 + (6 * (↑i : Int))) + 3) (102 + 6 * i) hO hP hrg hat haa (by omega) (by omega)
  refine g_callVl (ci := 11) (C := RX9) (T := TX9) (N := 24) (As := [.int (zI ((99 + (6 * (↑i : Int))) + 3))]) (rest := [.long (zL (P (103 + 6 * i))), .int (zI ((99 + (6 * (↑i : Int))) + 4)), .ref h]) ⟨hx, hb, hml, hown, hts⟩ hK hM hC4 (cuV (n := 1) hts u_1283 u_1280 u_10 (by decide) u_1282 us_37 ⟨Nat.le_of_ble_eq_true rfl, Nat.le_of_ble_eq_true rfl⟩) ⟨by omega, by omega⟩ hO rfl rfl hl.1 rfl (Nat.le_of_ble_eq_true rfl) dX9_carriesOut_23 ⟨Nat.zero_le _, Nat.zero_le _⟩ (fun r23 f5 H locs hM hp6 => ?_)
  obtain ⟨rfl, rfl⟩ := hp6
  refine g_ladd hx hb dX9_carriesOut_26 ?_
  have hC7 := c_X9_puts l g b0 n f h Z M aa P ((99 + (6 * (↑i : Int))) + 4) (103 + 6 * i) ((P (103 + 6 * i)) + (P (102 + 6 * i))) hO hP hrg hat haa (by omega) (by omega)
  refine g_callVv (ci := 11) (C := RX9) (T := TX9) (N := 24) (As := [.int (zI ((99 + (6 * (↑i : Int))) + 4)), .long (zL ((P (103 + 6 * i)) + (P (102 + 6 * i))))]) (rest := []) ⟨hx, hb, hml, hown, hts⟩ hK hM hC7 (cuV (n := 2) hts u_1257 u_1254 u_10 (by decide) u_1256 us_32 ⟨Nat.le_of_ble_eq_true rfl, Nat.le_of_ble_eq_true rfl⟩) ⟨by omega, by omega⟩ hO rfl rfl hl.1 rfl (Nat.le_of_ble_eq_true rfl) dX9_carriesOut_27 ⟨Nat.zero_le _, Nat.zero_le _⟩ (fun f8 H locs hM hp9 => ?_)
  obtain ⟨hn10, o11⟩ := hp9
  obtain ⟨Pz12, hPz12⟩ : ∃ Q : Nat → Int, Q = pu P (103 + 6 * i) ((P (103 + 6 * i)) + (P (102 + 6 * i))) := ⟨_, rfl⟩
  rw [← hPz12] at hn10
  have hd1 := pOkL_due H0k hi hdue
  rw [← hPz12] at hd1
  have hP10 : (i : Int) < Pz12 10 := by rw [hPz12, pu_n (by omega)]; exact hi
  obtain ⟨⟨hy1, ⟨hy2, hy3⟩, ⟨hy4, hy5⟩, ⟨hy6, hy7⟩⟩, ⟨hy8, hy9⟩, hy10⟩ := hd1.2.2.2.2.2.2.2.2 i hP10
  have hw1 := pOkL_wfS hd1 (by omega)
  have hmn := hd1.2.2.2.1
  refine lv_aload_n hx hb dX9_carriesOut_30 rfl (lv_at hl 1 rfl) ?_
  refine lv_iload_n hx hb dX9_carriesOut_31 rfl (lv_at hl 0 rfl) ?_
  have hf13 : f8 (h) = .inr (11, [.int (zI (Z 0)), .ref (h + 1), .ref (h + 2), .ref (h + 3), .ref (h + 4), .ref (h + 5), .ref (h + 6), .ref (h + 7), .ref (h + 8), .int (zI (Z 9)), .int (zI (Z 10)), .int (zI (Z 11)), .int (zI (Z 12)), .int (zI (Z 13)), .int (zI (Z 14)), .int (zI (Z 15)), .int (zI (Z 16)), .ref (h + 9), .ref (h + 10), .ref (h + 11), .int (zI (Z 20)), .int (zI (Z 21)), .int (zI (Z 22)), .ref (h + 12)]) := (o11 (h) (by omega)).trans hO
  have hC14 := c_X9_p l g b0 n f8 h Z M aa Pz12 (99 + (6 * (↑i : Int))) (99 + 6 * i) hf13 hn10 hrg hat haa (by omega) (by omega)
  refine g_callVl (ci := 11) (C := RX9) (T := TX9) (N := 24) (As := [.int (zI (99 + (6 * (↑i : Int))))]) (rest := []) ⟨hx, hb, hml, hown, hts⟩ hK hM hC14 (cuV (n := 1) hts u_1283 u_1280 u_10 (by decide) u_1282 us_37 ⟨Nat.le_of_ble_eq_true rfl, Nat.le_of_ble_eq_true rfl⟩) ⟨by omega, by omega⟩ hf13 rfl rfl hl.1 rfl (Nat.le_of_ble_eq_true rfl) dX9_carriesOut_32 ⟨Nat.zero_le _, Nat.zero_le _⟩ (fun r32 f15 H locs hM hp16 => ?_)
  obtain ⟨rfl, rfl⟩ := hp16
  refine g_lconst (z := 0) hx hb dX9_carriesOut_35 (by decide) ?_
  refine g_lcmp_ne (tgt := 55) hx hb dX9_carriesOut_36 dX9_carriesOut_37 (by decide) ⟨by omega, by omega⟩ (by decide) (fun c36 => ?_) (fun c36 => ?_)
  · skip
    have hkd : Pz12 (99 + 6 * i) = 1 := by omega
    obtain ⟨e1, he1⟩ : ∃ q : Nat, Pz12 (100 + 6 * i) = q := ⟨(Pz12 (100 + 6 * i)).toNat, by omega⟩
    have he7 := hd1.1.1
    have hbe := hw1.E.2 e1 (by omega)
    have hbe1 := hbe.1.1
    have hbe2 := hbe.1.2
    have hpp := pOk_pool hd1 (by omega)
    have hpp1 := hpp.1
    have hpp2 := hpp.2
    refine lv_aload_n hx hb dX9_carriesOut_55 rfl (lv_at hl 1 rfl) ?_
    refine lv_aload_n hx hb dX9_carriesOut_56 rfl (lv_at hl 1 rfl) ?_
    refine lv_iload_n hx hb dX9_carriesOut_57 rfl (lv_at hl 0 rfl) ?_
    refine g_iconst hx hb dX9_carriesOut_58 ?_
    refine g_iadd hx hb dX9_carriesOut_59 ?_
    have hC17 := c_X9_n l g b0 n f8 h Z M aa Pz12 ((99 + (6 * (↑i : Int))) + 1) (100 + 6 * i) hf13 hn10 hrg hat haa (by omega) (by omega)
    refine g_callVi (ci := 11) (C := RX9) (T := TX9) (N := 24) (As := [.int (zI ((99 + (6 * (↑i : Int))) + 1))]) (rest := [.ref h]) ⟨hx, hb, hml, hown, hts⟩ hK hM hC17 (cuV (n := 1) hts u_1249 u_1246 u_10 (by decide) u_1248 us_30 ⟨Nat.le_of_ble_eq_true rfl, Nat.le_of_ble_eq_true rfl⟩) ⟨by omega, by omega⟩ hf13 rfl rfl hl.1 rfl (Nat.le_of_ble_eq_true rfl) dX9_carriesOut_60 ⟨Nat.zero_le _, Nat.zero_le _⟩ (fun r60 f18 H locs hM hp19 => ?_)
    obtain ⟨rfl, rfl⟩ := hp19
    rw [he1]
    refine lv_aload_n hx hb dX9_carriesOut_63 rfl (lv_at hl 1 rfl) ?_
    refine lv_iload_n hx hb dX9_carriesOut_64 rfl (lv_at hl 0 rfl) ?_
    refine g_iconst hx hb dX9_carriesOut_65 ?_
    refine g_iadd hx hb dX9_carriesOut_66 ?_
    have hC20 := c_X9_p l g b0 n f8 h Z M aa Pz12 ((99 + (6 * (↑i : Int))) + 2) (101 + 6 * i) hf13 hn10 hrg hat haa (by omega) (by omega)
    refine g_callVl (ci := 11) (C := RX9) (T := TX9) (N := 24) (As := [.int (zI ((99 + (6 * (↑i : Int))) + 2))]) (rest := [.int (zI (↑e1 : Int)), .ref h]) ⟨hx, hb, hml, hown, hts⟩ hK hM hC20 (cuV (n := 1) hts u_1283 u_1280 u_10 (by decide) u_1282 us_37 ⟨Nat.le_of_ble_eq_true rfl, Nat.le_of_ble_eq_true rfl⟩) ⟨by omega, by omega⟩ hf13 rfl rfl hl.1 rfl (Nat.le_of_ble_eq_true rfl) dX9_carriesOut_67 ⟨Nat.zero_le _, Nat.zero_le _⟩ (fun r67 f21 H locs hM hp22 => ?_)
    obtain ⟨rfl, rfl⟩ := hp22
    have hC23 := c_X9_maySpend l g b0 n f8 h Z M aa Pz12 e1 (Pz12 (101 + 6 * i)) hf13 hn10 hrg hat haa (by omega) ⟨by omega, by omega⟩ ⟨by omega, by omega⟩ ⟨by omega, by omega⟩
    refine g_callVi (ci := 11) (C := RX9) (T := TX9) (N := 24) (As := [.int (zI (↑e1 : Int)), .long (zL (Pz12 (101 + 6 * i)))]) (rest := []) ⟨hx, hb, hml, hown, hts⟩ hK hM hC23 (cuV (n := 2) hts u_1319 u_1316 u_10 (by decide) u_1318 us_45 ⟨Nat.le_of_ble_eq_true rfl, Nat.le_of_ble_eq_true rfl⟩) ⟨by omega, by omega⟩ hf13 rfl rfl hl.1 rfl (Nat.le_of_ble_eq_true rfl) dX9_carriesOut_70 ⟨Nat.zero_le _, Nat.zero_le _⟩ (fun r70 f24 H locs hM hp25 => ?_)
    obtain ⟨rfl, rfl⟩ := hp25
    refine g_ifb_eq (tgt := 98) hx hb dX9_carriesOut_73 (by decide) (fun c73 => ?_) (fun c73 => ?_)
    · skip
      refine lv_aload_n hx hb dX9_carriesOut_98 rfl (lv_at hl 1 rfl) ?_
      refine lv_iload_n hx hb dX9_carriesOut_99 rfl (lv_at hl 0 rfl) ?_
      refine g_iconst hx hb dX9_carriesOut_100 ?_
      refine g_iadd hx hb dX9_carriesOut_101 ?_
      refine g_lconst (z := 1) hx hb dX9_carriesOut_102 (by decide) ?_
      have hC26 := c_X9_adds l g b0 n f8 h Z M aa Pz12 ((99 + (6 * (↑i : Int))) + 5) (104 + 6 * i) 1 hf13 hn10 hrg hat haa (by omega) (by omega)
      refine g_callVv (ci := 11) (C := RX9) (T := TX9) (N := 24) (As := [.int (zI ((99 + (6 * (↑i : Int))) + 5)), .long (zL 1)]) (rest := []) ⟨hx, hb, hml, hown, hts⟩ hK hM hC26 (cuV (n := 2) hts u_1261 u_1258 u_10 (by decide) u_1260 us_33 ⟨Nat.le_of_ble_eq_true rfl, Nat.le_of_ble_eq_true rfl⟩) ⟨by omega, by omega⟩ hf13 rfl rfl hl.1 rfl (Nat.le_of_ble_eq_true rfl) dX9_carriesOut_103 ⟨Nat.zero_le _, Nat.zero_le _⟩ (fun f27 H locs hM hp28 => ?_)
      obtain ⟨hn29, o30⟩ := hp28
      obtain ⟨Pz31, hPz31⟩ : ∃ Q : Nat → Int, Q = pu Pz12 (104 + 6 * i) (Pz12 (104 + 6 * i) + 1) := ⟨_, rfl⟩
      rw [← hPz31] at hn29
      refine lv_aload_n hx hb dX9_carriesOut_106 rfl (lv_at hl 1 rfl) ?_
      refine g_iconst hx hb dX9_carriesOut_107 ?_
      refine g_lconst (z := 1) hx hb dX9_carriesOut_108 (by decide) ?_
      have hf32 : f27 (h) = .inr (11, [.int (zI (Z 0)), .ref (h + 1), .ref (h + 2), .ref (h + 3), .ref (h + 4), .ref (h + 5), .ref (h + 6), .ref (h + 7), .ref (h + 8), .int (zI (Z 9)), .int (zI (Z 10)), .int (zI (Z 11)), .int (zI (Z 12)), .int (zI (Z 13)), .int (zI (Z 14)), .int (zI (Z 15)), .int (zI (Z 16)), .ref (h + 9), .ref (h + 10), .ref (h + 11), .int (zI (Z 20)), .int (zI (Z 21)), .int (zI (Z 22)), .ref (h + 12)]) := (o30 (h) (by omega)).trans hf13
      have hC33 := c_X9_adds l g b0 n f27 h Z M aa Pz31 4 (4) 1 hf32 hn29 hrg hat haa (by omega) (by omega)
      refine g_callVv (ci := 11) (C := RX9) (T := TX9) (N := 24) (As := [.int (zI 4), .long (zL 1)]) (rest := []) ⟨hx, hb, hml, hown, hts⟩ hK hM hC33 (cuV (n := 2) hts u_1261 u_1258 u_10 (by decide) u_1260 us_33 ⟨Nat.le_of_ble_eq_true rfl, Nat.le_of_ble_eq_true rfl⟩) ⟨by omega, by omega⟩ hf32 rfl rfl hl.1 rfl (Nat.le_of_ble_eq_true rfl) dX9_carriesOut_109 ⟨Nat.zero_le _, Nat.zero_le _⟩ (fun f34 H locs hM hp35 => ?_)
      obtain ⟨hn36, o37⟩ := hp35
      obtain ⟨Pz38, hPz38⟩ : ∃ Q : Nat → Int, Q = pu Pz31 (4) (Pz31 (4) + 1) := ⟨_, rfl⟩
      rw [← hPz38] at hn36
      have hf39 := hsc.kept (fun q h1 h2 => ((o37 (q) (by omega)).trans ((o30 (q) (by omega)).trans (o11 (q) (by omega)))))
      refine g_vret hx hb hr hlk hK hM dX9_carriesOut_112 ?_
      have hS : sItmT i P = Pz38 := by unfold sItmT; rw [if_pos hdue]; dsimp only; rw [← hPz12, if_neg (show ¬ Pz12 (99 + 6 * i) = 0 by omega), he1, Int.toNat_natCast, if_neg c73, ← hPz31, ← hPz38]
      refine ⟨?_, hf39, (fun q hq => ((o37 (q) (by omega)).trans ((o30 (q) (by omega)).trans (o11 (q) (by omega)))))⟩
      rw [hS]
      exact hn36
    · skip
      refine lv_aload_n hx hb dX9_carriesOut_76 rfl (lv_at hl 1 rfl) ?_
      refine lv_aload_n hx hb dX9_carriesOut_77 rfl (lv_at hl 1 rfl) ?_
      refine lv_iload_n hx hb dX9_carriesOut_78 rfl (lv_at hl 0 rfl) ?_
      refine g_iconst hx hb dX9_carriesOut_79 ?_
      refine g_iadd hx hb dX9_carriesOut_80 ?_
      have hC40 := c_X9_n l g b0 n f8 h Z M aa Pz12 ((99 + (6 * (↑i : Int))) + 1) (100 + 6 * i) hf13 hn10 hrg hat haa (by omega) (by omega)
      refine g_callVi (ci := 11) (C := RX9) (T := TX9) (N := 24) (As := [.int (zI ((99 + (6 * (↑i : Int))) + 1))]) (rest := [.ref h]) ⟨hx, hb, hml, hown, hts⟩ hK hM hC40 (cuV (n := 1) hts u_1249 u_1246 u_10 (by decide) u_1248 us_30 ⟨Nat.le_of_ble_eq_true rfl, Nat.le_of_ble_eq_true rfl⟩) ⟨by omega, by omega⟩ hf13 rfl rfl hl.1 rfl (Nat.le_of_ble_eq_true rfl) dX9_carriesOut_81 ⟨Nat.zero_le _, Nat.zero_le _⟩ (fun r81 f41 H locs hM hp42 => ?_)
      obtain ⟨rfl, rfl⟩ := hp42
      rw [he1]
      refine lv_aload_n hx hb dX9_carriesOut_84 rfl (lv_at hl 1 rfl) ?_
      refine lv_iload_n hx hb dX9_carriesOut_85 rfl (lv_at hl 0 rfl) ?_
      refine g_iconst hx hb dX9_carriesOut_86 ?_
      refine g_iadd hx hb dX9_carriesOut_87 ?_
      have hC43 := c_X9_p l g b0 n f8 h Z M aa Pz12 ((99 + (6 * (↑i : Int))) + 2) (101 + 6 * i) hf13 hn10 hrg hat haa (by omega) (by omega)
      refine g_callVl (ci := 11) (C := RX9) (T := TX9) (N := 24) (As := [.int (zI ((99 + (6 * (↑i : Int))) + 2))]) (rest := [.int (zI (↑e1 : Int)), .ref h]) ⟨hx, hb, hml, hown, hts⟩ hK hM hC43 (cuV (n := 1) hts u_1283 u_1280 u_10 (by decide) u_1282 us_37 ⟨Nat.le_of_ble_eq_true rfl, Nat.le_of_ble_eq_true rfl⟩) ⟨by omega, by omega⟩ hf13 rfl rfl hl.1 rfl (Nat.le_of_ble_eq_true rfl) dX9_carriesOut_88 ⟨Nat.zero_le _, Nat.zero_le _⟩ (fun r88 f44 H locs hM hp45 => ?_)
      obtain ⟨rfl, rfl⟩ := hp45
      have hC46 := c_X9_spends l g b0 n f8 h Z M aa Pz12 e1 (Pz12 (101 + 6 * i)) hf13 hn10 hrg hat haa (by omega) ⟨by omega, by omega⟩ ⟨by omega, by omega⟩ ⟨by omega, by omega⟩
      refine g_callVl (ci := 11) (C := RX9) (T := TX9) (N := 24) (As := [.int (zI (↑e1 : Int)), .long (zL (Pz12 (101 + 6 * i)))]) (rest := []) ⟨hx, hb, hml, hown, hts⟩ hK hM hC46 (cuV (n := 2) hts u_1323 u_1320 u_10 (by decide) u_1322 us_46 ⟨Nat.le_of_ble_eq_true rfl, Nat.le_of_ble_eq_true rfl⟩) ⟨by omega, by omega⟩ hf13 rfl rfl hl.1 rfl (Nat.le_of_ble_eq_true rfl) dX9_carriesOut_91 ⟨Nat.zero_le _, Nat.zero_le _⟩ (fun r91 f47 H locs hM hp48 => ?_)
      obtain ⟨rfl, hn49, o50⟩ := hp48
      obtain ⟨Pz52, hPz52⟩ : ∃ Q : Nat → Int, Q = sPay Pz12 e1 (Pz12 (101 + 6 * i)) := ⟨_, rfl⟩
      rw [← hPz52] at hn49
      refine lv_lstore_n (lv' := [(3, .long (zL ((Pz12 (101 + 6 * i)) - min (Pz12 (11 + 4 * e1)) (Pz12 (101 + 6 * i))))), (2, .int (zI (99 + (6 * (↑i : Int))))), (0, .ref h), (1, .int (zI (↑i : Int)))]) hx hb dX9_carriesOut_94 rfl hl (by decide) rfl (fun ls hl => ?_)
      refine lv_goto (tgt := 113) hx hb dX9_carriesOut_95 (by decide) ?_
      have hd2 : pOkL Pz52 (v + 1) (i + 1) := by rw [hPz52]; exact pOkL_mono (pOkL_pay hd1 (by omega) (by omega) c73) (by omega)
      refine lv_aload_n hx hb dX9_carriesOut_113 rfl (lv_at hl 2 rfl) ?_
      have hf53 := hsc.kept (fun q h1 h2 => ((o50 (q) (by omega)).trans (o11 (q) (by omega))))
      have hf54 : f47 (h) = .inr (11, [.int (zI (Z 0)), .ref (h + 1), .ref (h + 2), .ref (h + 3), .ref (h + 4), .ref (h + 5), .ref (h + 6), .ref (h + 7), .ref (h + 8), .int (zI (Z 9)), .int (zI (Z 10)), .int (zI (Z 11)), .int (zI (Z 12)), .int (zI (Z 13)), .int (zI (Z 14)), .int (zI (Z 15)), .int (zI (Z 16)), .ref (h + 9), .ref (h + 10), .ref (h + 11), .int (zI (Z 20)), .int (zI (Z 21)), .int (zI (Z 22)), .ref (h + 12)]) := (o50 (h) (by omega)).trans hf13
      have hC55 := c_X9_settles l g b0 n f47 h Z M aa Pz52  hf54 hn49 hrg hat haa hf53 (wfS_mono (pOkL_wfS hd2 (by omega)) (by omega)) hd2.2.2.1
      refine g_callVv (ci := 11) (C := RX9) (T := TX9) (N := 24) (As := []) (rest := []) ⟨hx, hb, hml, hown, hts⟩ hK hM hC55 (cuV (n := 0) hts u_1315 u_1312 u_10 (by decide) u_1314 us_44 ⟨Nat.le_of_ble_eq_true rfl, Nat.le_of_ble_eq_true rfl⟩) ⟨by omega, by omega⟩ hf54 rfl rfl hl.1 rfl (Nat.le_of_ble_eq_true rfl) dX9_carriesOut_114 ⟨Nat.zero_le _, Nat.zero_le _⟩ (fun f56 H locs hM hp57 => ?_)
      obtain ⟨hn58, hs60, o59⟩ := hp57
      obtain ⟨Pz61, hPz61⟩ : ∃ Q : Nat → Int, Q = sSet Pz52 := ⟨_, rfl⟩
      rw [← hPz61] at hn58
      refine g_vret hx hb hr hlk hK hM dX9_carriesOut_117 ?_
      have hS : sItmT i P = Pz61 := by unfold sItmT; rw [if_pos hdue]; dsimp only; rw [← hPz12, if_neg (show ¬ Pz12 (99 + 6 * i) = 0 by omega), he1, Int.toNat_natCast, if_pos c73, ← hPz52, ← hPz61]
      refine ⟨?_, hs60, (fun q hq => ((o59 (q) (by omega)).trans ((o50 (q) (by omega)).trans (o11 (q) (by omega)))))⟩
      rw [hS]
      exact hn58
  · skip
    refine lv_aload_n hx hb dX9_carriesOut_40 rfl (lv_at hl 1 rfl) ?_
    refine lv_aload_n hx hb dX9_carriesOut_41 rfl (lv_at hl 1 rfl) ?_
    refine lv_iload_n hx hb dX9_carriesOut_42 rfl (lv_at hl 0 rfl) ?_
    refine g_iconst hx hb dX9_carriesOut_43 ?_
    refine g_iadd hx hb dX9_carriesOut_44 ?_
    have hC62 := c_X9_p l g b0 n f8 h Z M aa Pz12 ((99 + (6 * (↑i : Int))) + 2) (101 + 6 * i) hf13 hn10 hrg hat haa (by omega) (by omega)
    refine g_callVl (ci := 11) (C := RX9) (T := TX9) (N := 24) (As := [.int (zI ((99 + (6 * (↑i : Int))) + 2))]) (rest := [.ref h]) ⟨hx, hb, hml, hown, hts⟩ hK hM hC62 (cuV (n := 1) hts u_1283 u_1280 u_10 (by decide) u_1282 us_37 ⟨Nat.le_of_ble_eq_true rfl, Nat.le_of_ble_eq_true rfl⟩) ⟨by omega, by omega⟩ hf13 rfl rfl hl.1 rfl (Nat.le_of_ble_eq_true rfl) dX9_carriesOut_45 ⟨Nat.zero_le _, Nat.zero_le _⟩ (fun r45 f63 H locs hM hp64 => ?_)
    obtain ⟨rfl, rfl⟩ := hp64
    have hf65 := hsc.kept (fun q h1 h2 => (o11 (q) (by omega)))
    have hC66 := c_X9_receives l g b0 n f8 h Z M aa Pz12 (Pz12 (101 + 6 * i)) hf13 hn10 hrg hat haa hf65 (wfE_mono hw1.E (by omega)) hd1.2.1 ⟨by omega, by omega⟩
    refine g_callVl (ci := 11) (C := RX9) (T := TX9) (N := 24) (As := [.long (zL (Pz12 (101 + 6 * i)))]) (rest := []) ⟨hx, hb, hml, hown, hts⟩ hK hM hC66 (cuV (n := 1) hts u_1292 u_1289 u_10 (by decide) u_1291 us_39 ⟨Nat.le_of_ble_eq_true rfl, Nat.le_of_ble_eq_true rfl⟩) ⟨by omega, by omega⟩ hf13 rfl rfl hl.1 rfl (Nat.le_of_ble_eq_true rfl) dX9_carriesOut_48 ⟨Nat.zero_le _, Nat.zero_le _⟩ (fun r48 f67 H locs hM hp68 => ?_)
    obtain ⟨rfl, hn69, hs71, o70⟩ := hp68
    obtain ⟨Pz72, hPz72⟩ : ∃ Q : Nat → Int, Q = (sInc Pz12 (Pz12 (101 + 6 * i))).2 := ⟨_, rfl⟩
    rw [← hPz72] at hn69
    refine lv_lstore_n (lv' := [(3, .long (zL ((sInc Pz12 (Pz12 (101 + 6 * i))).1))), (2, .int (zI (99 + (6 * (↑i : Int))))), (0, .ref h), (1, .int (zI (↑i : Int)))]) hx hb dX9_carriesOut_51 rfl hl (by decide) rfl (fun ls hl => ?_)
    refine lv_goto (tgt := 113) hx hb dX9_carriesOut_52 (by decide) ?_
    have hd2 : pOkL Pz72 (v + 1) (i + 1) := by rw [hPz72]; exact pOkL_inc hd1 (by omega) (by omega)
    refine lv_aload_n hx hb dX9_carriesOut_113 rfl (lv_at hl 2 rfl) ?_
    have hf73 : f67 (h) = .inr (11, [.int (zI (Z 0)), .ref (h + 1), .ref (h + 2), .ref (h + 3), .ref (h + 4), .ref (h + 5), .ref (h + 6), .ref (h + 7), .ref (h + 8), .int (zI (Z 9)), .int (zI (Z 10)), .int (zI (Z 11)), .int (zI (Z 12)), .int (zI (Z 13)), .int (zI (Z 14)), .int (zI (Z 15)), .int (zI (Z 16)), .ref (h + 9), .ref (h + 10), .ref (h + 11), .int (zI (Z 20)), .int (zI (Z 21)), .int (zI (Z 22)), .ref (h + 12)]) := (o70 (h) (by omega)).trans hf13
    have hC74 := c_X9_settles l g b0 n f67 h Z M aa Pz72  hf73 hn69 hrg hat haa hs71 (wfS_mono (pOkL_wfS hd2 (by omega)) (by omega)) hd2.2.2.1
    refine g_callVv (ci := 11) (C := RX9) (T := TX9) (N := 24) (As := []) (rest := []) ⟨hx, hb, hml, hown, hts⟩ hK hM hC74 (cuV (n := 0) hts u_1315 u_1312 u_10 (by decide) u_1314 us_44 ⟨Nat.le_of_ble_eq_true rfl, Nat.le_of_ble_eq_true rfl⟩) ⟨by omega, by omega⟩ hf73 rfl rfl hl.1 rfl (Nat.le_of_ble_eq_true rfl) dX9_carriesOut_114 ⟨Nat.zero_le _, Nat.zero_le _⟩ (fun f75 H locs hM hp76 => ?_)
    obtain ⟨hn77, hs79, o78⟩ := hp76
    obtain ⟨Pz80, hPz80⟩ : ∃ Q : Nat → Int, Q = sSet Pz72 := ⟨_, rfl⟩
    rw [← hPz80] at hn77
    refine g_vret hx hb hr hlk hK hM dX9_carriesOut_117 ?_
    have hS : sItmT i P = Pz80 := by unfold sItmT; rw [if_pos hdue]; dsimp only; rw [← hPz12, if_pos (show Pz12 (99 + 6 * i) = 0 by omega), ← hPz72, ← hPz80]
    refine ⟨?_, hs79, (fun q hq => ((o78 (q) (by omega)).trans ((o70 (q) (by omega)).trans (o11 (q) (by omega)))))⟩
    rw [hS]
    exact hn77

def po_X9_day (g : gE) (f : gF) (h : Nat) (Z M : Nat → Int) (aa : Nat) (P : Nat → Int) (v : Int) : gF → Prop := fun f1 => mpAt g f1 h M aa (sDay P) ∧ scrAt g f1 h ∧ ∀ q, (q < h + 1 ∨ (h + 2 ≤ q ∧ q < h + 9) ∨ h + 11 ≤ q) → f1 q = f q
set_option maxRecDepth 100000 in
set_option maxHeartbeats 1000000 in
/-- day() -/
theorem c_X9_day (l : Launch) (g : gE) (b0 n : Nat) (f : gF) (h : Nat) (Z M : Nat → Int) (aa : Nat) (P : Nat → Int) (v : Int) (hO : mdO f h Z) (hP : mpAt g f h M aa P) (hrg : b0 ≤ h ∧ h + 13 ≤ b0 + n) (hat : Z 11 = ↑aa) (haa : aa + 147 ≤ 2058) (hsc : scrAt g f h) (hok : pOk P v) (hv0 : 0 ≤ v) (hv : v + 9 ≤ 800000000) : cV l yX9_day cX9_day 6 none 6 196 [.ref h] g b0 n f (po_X9_day g f h Z M aa P v) := by
  refine gs_v (cc := cX9_day) (maxL := 6) (ret := none) (by decide) (Nat.le_of_ble_eq_true rfl) ?_
  intro p e0 s m args below meth c ls hx hb hr hml hown hts hlk hK hM hl
  have hl : lv_has ls 6 [(0, .ref h)] := hl
  have hp10 := hok.2.2.2.2.2.2.2.1
  refine lv_aload_n hx hb dX9_day_0 rfl (lv_at hl 0 rfl) ?_
  refine g_iconst hx hb dX9_day_1 ?_
  refine g_lconst (z := 1) hx hb dX9_day_2 (by decide) ?_
  have hC1 := c_X9_adds l g b0 n f h Z M aa P 1 (1) 1 hO hP hrg hat haa (by omega) (by omega)
  refine g_callVv (ci := 11) (C := RX9) (T := TX9) (N := 24) (As := [.int (zI 1), .long (zL 1)]) (rest := []) ⟨hx, hb, hml, hown, hts⟩ hK hM hC1 (cuV (n := 2) hts u_1261 u_1258 u_10 (by decide) u_1260 us_33 ⟨Nat.le_of_ble_eq_true rfl, Nat.le_of_ble_eq_true rfl⟩) ⟨by omega, by omega⟩ hO rfl rfl hl.1 rfl (Nat.le_of_ble_eq_true rfl) dX9_day_3 ⟨Nat.zero_le _, Nat.zero_le _⟩ (fun f2 H locs hM hp3 => ?_)
  obtain ⟨hn4, o5⟩ := hp3
  obtain ⟨Pz6, hPz6⟩ : ∃ Q : Nat → Int, Q = pu P (1) (P (1) + 1) := ⟨_, rfl⟩
  rw [← hPz6] at hn4
  refine g_iconst hx hb dX9_day_6 ?_
  refine lv_istore_n (lv' := [(1, .int (zI 0)), (0, .ref h)]) hx hb dX9_day_7 rfl hl (by decide) rfl (fun ls hl => ?_)
  have lp8 : ∀ (k : Nat), ∀ (i : Nat) (Pi : Nat → Int) (fL : gF) (H : Heap) (locs : List Loc) (ls : Array Slot), (8 - i < k) → (Pi = sIt sItmT (pu P 1 (P 1 + 1)) i) → ((i : Int) ≤ Pi 10) → (pOkL Pi (v + 1 + i) i) → (Pi 10 = P 10) → (∀ q, (q < h + 1 ∨ (h + 2 ≤ q ∧ q < h + 9) ∨ h + 11 ≤ q) → fL q = f q) → gH g b0 n fL s.heap H locs → (mdO fL h Z) → (mpAt g fL h M aa Pi) → (scrAt g fL h) → lv_has ls 6 [(0, .ref h), (1, .int (zI (↑i : Int)))] → W p l e0 { frames := 6, cells := 0, slots := 0, locals := 196 } s m args below meth c H locs 0 0 (MQ below (va_Qv (po_X9_day g f h Z M aa P v) (gB g b0 n) (gA b0)) args s 0 0 (gA b0)) (F0 m 8 ls []) := by
    intro k
    induction k with
    | zero =>
      intro i Pi fL H locs ls hk hPi hi hoi hi10b hfr hM hL0 hL1 hL2 hl
      exact absurd hk (Nat.not_lt_zero _)
    | succ k ih8 =>
      intro i Pi fL H locs ls hk hPi hi hoi hi10b hfr hM hL0 hL1 hL2 hl
      have hs1 := hoi.2.2.2.2.2.1
      have hs10 := hoi.2.2.2.2.2.2.2.1
      refine lv_iload_n hx hb dX9_day_8 rfl (lv_at hl 1 rfl) ?_
      refine lv_aload_n hx hb dX9_day_9 rfl (lv_at hl 0 rfl) ?_
      refine g_bipush hx hb dX9_day_10 (by decide) ?_
      have hC7 := c_X9_n l g b0 n fL h Z M aa Pi 10 (10) hL0 hL1 hrg hat haa (by omega) (by omega)
      refine g_callVi (ci := 11) (C := RX9) (T := TX9) (N := 24) (As := [.int (zI 10)]) (rest := [.int (zI (↑i : Int))]) ⟨hx, hb, hml, hown, hts⟩ hK hM hC7 (cuV (n := 1) hts u_1249 u_1246 u_10 (by decide) u_1248 us_30 ⟨Nat.le_of_ble_eq_true rfl, Nat.le_of_ble_eq_true rfl⟩) ⟨by omega, by omega⟩ hL0 rfl rfl hl.1 rfl (Nat.le_of_ble_eq_true rfl) dX9_day_12 ⟨Nat.zero_le _, Nat.zero_le _⟩ (fun r12 f8 H locs hM hp9 => ?_)
      obtain ⟨rfl, rfl⟩ := hp9
      refine g_icmp_ge (tgt := 51) hx hb dX9_day_15 (by decide) ⟨by omega, by omega⟩ ⟨by omega, by omega⟩ (fun c15 => ?_) (fun c15 => ?_)
      · skip
        have hii : (i : Int) = Pi 10 := by omega
        have ho8 := pOkL_all hoi (by omega)
        have hi10b3 : i = (P 10).toNat := by omega
        have hwr := wfE_roll (pOkL_wfS ho8 (by omega)).E
        have ho7 := ho8.1.1
        refine lv_aload_n hx hb dX9_day_51 rfl (lv_at hl 0 rfl) ?_
        refine g_iconst hx hb dX9_day_52 ?_
        have hC10 := c_X9_p l g b0 n fL h Z M aa Pi 1 (1) hL0 hL1 hrg hat haa (by omega) (by omega)
        refine g_callVl (ci := 11) (C := RX9) (T := TX9) (N := 24) (As := [.int (zI 1)]) (rest := []) ⟨hx, hb, hml, hown, hts⟩ hK hM hC10 (cuV (n := 1) hts u_1283 u_1280 u_10 (by decide) u_1282 us_37 ⟨Nat.le_of_ble_eq_true rfl, Nat.le_of_ble_eq_true rfl⟩) ⟨by omega, by omega⟩ hL0 rfl rfl hl.1 rfl (Nat.le_of_ble_eq_true rfl) dX9_day_53 ⟨Nat.zero_le _, Nat.zero_le _⟩ (fun r53 f11 H locs hM hp12 => ?_)
        obtain ⟨rfl, rfl⟩ := hp12
        refine g_ldc2 (z := 30) hx hb hown (hts _ u_1344) dX9_day_56 (by decide) ?_
        refine g_lrem hx hb dX9_day_59 ⟨by omega, by omega⟩ (by decide) (by decide) ?_
        refine g_lconst (z := 0) hx hb dX9_day_60 (by decide) ?_
        refine g_lcmp_eq (tgt := 66) hx hb dX9_day_61 dX9_day_62 (by decide) (rI_L (tm_ok (by omega))) (by decide) (fun c61 => ?_) (fun c61 => ?_)
        · skip
          refine g_iconst hx hb dX9_day_66 ?_
          refine lv_istore_n (lv' := [(1, .int (zI 0)), (0, .ref h)]) hx hb dX9_day_67 rfl hl (by decide) rfl (fun ls hl => ?_)
          have lp68 : ∀ (k2 : Nat), ∀ (j : Nat) (Pj : Nat → Int) (fL : gF) (H : Heap) (locs : List Loc) (ls : Array Slot), (10 - j < k2) → (Pj = sIt sRolT Pi j) → ((j : Int) ≤ Pi 7) → (Pj 7 = Pi 7) → (∀ q, (q < h + 1 ∨ (h + 2 ≤ q ∧ q < h + 9) ∨ h + 11 ≤ q) → fL q = f q) → gH g b0 n fL s.heap H locs → (mdO fL h Z) → (mpAt g fL h M aa Pj) → (scrAt g fL h) → lv_has ls 6 [(0, .ref h), (1, .int (zI (↑j : Int)))] → W p l e0 { frames := 6, cells := 0, slots := 0, locals := 196 } s m args below meth c H locs 0 0 (MQ below (va_Qv (po_X9_day g f h Z M aa P v) (gB g b0 n) (gA b0)) args s 0 0 (gA b0)) (F0 m 68 ls []) := by
            intro k2
            induction k2 with
            | zero =>
              intro j Pj fL H locs ls hk hPj hj hj7b hfr hM hL0 hL1 hL2 hl
              exact absurd hk (Nat.not_lt_zero _)
            | succ k2 ih68 =>
              intro j Pj fL H locs ls hk hPj hj hj7b hfr hM hL0 hL1 hL2 hl
              refine lv_iload_n hx hb dX9_day_68 rfl (lv_at hl 1 rfl) ?_
              refine lv_aload_n hx hb dX9_day_69 rfl (lv_at hl 0 rfl) ?_
              refine g_bipush hx hb dX9_day_70 (by decide) ?_
              have hC13 := c_X9_n l g b0 n fL h Z M aa Pj 7 (7) hL0 hL1 hrg hat haa (by omega) (by omega)
              refine g_callVi (ci := 11) (C := RX9) (T := TX9) (N := 24) (As := [.int (zI 7)]) (rest := [.int (zI (↑j : Int))]) ⟨hx, hb, hml, hown, hts⟩ hK hM hC13 (cuV (n := 1) hts u_1249 u_1246 u_10 (by decide) u_1248 us_30 ⟨Nat.le_of_ble_eq_true rfl, Nat.le_of_ble_eq_true rfl⟩) ⟨by omega, by omega⟩ hL0 rfl rfl hl.1 rfl (Nat.le_of_ble_eq_true rfl) dX9_day_72 ⟨Nat.zero_le _, Nat.zero_le _⟩ (fun r72 f14 H locs hM hp15 => ?_)
              obtain ⟨rfl, rfl⟩ := hp15
              refine g_icmp_ge (tgt := 174) hx hb dX9_day_75 (by decide) ⟨by omega, by omega⟩ ⟨by omega, by omega⟩ (fun c75 => ?_) (fun c75 => ?_)
              · skip
                have hj7 : j = (Pi 7).toNat := by omega
                have hr2 : pOkL Pj (v + 9) 8 := by rw [hPj, hj7]; exact pOkL_mono (pOkL_roll ho8) (by omega)
                refine lv_aload_n hx hb dX9_day_174 rfl (lv_at hl 0 rfl) ?_
                have hC16 := c_X9_settles l g b0 n fL h Z M aa Pj  hL0 hL1 hrg hat haa hL2 (wfS_mono (pOkL_wfS hr2 (by omega)) (by omega)) hr2.2.2.1
                refine g_callVv (ci := 11) (C := RX9) (T := TX9) (N := 24) (As := []) (rest := []) ⟨hx, hb, hml, hown, hts⟩ hK hM hC16 (cuV (n := 0) hts u_1315 u_1312 u_10 (by decide) u_1314 us_44 ⟨Nat.le_of_ble_eq_true rfl, Nat.le_of_ble_eq_true rfl⟩) ⟨by omega, by omega⟩ hL0 rfl rfl hl.1 rfl (Nat.le_of_ble_eq_true rfl) dX9_day_175 ⟨Nat.zero_le _, Nat.zero_le _⟩ (fun f17 H locs hM hp18 => ?_)
                obtain ⟨hn19, hs21, o20⟩ := hp18
                obtain ⟨Pz22, hPz22⟩ : ∃ Q : Nat → Int, Q = sSet Pj := ⟨_, rfl⟩
                rw [← hPz22] at hn19
                refine g_vret hx hb hr hlk hK hM dX9_day_178 ?_
                have hday : sDay P = Pz22 := by
                  unfold sDay
                  dsimp only
                  rw [← hi10b3, ← hPi, if_pos c61, hPz22, hPj, hj7]
                  rfl
                refine ⟨?_, hs21, (fun q hq => ((o20 (q) (by omega)).trans (hfr (q) (by omega))))⟩
                rw [hday]
                exact hn19
              · skip
                have hj9 : j < 10 := by omega
                have hwj := (hwr j (by omega)).1
                rw [← hPj] at hwj
                obtain ⟨⟨hb1, hb2⟩, hb3, hb4, hb5⟩ := hwj.2 j hj9
                refine lv_aload_n hx hb dX9_day_78 rfl (lv_at hl 0 rfl) ?_
                refine g_bipush hx hb dX9_day_79 (by decide) ?_
                refine g_iconst hx hb dX9_day_81 ?_
                refine lv_iload_n hx hb dX9_day_82 rfl (lv_at hl 1 rfl) ?_
                refine g_imul hx hb dX9_day_83 ?_
                refine g_iadd hx hb dX9_day_84 ?_
                have hC23 := c_X9_p l g b0 n fL h Z M aa Pj (11 + (4 * (↑j : Int))) (11 + 4 * j) hL0 hL1 hrg hat haa (by omega) (by omega)
                refine g_callVl (ci := 11) (C := RX9) (T := TX9) (N := 24) (As := [.int (zI (11 + (4 * (↑j : Int))))]) (rest := []) ⟨hx, hb, hml, hown, hts⟩ hK hM hC23 (cuV (n := 1) hts u_1283 u_1280 u_10 (by decide) u_1282 us_37 ⟨Nat.le_of_ble_eq_true rfl, Nat.le_of_ble_eq_true rfl⟩) ⟨by omega, by omega⟩ hL0 rfl rfl hl.1 rfl (Nat.le_of_ble_eq_true rfl) dX9_day_85 ⟨Nat.zero_le _, Nat.zero_le _⟩ (fun r85 f24 H locs hM hp25 => ?_)
                obtain ⟨rfl, rfl⟩ := hp25
                refine lv_lstore_n (lv' := [(2, .long (zL (Pj (11 + 4 * j)))), (0, .ref h), (1, .int (zI (↑j : Int)))]) hx hb dX9_day_88 rfl hl (by decide) rfl (fun ls hl => ?_)
                refine lv_aload_n hx hb dX9_day_89 rfl (lv_at hl 1 rfl) ?_
                refine g_bipush hx hb dX9_day_90 (by decide) ?_
                refine g_iconst hx hb dX9_day_92 ?_
                refine lv_iload_n hx hb dX9_day_93 rfl (lv_at hl 2 rfl) ?_
                refine g_imul hx hb dX9_day_94 ?_
                refine g_iadd hx hb dX9_day_95 ?_
                refine g_iconst hx hb dX9_day_96 ?_
                refine g_iadd hx hb dX9_day_97 ?_
                have hC26 := c_X9_p l g b0 n fL h Z M aa Pj ((11 + (4 * (↑j : Int))) + 2) (13 + 4 * j) hL0 hL1 hrg hat haa (by omega) (by omega)
                refine g_callVl (ci := 11) (C := RX9) (T := TX9) (N := 24) (As := [.int (zI ((11 + (4 * (↑j : Int))) + 2))]) (rest := []) ⟨hx, hb, hml, hown, hts⟩ hK hM hC26 (cuV (n := 1) hts u_1283 u_1280 u_10 (by decide) u_1282 us_37 ⟨Nat.le_of_ble_eq_true rfl, Nat.le_of_ble_eq_true rfl⟩) ⟨by omega, by omega⟩ hL0 rfl rfl hl.1 rfl (Nat.le_of_ble_eq_true rfl) dX9_day_98 ⟨Nat.zero_le _, Nat.zero_le _⟩ (fun r98 f27 H locs hM hp28 => ?_)
                obtain ⟨rfl, rfl⟩ := hp28
                refine g_lconst (z := 1) hx hb dX9_day_101 (by decide) ?_
                refine g_lcmp_ne (tgt := 110) hx hb dX9_day_102 dX9_day_103 (by decide) ⟨by omega, by omega⟩ (by decide) (fun c102 => ?_) (fun c102 => ?_)
                · skip
                  refine lv_aload_n hx hb dX9_day_110 rfl (lv_at hl 1 rfl) ?_
                  refine g_bipush hx hb dX9_day_111 (by decide) ?_
                  refine g_iconst hx hb dX9_day_113 ?_
                  refine lv_iload_n hx hb dX9_day_114 rfl (lv_at hl 2 rfl) ?_
                  refine g_imul hx hb dX9_day_115 ?_
                  refine g_iadd hx hb dX9_day_116 ?_
                  refine g_iconst hx hb dX9_day_117 ?_
                  refine g_iadd hx hb dX9_day_118 ?_
                  have hC29 := c_X9_p l g b0 n fL h Z M aa Pj ((11 + (4 * (↑j : Int))) + 2) (13 + 4 * j) hL0 hL1 hrg hat haa (by omega) (by omega)
                  refine g_callVl (ci := 11) (C := RX9) (T := TX9) (N := 24) (As := [.int (zI ((11 + (4 * (↑j : Int))) + 2))]) (rest := []) ⟨hx, hb, hml, hown, hts⟩ hK hM hC29 (cuV (n := 1) hts u_1283 u_1280 u_10 (by decide) u_1282 us_37 ⟨Nat.le_of_ble_eq_true rfl, Nat.le_of_ble_eq_true rfl⟩) ⟨by omega, by omega⟩ hL0 rfl rfl hl.1 rfl (Nat.le_of_ble_eq_true rfl) dX9_day_119 ⟨Nat.zero_le _, Nat.zero_le _⟩ (fun r119 f30 H locs hM hp31 => ?_)
                  obtain ⟨rfl, rfl⟩ := hp31
                  refine g_ldc2 (z := 2) hx hb hown (hts _ u_1241) dX9_day_122 (by decide) ?_
                  refine g_lcmp_ne (tgt := 137) hx hb dX9_day_125 dX9_day_126 (by decide) ⟨by omega, by omega⟩ (by decide) (fun c125 => ?_) (fun c125 => ?_)
                  · skip
                    refine g_lconst (z := 0) hx hb dX9_day_137 (by decide) ?_
                    refine lv_lstore (lv' := [(4, .long (zL 0)), (2, .long (zL (Pj (11 + 4 * j)))), (0, .ref h), (1, .int (zI (↑j : Int)))]) hx hb dX9_day_138 hl (by decide) rfl (fun ls hl => ?_)
                    have hrv0 : 0 = sRel Pj j := by unfold sRel <;> (repeat' split) <;> first | rfl | (exfalso; omega)
                    obtain ⟨rv, hrv⟩ : ∃ q : Int, q = sRel Pj j := ⟨_, rfl⟩
                    rw [hrv0, ← hrv] at hl
                    have hri := sRel_in (P := Pj) (e := j) (by omega)
                    refine lv_aload_n hx hb dX9_day_140 rfl (lv_at hl 2 rfl) ?_
                    refine g_bipush hx hb dX9_day_141 (by decide) ?_
                    refine g_iconst hx hb dX9_day_143 ?_
                    refine lv_iload_n hx hb dX9_day_144 rfl (lv_at hl 3 rfl) ?_
                    refine g_imul hx hb dX9_day_145 ?_
                    refine g_iadd hx hb dX9_day_146 ?_
                    refine lv_lload hx hb dX9_day_147 (lv_at hl 0 rfl) ?_
                    refine g_lneg hx hb dX9_day_149 ?_
                    have hC32 := c_X9_adds l g b0 n fL h Z M aa Pj (11 + (4 * (↑j : Int))) (11 + 4 * j) (-rv) hL0 hL1 hrg hat haa (by omega) (by omega)
                    refine g_callVv (ci := 11) (C := RX9) (T := TX9) (N := 24) (As := [.int (zI (11 + (4 * (↑j : Int)))), .long (zL (-rv))]) (rest := []) ⟨hx, hb, hml, hown, hts⟩ hK hM hC32 (cuV (n := 2) hts u_1261 u_1258 u_10 (by decide) u_1260 us_33 ⟨Nat.le_of_ble_eq_true rfl, Nat.le_of_ble_eq_true rfl⟩) ⟨by omega, by omega⟩ hL0 rfl rfl hl.1 rfl (Nat.le_of_ble_eq_true rfl) dX9_day_150 ⟨Nat.zero_le _, Nat.zero_le _⟩ (fun f33 H locs hM hp34 => ?_)
                    obtain ⟨hn35, o36⟩ := hp34
                    obtain ⟨Pz37, hPz37⟩ : ∃ Q : Nat → Int, Q = pu Pj (11 + 4 * j) (Pj (11 + 4 * j) + (-rv)) := ⟨_, rfl⟩
                    rw [← hPz37] at hn35
                    refine lv_aload_n hx hb dX9_day_153 rfl (lv_at hl 2 rfl) ?_
                    refine g_iconst hx hb dX9_day_154 ?_
                    refine lv_lload hx hb dX9_day_155 (lv_at hl 0 rfl) ?_
                    have hf38 : f33 (h) = .inr (11, [.int (zI (Z 0)), .ref (h + 1), .ref (h + 2), .ref (h + 3), .ref (h + 4), .ref (h + 5), .ref (h + 6), .ref (h + 7), .ref (h + 8), .int (zI (Z 9)), .int (zI (Z 10)), .int (zI (Z 11)), .int (zI (Z 12)), .int (zI (Z 13)), .int (zI (Z 14)), .int (zI (Z 15)), .int (zI (Z 16)), .ref (h + 9), .ref (h + 10), .ref (h + 11), .int (zI (Z 20)), .int (zI (Z 21)), .int (zI (Z 22)), .ref (h + 12)]) := (o36 (h) (by omega)).trans hL0
                    have hC39 := c_X9_adds l g b0 n f33 h Z M aa Pz37 0 (0) rv hf38 hn35 hrg hat haa (by omega) (by omega)
                    refine g_callVv (ci := 11) (C := RX9) (T := TX9) (N := 24) (As := [.int (zI 0), .long (zL rv)]) (rest := []) ⟨hx, hb, hml, hown, hts⟩ hK hM hC39 (cuV (n := 2) hts u_1261 u_1258 u_10 (by decide) u_1260 us_33 ⟨Nat.le_of_ble_eq_true rfl, Nat.le_of_ble_eq_true rfl⟩) ⟨by omega, by omega⟩ hf38 rfl rfl hl.1 rfl (Nat.le_of_ble_eq_true rfl) dX9_day_157 ⟨Nat.zero_le _, Nat.zero_le _⟩ (fun f40 H locs hM hp41 => ?_)
                    obtain ⟨hn42, o43⟩ := hp41
                    obtain ⟨Pz44, hPz44⟩ : ∃ Q : Nat → Int, Q = pu Pz37 (0) (Pz37 (0) + rv) := ⟨_, rfl⟩
                    rw [← hPz44] at hn42
                    refine lv_aload_n hx hb dX9_day_160 rfl (lv_at hl 2 rfl) ?_
                    refine g_bipush hx hb dX9_day_161 (by decide) ?_
                    refine lv_lload hx hb dX9_day_163 (lv_at hl 0 rfl) ?_
                    have hf45 : f40 (h) = .inr (11, [.int (zI (Z 0)), .ref (h + 1), .ref (h + 2), .ref (h + 3), .ref (h + 4), .ref (h + 5), .ref (h + 6), .ref (h + 7), .ref (h + 8), .int (zI (Z 9)), .int (zI (Z 10)), .int (zI (Z 11)), .int (zI (Z 12)), .int (zI (Z 13)), .int (zI (Z 14)), .int (zI (Z 15)), .int (zI (Z 16)), .ref (h + 9), .ref (h + 10), .ref (h + 11), .int (zI (Z 20)), .int (zI (Z 21)), .int (zI (Z 22)), .ref (h + 12)]) := (o43 (h) (by omega)).trans hf38
                    have hC46 := c_X9_adds l g b0 n f40 h Z M aa Pz44 6 (6) rv hf45 hn42 hrg hat haa (by omega) (by omega)
                    refine g_callVv (ci := 11) (C := RX9) (T := TX9) (N := 24) (As := [.int (zI 6), .long (zL rv)]) (rest := []) ⟨hx, hb, hml, hown, hts⟩ hK hM hC46 (cuV (n := 2) hts u_1261 u_1258 u_10 (by decide) u_1260 us_33 ⟨Nat.le_of_ble_eq_true rfl, Nat.le_of_ble_eq_true rfl⟩) ⟨by omega, by omega⟩ hf45 rfl rfl hl.1 rfl (Nat.le_of_ble_eq_true rfl) dX9_day_165 ⟨Nat.zero_le _, Nat.zero_le _⟩ (fun f47 H locs hM hp48 => ?_)
                    obtain ⟨hn49, o50⟩ := hp48
                    obtain ⟨Pz51, hPz51⟩ : ∃ Q : Nat → Int, Q = pu Pz44 (6) (Pz44 (6) + rv) := ⟨_, rfl⟩
                    rw [← hPz51] at hn49
                    refine lv_iinc (v := zI ((↑j : Int) + 1)) (lv' := [(1, .int (zI ((↑j : Int) + 1))), (4, .long (zL rv)), (2, .long (zL (Pj (11 + 4 * j)))), (0, .ref h)]) hx hb dX9_day_168 hl (k := 3) rfl (zI_add _ _) (by decide) rfl (fun ls hl => ?_)
                    refine lv_goto (tgt := 68) hx hb dX9_day_171 (by decide) ?_
                    have hQ : Pz51 = sRolT j Pj := by
                      rw [hPz51, hPz44, pu_n (j := 6) (k := 0) (by omega), hPz37]
                      simp only [sRolT, Int.sub_eq_add_neg, ← hrv]
                    have hf52 : f47 (h) = .inr (11, [.int (zI (Z 0)), .ref (h + 1), .ref (h + 2), .ref (h + 3), .ref (h + 4), .ref (h + 5), .ref (h + 6), .ref (h + 7), .ref (h + 8), .int (zI (Z 9)), .int (zI (Z 10)), .int (zI (Z 11)), .int (zI (Z 12)), .int (zI (Z 13)), .int (zI (Z 14)), .int (zI (Z 15)), .int (zI (Z 16)), .ref (h + 9), .ref (h + 10), .ref (h + 11), .int (zI (Z 20)), .int (zI (Z 21)), .int (zI (Z 22)), .ref (h + 12)]) := (o50 (h) (by omega)).trans hf45
                    have hf53 := hL2.kept (fun q h1 h2 => ((o50 (q) (by omega)).trans ((o43 (q) (by omega)).trans (o36 (q) (by omega)))))
                    exact ih68 (j + 1) Pz51 f47 _ _ _ (by omega) (by rw [sIt_succ, ← hPj]; exact hQ) (by omega) (by rw [hQ, sRolT_at (by omega)]; exact hj7b) (fun q hq => ((o50 (q) (by omega)).trans ((o43 (q) (by omega)).trans ((o36 (q) (by omega)).trans (hfr (q) (by omega)))))) hM hf52 hn49 hf53 (lv_sub hl [3, 0] rfl)
                  · skip
                    refine lv_lload_n hx hb dX9_day_129 rfl (lv_at hl 0 rfl) ?_
                    refine g_ldc2 (z := 2) hx hb hown (hts _ u_1241) dX9_day_130 (by decide) ?_
                    refine g_ldiv hx hb dX9_day_133 ⟨by omega, by omega⟩ (by decide) (by decide) ?_
                    refine lv_goto (tgt := 138) hx hb dX9_day_134 (by decide) ?_
                    refine lv_lstore (lv' := [(4, .long (zL (Int.tdiv (Pj (11 + 4 * j)) 2))), (2, .long (zL (Pj (11 + 4 * j)))), (0, .ref h), (1, .int (zI (↑j : Int)))]) hx hb dX9_day_138 hl (by decide) rfl (fun ls hl => ?_)
                    have hrv0 : (Int.tdiv (Pj (11 + 4 * j)) 2) = sRel Pj j := by unfold sRel <;> (repeat' split) <;> first | rfl | (exfalso; omega)
                    obtain ⟨rv, hrv⟩ : ∃ q : Int, q = sRel Pj j := ⟨_, rfl⟩
                    rw [hrv0, ← hrv] at hl
                    have hri := sRel_in (P := Pj) (e := j) (by omega)
                    refine lv_aload_n hx hb dX9_day_140 rfl (lv_at hl 2 rfl) ?_
                    refine g_bipush hx hb dX9_day_141 (by decide) ?_
                    refine g_iconst hx hb dX9_day_143 ?_
                    refine lv_iload_n hx hb dX9_day_144 rfl (lv_at hl 3 rfl) ?_
                    refine g_imul hx hb dX9_day_145 ?_
                    refine g_iadd hx hb dX9_day_146 ?_
                    refine lv_lload hx hb dX9_day_147 (lv_at hl 0 rfl) ?_
                    refine g_lneg hx hb dX9_day_149 ?_
                    have hC54 := c_X9_adds l g b0 n fL h Z M aa Pj (11 + (4 * (↑j : Int))) (11 + 4 * j) (-rv) hL0 hL1 hrg hat haa (by omega) (by omega)
                    refine g_callVv (ci := 11) (C := RX9) (T := TX9) (N := 24) (As := [.int (zI (11 + (4 * (↑j : Int)))), .long (zL (-rv))]) (rest := []) ⟨hx, hb, hml, hown, hts⟩ hK hM hC54 (cuV (n := 2) hts u_1261 u_1258 u_10 (by decide) u_1260 us_33 ⟨Nat.le_of_ble_eq_true rfl, Nat.le_of_ble_eq_true rfl⟩) ⟨by omega, by omega⟩ hL0 rfl rfl hl.1 rfl (Nat.le_of_ble_eq_true rfl) dX9_day_150 ⟨Nat.zero_le _, Nat.zero_le _⟩ (fun f55 H locs hM hp56 => ?_)
                    obtain ⟨hn57, o58⟩ := hp56
                    obtain ⟨Pz59, hPz59⟩ : ∃ Q : Nat → Int, Q = pu Pj (11 + 4 * j) (Pj (11 + 4 * j) + (-rv)) := ⟨_, rfl⟩
                    rw [← hPz59] at hn57
                    refine lv_aload_n hx hb dX9_day_153 rfl (lv_at hl 2 rfl) ?_
                    refine g_iconst hx hb dX9_day_154 ?_
                    refine lv_lload hx hb dX9_day_155 (lv_at hl 0 rfl) ?_
                    have hf60 : f55 (h) = .inr (11, [.int (zI (Z 0)), .ref (h + 1), .ref (h + 2), .ref (h + 3), .ref (h + 4), .ref (h + 5), .ref (h + 6), .ref (h + 7), .ref (h + 8), .int (zI (Z 9)), .int (zI (Z 10)), .int (zI (Z 11)), .int (zI (Z 12)), .int (zI (Z 13)), .int (zI (Z 14)), .int (zI (Z 15)), .int (zI (Z 16)), .ref (h + 9), .ref (h + 10), .ref (h + 11), .int (zI (Z 20)), .int (zI (Z 21)), .int (zI (Z 22)), .ref (h + 12)]) := (o58 (h) (by omega)).trans hL0
                    have hC61 := c_X9_adds l g b0 n f55 h Z M aa Pz59 0 (0) rv hf60 hn57 hrg hat haa (by omega) (by omega)
                    refine g_callVv (ci := 11) (C := RX9) (T := TX9) (N := 24) (As := [.int (zI 0), .long (zL rv)]) (rest := []) ⟨hx, hb, hml, hown, hts⟩ hK hM hC61 (cuV (n := 2) hts u_1261 u_1258 u_10 (by decide) u_1260 us_33 ⟨Nat.le_of_ble_eq_true rfl, Nat.le_of_ble_eq_true rfl⟩) ⟨by omega, by omega⟩ hf60 rfl rfl hl.1 rfl (Nat.le_of_ble_eq_true rfl) dX9_day_157 ⟨Nat.zero_le _, Nat.zero_le _⟩ (fun f62 H locs hM hp63 => ?_)
                    obtain ⟨hn64, o65⟩ := hp63
                    obtain ⟨Pz66, hPz66⟩ : ∃ Q : Nat → Int, Q = pu Pz59 (0) (Pz59 (0) + rv) := ⟨_, rfl⟩
                    rw [← hPz66] at hn64
                    refine lv_aload_n hx hb dX9_day_160 rfl (lv_at hl 2 rfl) ?_
                    refine g_bipush hx hb dX9_day_161 (by decide) ?_
                    refine lv_lload hx hb dX9_day_163 (lv_at hl 0 rfl) ?_
                    have hf67 : f62 (h) = .inr (11, [.int (zI (Z 0)), .ref (h + 1), .ref (h + 2), .ref (h + 3), .ref (h + 4), .ref (h + 5), .ref (h + 6), .ref (h + 7), .ref (h + 8), .int (zI (Z 9)), .int (zI (Z 10)), .int (zI (Z 11)), .int (zI (Z 12)), .int (zI (Z 13)), .int (zI (Z 14)), .int (zI (Z 15)), .int (zI (Z 16)), .ref (h + 9), .ref (h + 10), .ref (h + 11), .int (zI (Z 20)), .int (zI (Z 21)), .int (zI (Z 22)), .ref (h + 12)]) := (o65 (h) (by omega)).trans hf60
                    have hC68 := c_X9_adds l g b0 n f62 h Z M aa Pz66 6 (6) rv hf67 hn64 hrg hat haa (by omega) (by omega)
                    refine g_callVv (ci := 11) (C := RX9) (T := TX9) (N := 24) (As := [.int (zI 6), .long (zL rv)]) (rest := []) ⟨hx, hb, hml, hown, hts⟩ hK hM hC68 (cuV (n := 2) hts u_1261 u_1258 u_10 (by decide) u_1260 us_33 ⟨Nat.le_of_ble_eq_true rfl, Nat.le_of_ble_eq_true rfl⟩) ⟨by omega, by omega⟩ hf67 rfl rfl hl.1 rfl (Nat.le_of_ble_eq_true rfl) dX9_day_165 ⟨Nat.zero_le _, Nat.zero_le _⟩ (fun f69 H locs hM hp70 => ?_)
                    obtain ⟨hn71, o72⟩ := hp70
                    obtain ⟨Pz73, hPz73⟩ : ∃ Q : Nat → Int, Q = pu Pz66 (6) (Pz66 (6) + rv) := ⟨_, rfl⟩
                    rw [← hPz73] at hn71
                    refine lv_iinc (v := zI ((↑j : Int) + 1)) (lv' := [(1, .int (zI ((↑j : Int) + 1))), (4, .long (zL rv)), (2, .long (zL (Pj (11 + 4 * j)))), (0, .ref h)]) hx hb dX9_day_168 hl (k := 3) rfl (zI_add _ _) (by decide) rfl (fun ls hl => ?_)
                    refine lv_goto (tgt := 68) hx hb dX9_day_171 (by decide) ?_
                    have hQ : Pz73 = sRolT j Pj := by
                      rw [hPz73, hPz66, pu_n (j := 6) (k := 0) (by omega), hPz59]
                      simp only [sRolT, Int.sub_eq_add_neg, ← hrv]
                    have hf74 : f69 (h) = .inr (11, [.int (zI (Z 0)), .ref (h + 1), .ref (h + 2), .ref (h + 3), .ref (h + 4), .ref (h + 5), .ref (h + 6), .ref (h + 7), .ref (h + 8), .int (zI (Z 9)), .int (zI (Z 10)), .int (zI (Z 11)), .int (zI (Z 12)), .int (zI (Z 13)), .int (zI (Z 14)), .int (zI (Z 15)), .int (zI (Z 16)), .ref (h + 9), .ref (h + 10), .ref (h + 11), .int (zI (Z 20)), .int (zI (Z 21)), .int (zI (Z 22)), .ref (h + 12)]) := (o72 (h) (by omega)).trans hf67
                    have hf75 := hL2.kept (fun q h1 h2 => ((o72 (q) (by omega)).trans ((o65 (q) (by omega)).trans (o58 (q) (by omega)))))
                    exact ih68 (j + 1) Pz73 f69 _ _ _ (by omega) (by rw [sIt_succ, ← hPj]; exact hQ) (by omega) (by rw [hQ, sRolT_at (by omega)]; exact hj7b) (fun q hq => ((o72 (q) (by omega)).trans ((o65 (q) (by omega)).trans ((o58 (q) (by omega)).trans (hfr (q) (by omega)))))) hM hf74 hn71 hf75 (lv_sub hl [3, 0] rfl)
                · skip
                  refine lv_lload_n hx hb dX9_day_106 rfl (lv_at hl 0 rfl) ?_
                  refine lv_goto (tgt := 138) hx hb dX9_day_107 (by decide) ?_
                  refine lv_lstore (lv' := [(4, .long (zL (Pj (11 + 4 * j)))), (2, .long (zL (Pj (11 + 4 * j)))), (0, .ref h), (1, .int (zI (↑j : Int)))]) hx hb dX9_day_138 hl (by decide) rfl (fun ls hl => ?_)
                  have hrv0 : (Pj (11 + 4 * j)) = sRel Pj j := by unfold sRel <;> (repeat' split) <;> first | rfl | (exfalso; omega)
                  obtain ⟨rv, hrv⟩ : ∃ q : Int, q = sRel Pj j := ⟨_, rfl⟩
                  rw [hrv0, ← hrv] at hl
                  have hri := sRel_in (P := Pj) (e := j) (by omega)
                  refine lv_aload_n hx hb dX9_day_140 rfl (lv_at hl 2 rfl) ?_
                  refine g_bipush hx hb dX9_day_141 (by decide) ?_
                  refine g_iconst hx hb dX9_day_143 ?_
                  refine lv_iload_n hx hb dX9_day_144 rfl (lv_at hl 3 rfl) ?_
                  refine g_imul hx hb dX9_day_145 ?_
                  refine g_iadd hx hb dX9_day_146 ?_
                  refine lv_lload hx hb dX9_day_147 (lv_at hl 0 rfl) ?_
                  refine g_lneg hx hb dX9_day_149 ?_
                  have hC76 := c_X9_adds l g b0 n fL h Z M aa Pj (11 + (4 * (↑j : Int))) (11 + 4 * j) (-rv) hL0 hL1 hrg hat haa (by omega) (by omega)
                  refine g_callVv (ci := 11) (C := RX9) (T := TX9) (N := 24) (As := [.int (zI (11 + (4 * (↑j : Int)))), .long (zL (-rv))]) (rest := []) ⟨hx, hb, hml, hown, hts⟩ hK hM hC76 (cuV (n := 2) hts u_1261 u_1258 u_10 (by decide) u_1260 us_33 ⟨Nat.le_of_ble_eq_true rfl, Nat.le_of_ble_eq_true rfl⟩) ⟨by omega, by omega⟩ hL0 rfl rfl hl.1 rfl (Nat.le_of_ble_eq_true rfl) dX9_day_150 ⟨Nat.zero_le _, Nat.zero_le _⟩ (fun f77 H locs hM hp78 => ?_)
                  obtain ⟨hn79, o80⟩ := hp78
                  obtain ⟨Pz81, hPz81⟩ : ∃ Q : Nat → Int, Q = pu Pj (11 + 4 * j) (Pj (11 + 4 * j) + (-rv)) := ⟨_, rfl⟩
                  rw [← hPz81] at hn79
                  refine lv_aload_n hx hb dX9_day_153 rfl (lv_at hl 2 rfl) ?_
                  refine g_iconst hx hb dX9_day_154 ?_
                  refine lv_lload hx hb dX9_day_155 (lv_at hl 0 rfl) ?_
                  have hf82 : f77 (h) = .inr (11, [.int (zI (Z 0)), .ref (h + 1), .ref (h + 2), .ref (h + 3), .ref (h + 4), .ref (h + 5), .ref (h + 6), .ref (h + 7), .ref (h + 8), .int (zI (Z 9)), .int (zI (Z 10)), .int (zI (Z 11)), .int (zI (Z 12)), .int (zI (Z 13)), .int (zI (Z 14)), .int (zI (Z 15)), .int (zI (Z 16)), .ref (h + 9), .ref (h + 10), .ref (h + 11), .int (zI (Z 20)), .int (zI (Z 21)), .int (zI (Z 22)), .ref (h + 12)]) := (o80 (h) (by omega)).trans hL0
                  have hC83 := c_X9_adds l g b0 n f77 h Z M aa Pz81 0 (0) rv hf82 hn79 hrg hat haa (by omega) (by omega)
                  refine g_callVv (ci := 11) (C := RX9) (T := TX9) (N := 24) (As := [.int (zI 0), .long (zL rv)]) (rest := []) ⟨hx, hb, hml, hown, hts⟩ hK hM hC83 (cuV (n := 2) hts u_1261 u_1258 u_10 (by decide) u_1260 us_33 ⟨Nat.le_of_ble_eq_true rfl, Nat.le_of_ble_eq_true rfl⟩) ⟨by omega, by omega⟩ hf82 rfl rfl hl.1 rfl (Nat.le_of_ble_eq_true rfl) dX9_day_157 ⟨Nat.zero_le _, Nat.zero_le _⟩ (fun f84 H locs hM hp85 => ?_)
                  obtain ⟨hn86, o87⟩ := hp85
                  obtain ⟨Pz88, hPz88⟩ : ∃ Q : Nat → Int, Q = pu Pz81 (0) (Pz81 (0) + rv) := ⟨_, rfl⟩
                  rw [← hPz88] at hn86
                  refine lv_aload_n hx hb dX9_day_160 rfl (lv_at hl 2 rfl) ?_
                  refine g_bipush hx hb dX9_day_161 (by decide) ?_
                  refine lv_lload hx hb dX9_day_163 (lv_at hl 0 rfl) ?_
                  have hf89 : f84 (h) = .inr (11, [.int (zI (Z 0)), .ref (h + 1), .ref (h + 2), .ref (h + 3), .ref (h + 4), .ref (h + 5), .ref (h + 6), .ref (h + 7), .ref (h + 8), .int (zI (Z 9)), .int (zI (Z 10)), .int (zI (Z 11)), .int (zI (Z 12)), .int (zI (Z 13)), .int (zI (Z 14)), .int (zI (Z 15)), .int (zI (Z 16)), .ref (h + 9), .ref (h + 10), .ref (h + 11), .int (zI (Z 20)), .int (zI (Z 21)), .int (zI (Z 22)), .ref (h + 12)]) := (o87 (h) (by omega)).trans hf82
                  have hC90 := c_X9_adds l g b0 n f84 h Z M aa Pz88 6 (6) rv hf89 hn86 hrg hat haa (by omega) (by omega)
                  refine g_callVv (ci := 11) (C := RX9) (T := TX9) (N := 24) (As := [.int (zI 6), .long (zL rv)]) (rest := []) ⟨hx, hb, hml, hown, hts⟩ hK hM hC90 (cuV (n := 2) hts u_1261 u_1258 u_10 (by decide) u_1260 us_33 ⟨Nat.le_of_ble_eq_true rfl, Nat.le_of_ble_eq_true rfl⟩) ⟨by omega, by omega⟩ hf89 rfl rfl hl.1 rfl (Nat.le_of_ble_eq_true rfl) dX9_day_165 ⟨Nat.zero_le _, Nat.zero_le _⟩ (fun f91 H locs hM hp92 => ?_)
                  obtain ⟨hn93, o94⟩ := hp92
                  obtain ⟨Pz95, hPz95⟩ : ∃ Q : Nat → Int, Q = pu Pz88 (6) (Pz88 (6) + rv) := ⟨_, rfl⟩
                  rw [← hPz95] at hn93
                  refine lv_iinc (v := zI ((↑j : Int) + 1)) (lv' := [(1, .int (zI ((↑j : Int) + 1))), (4, .long (zL rv)), (2, .long (zL rv)), (0, .ref h)]) hx hb dX9_day_168 hl (k := 3) rfl (zI_add _ _) (by decide) rfl (fun ls hl => ?_)
                  refine lv_goto (tgt := 68) hx hb dX9_day_171 (by decide) ?_
                  have hQ : Pz95 = sRolT j Pj := by
                    rw [hPz95, hPz88, pu_n (j := 6) (k := 0) (by omega), hPz81]
                    simp only [sRolT, Int.sub_eq_add_neg, ← hrv]
                  have hf96 : f91 (h) = .inr (11, [.int (zI (Z 0)), .ref (h + 1), .ref (h + 2), .ref (h + 3), .ref (h + 4), .ref (h + 5), .ref (h + 6), .ref (h + 7), .ref (h + 8), .int (zI (Z 9)), .int (zI (Z 10)), .int (zI (Z 11)), .int (zI (Z 12)), .int (zI (Z 13)), .int (zI (Z 14)), .int (zI (Z 15)), .int (zI (Z 16)), .ref (h + 9), .ref (h + 10), .ref (h + 11), .int (zI (Z 20)), .int (zI (Z 21)), .int (zI (Z 22)), .ref (h + 12)]) := (o94 (h) (by omega)).trans hf89
                  have hf97 := hL2.kept (fun q h1 h2 => ((o94 (q) (by omega)).trans ((o87 (q) (by omega)).trans (o80 (q) (by omega)))))
                  exact ih68 (j + 1) Pz95 f91 _ _ _ (by omega) (by rw [sIt_succ, ← hPj]; exact hQ) (by omega) (by rw [hQ, sRolT_at (by omega)]; exact hj7b) (fun q hq => ((o94 (q) (by omega)).trans ((o87 (q) (by omega)).trans ((o80 (q) (by omega)).trans (hfr (q) (by omega)))))) hM hf96 hn93 hf97 (lv_sub hl [3, 0] rfl)
          exact lp68 (11) 0 Pi fL _ _ _ (by omega) rfl (by omega) rfl (fun q hq => (hfr (q) (by omega))) hM hL0 hL1 hL2 (lv_sub hl [1, 0] rfl)
        · skip
          refine g_vret hx hb hr hlk hK hM dX9_day_65 ?_
          have hday : sDay P = Pi := by
            unfold sDay
            dsimp only
            rw [← hi10b3, ← hPi, if_neg c61]
          refine ⟨?_, hL2, (fun q hq => (hfr (q) (by omega)))⟩
          rw [hday]
          exact hL1
      · skip
        have hi10 : (i : Int) < Pi 10 := by omega
        obtain ⟨⟨hx1, ⟨hx2, hx3⟩, ⟨hx4, hx5⟩, ⟨hx6, hx7⟩⟩, ⟨hx8, hx9⟩, hx10⟩ := hoi.2.2.2.2.2.2.2.2 i hi10
        refine lv_aload_n hx hb dX9_day_18 rfl (lv_at hl 0 rfl) ?_
        refine g_bipush hx hb dX9_day_19 (by decide) ?_
        refine g_bipush hx hb dX9_day_21 (by decide) ?_
        refine lv_iload_n hx hb dX9_day_23 rfl (lv_at hl 1 rfl) ?_
        refine g_imul hx hb dX9_day_24 ?_
        refine g_iadd hx hb dX9_day_25 ?_
        refine g_iconst hx hb dX9_day_26 ?_
        refine g_iadd hx hb dX9_day_27 ?_
        have hC98 := c_X9_p l g b0 n fL h Z M aa Pi ((99 + (6 * (↑i : Int))) + 4) (103 + 6 * i) hL0 hL1 hrg hat haa (by omega) (by omega)
        refine g_callVl (ci := 11) (C := RX9) (T := TX9) (N := 24) (As := [.int (zI ((99 + (6 * (↑i : Int))) + 4))]) (rest := []) ⟨hx, hb, hml, hown, hts⟩ hK hM hC98 (cuV (n := 1) hts u_1283 u_1280 u_10 (by decide) u_1282 us_37 ⟨Nat.le_of_ble_eq_true rfl, Nat.le_of_ble_eq_true rfl⟩) ⟨by omega, by omega⟩ hL0 rfl rfl hl.1 rfl (Nat.le_of_ble_eq_true rfl) dX9_day_28 ⟨Nat.zero_le _, Nat.zero_le _⟩ (fun r28 f99 H locs hM hp100 => ?_)
        obtain ⟨rfl, rfl⟩ := hp100
        refine lv_aload_n hx hb dX9_day_31 rfl (lv_at hl 0 rfl) ?_
        refine g_iconst hx hb dX9_day_32 ?_
        have hC101 := c_X9_p l g b0 n fL h Z M aa Pi 1 (1) hL0 hL1 hrg hat haa (by omega) (by omega)
        refine g_callVl (ci := 11) (C := RX9) (T := TX9) (N := 24) (As := [.int (zI 1)]) (rest := [.long (zL (Pi (103 + 6 * i)))]) ⟨hx, hb, hml, hown, hts⟩ hK hM hC101 (cuV (n := 1) hts u_1283 u_1280 u_10 (by decide) u_1282 us_37 ⟨Nat.le_of_ble_eq_true rfl, Nat.le_of_ble_eq_true rfl⟩) ⟨by omega, by omega⟩ hL0 rfl rfl hl.1 rfl (Nat.le_of_ble_eq_true rfl) dX9_day_33 ⟨Nat.zero_le _, Nat.zero_le _⟩ (fun r33 f102 H locs hM hp103 => ?_)
        obtain ⟨rfl, rfl⟩ := hp103
        refine g_lcmp_ne (tgt := 45) hx hb dX9_day_36 dX9_day_37 (by decide) ⟨by omega, by omega⟩ ⟨by omega, by omega⟩ (fun c36 => ?_) (fun c36 => ?_)
        · skip
          refine lv_iinc (v := zI ((↑i : Int) + 1)) (lv' := [(1, .int (zI ((↑i : Int) + 1))), (0, .ref h)]) hx hb dX9_day_45 hl (k := 1) rfl (zI_add _ _) (by decide) rfl (fun ls hl => ?_)
          refine lv_goto (tgt := 8) hx hb dX9_day_48 (by decide) ?_
          have hnext := pOkL_itm hoi hi10 (by omega)
          have hres : sItmT i Pi = Pi := by unfold sItmT; rw [if_neg c36]
          exact ih8 (i + 1) Pi fL _ _ _ (by omega) (by rw [sIt_succ, ← hPi]; exact hres.symm) (by have := hnext.2.2; rw [hres] at this; rw [this]; omega) (by have := hnext.1; rw [hres] at this; exact pOkL_mono this (by omega)) (by have := hnext.2.2; rw [hres] at this; rw [this]; exact hi10b) (fun q hq => (hfr (q) (by omega))) hM hL0 hL1 hL2 (lv_sub hl [1, 0] rfl)
        · skip
          refine lv_aload_n hx hb dX9_day_40 rfl (lv_at hl 0 rfl) ?_
          refine lv_iload_n hx hb dX9_day_41 rfl (lv_at hl 1 rfl) ?_
          have hC104 := c_X9_carriesOut l g b0 n fL h Z M aa Pi i (v + 1 + i) hL0 hL1 hrg hat haa hL2 hoi hi10 c36 (by omega) (by omega)
          refine g_callVv (ci := 11) (C := RX9) (T := TX9) (N := 24) (As := [.int (zI (↑i : Int))]) (rest := []) ⟨hx, hb, hml, hown, hts⟩ hK hM hC104 (cuV (n := 1) hts u_1343 u_1340 u_10 (by decide) u_1342 us_51 ⟨Nat.le_of_ble_eq_true rfl, Nat.le_of_ble_eq_true rfl⟩) ⟨by omega, by omega⟩ hL0 rfl rfl hl.1 rfl (Nat.le_of_ble_eq_true rfl) dX9_day_42 ⟨Nat.zero_le _, Nat.zero_le _⟩ (fun f105 H locs hM hp106 => ?_)
          obtain ⟨hn107, hs109, o108⟩ := hp106
          obtain ⟨Pz110, hPz110⟩ : ∃ Q : Nat → Int, Q = sItmT i Pi := ⟨_, rfl⟩
          rw [← hPz110] at hn107
          refine lv_iinc (v := zI ((↑i : Int) + 1)) (lv' := [(1, .int (zI ((↑i : Int) + 1))), (0, .ref h)]) hx hb dX9_day_45 hl (k := 1) rfl (zI_add _ _) (by decide) rfl (fun ls hl => ?_)
          refine lv_goto (tgt := 8) hx hb dX9_day_48 (by decide) ?_
          have hnext := pOkL_itm hoi hi10 (by omega)
          have hres : sItmT i Pi = Pz110 := hPz110.symm
          have hf111 : f105 (h) = .inr (11, [.int (zI (Z 0)), .ref (h + 1), .ref (h + 2), .ref (h + 3), .ref (h + 4), .ref (h + 5), .ref (h + 6), .ref (h + 7), .ref (h + 8), .int (zI (Z 9)), .int (zI (Z 10)), .int (zI (Z 11)), .int (zI (Z 12)), .int (zI (Z 13)), .int (zI (Z 14)), .int (zI (Z 15)), .int (zI (Z 16)), .ref (h + 9), .ref (h + 10), .ref (h + 11), .int (zI (Z 20)), .int (zI (Z 21)), .int (zI (Z 22)), .ref (h + 12)]) := (o108 (h) (by omega)).trans hL0
          exact ih8 (i + 1) Pz110 f105 _ _ _ (by omega) (by rw [sIt_succ, ← hPi]; exact hres.symm) (by have := hnext.2.2; rw [hres] at this; rw [this]; omega) (by have := hnext.1; rw [hres] at this; exact pOkL_mono this (by omega)) (by have := hnext.2.2; rw [hres] at this; rw [this]; exact hi10b) (fun q hq => ((o108 (q) (by omega)).trans (hfr (q) (by omega)))) hM hf111 hn107 hs109 (lv_sub hl [1, 0] rfl)
  have hf112 : f2 (h) = .inr (11, [.int (zI (Z 0)), .ref (h + 1), .ref (h + 2), .ref (h + 3), .ref (h + 4), .ref (h + 5), .ref (h + 6), .ref (h + 7), .ref (h + 8), .int (zI (Z 9)), .int (zI (Z 10)), .int (zI (Z 11)), .int (zI (Z 12)), .int (zI (Z 13)), .int (zI (Z 14)), .int (zI (Z 15)), .int (zI (Z 16)), .ref (h + 9), .ref (h + 10), .ref (h + 11), .int (zI (Z 20)), .int (zI (Z 21)), .int (zI (Z 22)), .ref (h + 12)]) := (o5 (h) (by omega)).trans hO
  have hf113 := hsc.kept (fun q h1 h2 => (o5 (q) (by omega)))
  exact lp8 (9) 0 Pz6 f2 _ _ _ (by omega) (by rw [hPz6]; rfl) (by rw [hPz6, pu_n (by omega)]; omega) (by rw [hPz6]; exact pOkL_mono (pOkL_day hok) (by omega)) (by rw [hPz6, pu_n (by omega)]) (fun q hq => (o5 (q) (by omega))) hM hf112 hn4 hf113 (lv_sub hl [1, 0] rfl)
