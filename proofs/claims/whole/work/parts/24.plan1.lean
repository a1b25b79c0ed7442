def po_X5_copyFrom (g : gE) (f : gF) (h h2 : Nat) (P P2 : Nat → Int) : gF → Prop := fun f1 => planAt g f1 h P2 ∧ ∀ q, (q < h ∨ h + 23 ≤ q) → f1 q = f q
set_option maxRecDepth 100000 in
set_option maxHeartbeats 4000000 in
/-- copyFrom(other) -/
theorem c_X5_copyFrom (l : Launch) (g : gE) (b0 n : Nat) (f : gF) (h h2 : Nat) (P P2 : Nat → Int) (hE : planAt g f h P) (hG : planAt g f h2 P2) (hrg : b0 ≤ h ∧ h + 23 ≤ b0 + n) (hrg2 : b0 ≤ h2 ∧ h2 + 23 ≤ b0 + n) (hd : h + 23 ≤ h2 ∨ h2 + 23 ≤ h) : cV l yX5_copyFrom cX5_copyFrom 2 none 2 81 [.ref h, .ref h2] g b0 n f (po_X5_copyFrom g f h h2 P P2) := by
  refine gs_v (cc := cX5_copyFrom) (maxL := 2) (ret := none) (by decide) (Nat.le_of_ble_eq_true rfl) ?_
  intro p e0 s m args below meth c ls hx hb hr hml hown hts hlk hK hM hl
  have hl : lv_has ls 2 [(0, .ref h), (1, .ref h2)] := hl
  refine lv_aload_n hx hb dX5_copyFrom_0 rfl (lv_at hl 0 rfl) ?_
  obtain ⟨ho1, ho2, ho3, ho4, ho5⟩ := id hE
  refine g_get (ci := 7) (v := .ref (h + 1)) (C := RX5) (T := TX5) (N := 11) hx hb hts iU_X5 hown hK hM ⟨by omega, by omega⟩ ho1 rfl 0 (by decide) (hts _ u_164) (fun _ h9 => h9) rfl dX5_copyFrom_1 ?_
  refine lv_aload_n hx hb dX5_copyFrom_4 rfl (lv_at hl 1 rfl) ?_
  obtain ⟨ho6, ho7, ho8, ho9, ho10⟩ := id hG
  refine g_get (ci := 7) (v := .ref (h2 + 1)) (C := RX5) (T := TX5) (N := 11) hx hb hts iU_X5 hown hK hM ⟨by omega, by omega⟩ ho6 rfl 0 (by decide) (hts _ u_164) (fun _ h9 => h9) rfl dX5_copyFrom_5 ?_
  have hC13 := c_X2_copyFrom l g b0 n f (h + 1) (h2 + 1) P P2 ho2 ho7 ⟨by omega, by omega⟩ ⟨by omega, by omega⟩ (by omega)
  obtain ⟨ho16, ho17, ho18, ho19, ho20⟩ := id ho2
  refine g_callVv (ci := 4) (C := RX2) (T := TX2) (N := 5) (As := [.ref (h2 + 1)]) (rest := []) ⟨hx, hb, hml, hown, hts⟩ hK hM hC13 (cuV (n := 1) hts u_565 u_562 u_5 (by decide) u_563 u_564 ⟨Nat.le_of_ble_eq_true rfl, Nat.le_of_ble_eq_true rfl⟩) ⟨by omega, by omega⟩ ho16 rfl rfl hl.1 rfl (Nat.le_of_ble_eq_true rfl) dX5_copyFrom_8 ⟨Nat.zero_le _, Nat.zero_le _⟩ (fun f14 H locs hM hp15 => ?_)
  obtain ⟨hn12, o11⟩ := hp15
  refine lv_aload_n hx hb dX5_copyFrom_11 rfl (lv_at hl 0 rfl) ?_
  have hf21 : f14 (h) = .inr (7, [.ref (h + 1), .ref (h + 6), .ref (h + 10), .ref (h + 16), .long (zL (P 0)), .int (zI (P 1)), .long (zL (P 2)), .long (zL (P 3)), .int (zI (P 4)), .long (zL (P 5)), .long (zL (P 6))]) := (o11 (h) (by omega)).trans ho1
  refine g_get (ci := 7) (v := .ref (h + 6)) (C := RX5) (T := TX5) (N := 11) hx hb hts iU_X5 hown hK hM ⟨by omega, by omega⟩ hf21 rfl 1 (by decide) (hts _ u_166) (fun _ h9 => h9) rfl dX5_copyFrom_12 ?_
  refine lv_aload_n hx hb dX5_copyFrom_15 rfl (lv_at hl 1 rfl) ?_
  have hf22 : f14 (h2) = .inr (7, [.ref (h2 + 1), .ref (h2 + 6), .ref (h2 + 10), .ref (h2 + 16), .long (zL (P2 0)), .int (zI (P2 1)), .long (zL (P2 2)), .long (zL (P2 3)), .int (zI (P2 4)), .long (zL (P2 5)), .long (zL (P2 6))]) := (o11 (h2) (by omega)).trans ho6
  refine g_get (ci := 7) (v := .ref (h2 + 6)) (C := RX5) (T := TX5) (N := 11) hx hb hts iU_X5 hown hK hM ⟨by omega, by omega⟩ hf22 rfl 1 (by decide) (hts _ u_166) (fun _ h9 => h9) rfl dX5_copyFrom_16 ?_
  have hf23 := ho3.kept (fun q h1 h2 => (o11 (q) (by omega)))
  have hf24 := ho8.kept (fun q h1 h2 => (o11 (q) (by omega)))
  have hC27 := c_X7_copyFrom l g b0 n f14 (h + 6) (h2 + 6) P P2 hf23 hf24 ⟨by omega, by omega⟩ ⟨by omega, by omega⟩ (by omega)
  obtain ⟨ho30, ho31, ho32, ho33⟩ := id hf23
  refine g_callVv (ci := 9) (C := RX7) (T := TX7) (N := 4) (As := [.ref (h2 + 6)]) (rest := []) ⟨hx, hb, hml, hown, hts⟩ hK hM hC27 (cuV (n := 1) hts u_572 u_569 u_6 (by decide) u_570 u_571 ⟨Nat.le_of_ble_eq_true rfl, Nat.le_of_ble_eq_true rfl⟩) ⟨by omega, by omega⟩ ho30 rfl rfl hl.1 rfl (Nat.le_of_ble_eq_true rfl) dX5_copyFrom_19 ⟨Nat.zero_le _, Nat.zero_le _⟩ (fun f28 H locs hM hp29 => ?_)
  obtain ⟨hn26, o25⟩ := hp29
  refine lv_aload_n hx hb dX5_copyFrom_22 rfl (lv_at hl 0 rfl) ?_
  have hf34 : f28 (h) = .inr (7, [.ref (h + 1), .ref (h + 6), .ref (h + 10), .ref (h + 16), .long (zL (P 0)), .int (zI (P 1)), .long (zL (P 2)), .long (zL (P 3)), .int (zI (P 4)), .long (zL (P 5)), .long (zL (P 6))]) := (o25 (h) (by omega)).trans hf21
  refine g_get (ci := 7) (v := .ref (h + 10)) (C := RX5) (T := TX5) (N := 11) hx hb hts iU_X5 hown hK hM ⟨by omega, by omega⟩ hf34 rfl 2 (by decide) (hts _ u_168) (fun _ h9 => h9) rfl dX5_copyFrom_23 ?_
  refine lv_aload_n hx hb dX5_copyFrom_26 rfl (lv_at hl 1 rfl) ?_
  have hf35 : f28 (h2) = .inr (7, [.ref (h2 + 1), .ref (h2 + 6), .ref (h2 + 10), .ref (h2 + 16), .long (zL (P2 0)), .int (zI (P2 1)), .long (zL (P2 2)), .long (zL (P2 3)), .int (zI (P2 4)), .long (zL (P2 5)), .long (zL (P2 6))]) := (o25 (h2) (by omega)).trans hf22
  refine g_get (ci := 7) (v := .ref (h2 + 10)) (C := RX5) (T := TX5) (N := 11) hx hb hts iU_X5 hown hK hM ⟨by omega, by omega⟩ hf35 rfl 2 (by decide) (hts _ u_168) (fun _ h9 => h9) rfl dX5_copyFrom_27 ?_
  have hf36 := ho4.kept (fun q h1 h2 => ((o25 (q) (by omega)).trans (o11 (q) (by omega))))
  have hf37 := ho9.kept (fun q h1 h2 => ((o25 (q) (by omega)).trans (o11 (q) (by omega))))
  have hC40 := c_X4_copyFrom l g b0 n f28 (h + 10) (h2 + 10) P P2 hf36 hf37 ⟨by omega, by omega⟩ ⟨by omega, by omega⟩ (by omega)
  obtain ⟨ho43, ho44, ho45, ho46, ho47, ho48⟩ := id hf36
  refine g_callVv (ci := 6) (C := RX4) (T := TX4) (N := 6) (As := [.ref (h2 + 10)]) (rest := []) ⟨hx, hb, hml, hown, hts⟩ hK hM hC40 (cuV (n := 1) hts u_577 u_574 u_7 (by decide) u_575 u_576 ⟨Nat.le_of_ble_eq_true rfl, Nat.le_of_ble_eq_true rfl⟩) ⟨by omega, by omega⟩ ho43 rfl rfl hl.1 rfl (Nat.le_of_ble_eq_true rfl) dX5_copyFrom_30 ⟨Nat.zero_le _, Nat.zero_le _⟩ (fun f41 H locs hM hp42 => ?_)
  obtain ⟨hn39, o38⟩ := hp42
  refine lv_aload_n hx hb dX5_copyFrom_33 rfl (lv_at hl 0 rfl) ?_
  have hf49 : f41 (h) = .inr (7, [.ref (h + 1), .ref (h + 6), .ref (h + 10), .ref (h + 16), .long (zL (P 0)), .int (zI (P 1)), .long (zL (P 2)), .long (zL (P 3)), .int (zI (P 4)), .long (zL (P 5)), .long (zL (P 6))]) := (o38 (h) (by omega)).trans hf34
  refine g_get (ci := 7) (v := .ref (h + 16)) (C := RX5) (T := TX5) (N := 11) hx hb hts iU_X5 hown hK hM ⟨by omega, by omega⟩ hf49 rfl 3 (by decide) (hts _ u_170) (fun _ h9 => h9) rfl dX5_copyFrom_34 ?_
  refine lv_aload_n hx hb dX5_copyFrom_37 rfl (lv_at hl 1 rfl) ?_
  have hf50 : f41 (h2) = .inr (7, [.ref (h2 + 1), .ref (h2 + 6), .ref (h2 + 10), .ref (h2 + 16), .long (zL (P2 0)), .int (zI (P2 1)), .long (zL (P2 2)), .long (zL (P2 3)), .int (zI (P2 4)), .long (zL (P2 5)), .long (zL (P2 6))]) := (o38 (h2) (by omega)).trans hf35
  refine g_get (ci := 7) (v := .ref (h2 + 16)) (C := RX5) (T := TX5) (N := 11) hx hb hts iU_X5 hown hK hM ⟨by omega, by omega⟩ hf50 rfl 3 (by decide) (hts _ u_170) (fun _ h9 => h9) rfl dX5_copyFrom_38 ?_
  have hf51 := ho5.kept (fun q h1 h2 => ((o38 (q) (by omega)).trans ((o25 (q) (by omega)).trans (o11 (q) (by omega)))))
  have hf52 := ho10.kept (fun q h1 h2 => ((o38 (q) (by omega)).trans ((o25 (q) (by omega)).trans (o11 (q) (by omega)))))
  have hC55 := c_X3_copyFrom l g b0 n f41 (h + 16) (h2 + 16) P P2 hf51 hf52 ⟨by omega, by omega⟩ ⟨by omega, by omega⟩ (by omega)
  obtain ⟨ho58, ho59, ho60, ho61, ho62, ho63, ho64⟩ := id hf51
  refine g_callVv (ci := 5) (C := RX3) (T := TX3) (N := 7) (As := [.ref (h2 + 16)]) (rest := []) ⟨hx, hb, hml, hown, hts⟩ hK hM hC55 (cuV (n := 1) hts u_582 u_579 u_8 (by decide) u_580 u_581 ⟨Nat.le_of_ble_eq_true rfl, Nat.le_of_ble_eq_true rfl⟩) ⟨by omega, by omega⟩ ho58 rfl rfl hl.1 rfl (Nat.le_of_ble_eq_true rfl) dX5_copyFrom_41 ⟨Nat.zero_le _, Nat.zero_le _⟩ (fun f56 H locs hM hp57 => ?_)
  obtain ⟨hn54, o53⟩ := hp57
  refine lv_aload_n hx hb dX5_copyFrom_44 rfl (lv_at hl 0 rfl) ?_
  refine lv_aload_n hx hb dX5_copyFrom_45 rfl (lv_at hl 1 rfl) ?_
  have hf65 : f56 (h2) = .inr (7, [.ref (h2 + 1), .ref (h2 + 6), .ref (h2 + 10), .ref (h2 + 16), .long (zL (P2 0)), .int (zI (P2 1)), .long (zL (P2 2)), .long (zL (P2 3)), .int (zI (P2 4)), .long (zL (P2 5)), .long (zL (P2 6))]) := (o53 (h2) (by omega)).trans hf50
  refine g_get (ci := 7) (v := .long (zL (P2 0))) (C := RX5) (T := TX5) (N := 11) hx hb hts iU_X5 hown hK hM ⟨by omega, by omega⟩ hf65 rfl 4 (by decide) (hts _ u_172) (fun _ h9 => h9) rfl dX5_copyFrom_46 ?_
  have hf66 : f56 (h) = .inr (7, [.ref (h + 1), .ref (h + 6), .ref (h + 10), .ref (h + 16), .long (zL (P 0)), .int (zI (P 1)), .long (zL (P 2)), .long (zL (P 3)), .int (zI (P 4)), .long (zL (P 5)), .long (zL (P 6))]) := (o53 (h) (by omega)).trans hf49
  refine g_put (ci := 7) (v := .long (zL (P2 0))) (ty := .long) (C := RX5) (T := TX5) (N := 11) hx hb hts iU_X5 tyX5 tyX5_ok nmX5 hown hK hM ⟨by omega, by omega⟩ hf66 rfl 4 (by decide) (hts _ u_172) (fun _ h9 => h9) rfl (by decide +kernel) rfl rfl (Nat.le_of_ble_eq_true rfl) dX5_copyFrom_49 (fun f67 H locs hM hf69 o68 => ?_)
  have hf69 : f67 (h) = .inr (7, [.ref (h + 1), .ref (h + 6), .ref (h + 10), .ref (h + 16), .long (zL (P2 0)), .int (zI (P 1)), .long (zL (P 2)), .long (zL (P 3)), .int (zI (P 4)), .long (zL (P 5)), .long (zL (P 6))]) := hf69
  refine lv_aload_n hx hb dX5_copyFrom_52 rfl (lv_at hl 0 rfl) ?_
  refine lv_aload_n hx hb dX5_copyFrom_53 rfl (lv_at hl 1 rfl) ?_
  have hf70 : f67 (h2) = .inr (7, [.ref (h2 + 1), .ref (h2 + 6), .ref (h2 + 10), .ref (h2 + 16), .long (zL (P2 0)), .int (zI (P2 1)), .long (zL (P2 2)), .long (zL (P2 3)), .int (zI (P2 4)), .long (zL (P2 5)), .long (zL (P2 6))]) := (o68 (h2) (by omega)).trans hf65
  refine g_get (ci := 7) (v := .int (zI (P2 1))) (C := RX5) (T := TX5) (N := 11) hx hb hts iU_X5 hown hK hM ⟨by omega, by omega⟩ hf70 rfl 5 (by decide) (hts _ u_174) (fun _ h9 => h9) rfl dX5_copyFrom_54 ?_
  refine g_put (ci := 7) (v := .int (zI (P2 1))) (ty := .int) (C := RX5) (T := TX5) (N := 11) hx hb hts iU_X5 tyX5 tyX5_ok nmX5 hown hK hM ⟨by omega, by omega⟩ hf69 rfl 5 (by decide) (hts _ u_174) (fun _ h9 => h9) rfl (by decide +kernel) rfl rfl (Nat.le_of_ble_eq_true rfl) dX5_copyFrom_57 (fun f71 H locs hM hf73 o72 => ?_)
  have hf73 : f71 (h) = .inr (7, [.ref (h + 1), .ref (h + 6), .ref (h + 10), .ref (h + 16), .long (zL (P2 0)), .int (zI (P2 1)), .long (zL (P 2)), .long (zL (P 3)), .int (zI (P 4)), .long (zL (P 5)), .long (zL (P 6))]) := hf73
  refine lv_aload_n hx hb dX5_copyFrom_60 rfl (lv_at hl 0 rfl) ?_
  refine lv_aload_n hx hb dX5_copyFrom_61 rfl (lv_at hl 1 rfl) ?_
  have hf74 : f71 (h2) = .inr (7, [.ref (h2 + 1), .ref (h2 + 6), .ref (h2 + 10), .ref (h2 + 16), .long (zL (P2 0)), .int (zI (P2 1)), .long (zL (P2 2)), .long (zL (P2 3)), .int (zI (P2 4)), .long (zL (P2 5)), .long (zL (P2 6))]) := (o72 (h2) (by omega)).trans hf70
  refine g_get (ci := 7) (v := .long (zL (P2 2))) (C := RX5) (T := TX5) (N := 11) hx hb hts iU_X5 hown hK hM ⟨by omega, by omega⟩ hf74 rfl 6 (by decide) (hts _ u_176) (fun _ h9 => h9) rfl dX5_copyFrom_62 ?_
  refine g_put (ci := 7) (v := .long (zL (P2 2))) (ty := .long) (C := RX5) (T := TX5) (N := 11) hx hb hts iU_X5 tyX5 tyX5_ok nmX5 hown hK hM ⟨by omega, by omega⟩ hf73 rfl 6 (by decide) (hts _ u_176) (fun _ h9 => h9) rfl (by decide +kernel) rfl rfl (Nat.le_of_ble_eq_true rfl) dX5_copyFrom_65 (fun f75 H locs hM hf77 o76 => ?_)
  have hf77 : f75 (h) = .inr (7, [.ref (h + 1), .ref (h + 6), .ref (h + 10), .ref (h + 16), .long (zL (P2 0)), .int (zI (P2 1)), .long (zL (P2 2)), .long (zL (P 3)), .int (zI (P 4)), .long (zL (P 5)), .long (zL (P 6))]) := hf77
  refine lv_aload_n hx hb dX5_copyFrom_68 rfl (lv_at hl 0 rfl) ?_
  refine lv_aload_n hx hb dX5_copyFrom_69 rfl (lv_at hl 1 rfl) ?_
  have hf78 : f75 (h2) = .inr (7, [.ref (h2 + 1), .ref (h2 + 6), .ref (h2 + 10), .ref (h2 + 16), .long (zL (P2 0)), .int (zI (P2 1)), .long (zL (P2 2)), .long (zL (P2 3)), .int (zI (P2 4)), .long (zL (P2 5)), .long (zL (P2 6))]) := (o76 (h2) (by omega)).trans hf74
  refine g_get (ci := 7) (v := .long (zL (P2 3))) (C := RX5) (T := TX5) (N := 11) hx hb hts iU_X5 hown hK hM ⟨by omega, by omega⟩ hf78 rfl 7 (by decide) (hts _ u_178) (fun _ h9 => h9) rfl dX5_copyFrom_70 ?_
  refine g_put (ci := 7) (v := .long (zL (P2 3))) (ty := .long) (C := RX5) (T := TX5) (N := 11) hx hb hts iU_X5 tyX5 tyX5_ok nmX5 hown hK hM ⟨by omega, by omega⟩ hf77 rfl 7 (by decide) (hts _ u_178) (fun _ h9 => h9) rfl (by decide +kernel) rfl rfl (Nat.le_of_ble_eq_true rfl) dX5_copyFrom_73 (fun f79 H locs hM hf81 o80 => ?_)
  have hf81 : f79 (h) = .inr (7, [.ref (h + 1), .ref (h + 6), .ref (h + 10), .ref (h + 16), .long (zL (P2 0)), .int (zI (P2 1)), .long (zL (P2 2)), .long (zL (P2 3)), .int (zI (P 4)), .long (zL (P 5)), .long (zL (P 6))]) := hf81
  refine lv_aload_n hx hb dX5_copyFrom_76 rfl (lv_at hl 0 rfl) ?_
  refine lv_aload_n hx hb dX5_copyFrom_77 rfl (lv_at hl 1 rfl) ?_
  have hf82 : f79 (h2) = .inr (7, [.ref (h2 + 1), .ref (h2 + 6), .ref (h2 + 10), .ref (h2 + 16), .long (zL (P2 0)), .int (zI (P2 1)), .long (zL (P2 2)), .long (zL (P2 3)), .int (zI (P2 4)), .long (zL (P2 5)), .long (zL (P2 6))]) := (o80 (h2) (by omega)).trans hf78
  refine g_get (ci := 7) (v := .int (zI (P2 4))) (C := RX5) (T := TX5) (N := 11) hx hb hts iU_X5 hown hK hM ⟨by omega, by omega⟩ hf82 rfl 8 (by decide) (hts _ u_180) (fun _ h9 => h9) rfl dX5_copyFrom_78 ?_
  refine g_put (ci := 7) (v := .int (zI (P2 4))) (ty := .int) (C := RX5) (T := TX5) (N := 11) hx hb hts iU_X5 tyX5 tyX5_ok nmX5 hown hK hM ⟨by omega, by omega⟩ hf81 rfl 8 (by decide) (hts _ u_180) (fun _ h9 => h9) rfl (by decide +kernel) rfl rfl (Nat.le_of_ble_eq_true rfl) dX5_copyFrom_81 (fun f83 H locs hM hf85 o84 => ?_)
  have hf85 : f83 (h) = .inr (7, [.ref (h + 1), .ref (h + 6), .ref (h + 10), .ref (h + 16), .long (zL (P2 0)), .int (zI (P2 1)), .long (zL (P2 2)), .long (zL (P2 3)), .int (zI (P2 4)), .long (zL (P 5)), .long (zL (P 6))]) := hf85
  refine lv_aload_n hx hb dX5_copyFrom_84 rfl (lv_at hl 0 rfl) ?_
  refine lv_aload_n hx hb dX5_copyFrom_85 rfl (lv_at hl 1 rfl) ?_
  have hf86 : f83 (h2) = .inr (7, [.ref (h2 + 1), .ref (h2 + 6), .ref (h2 + 10), .ref (h2 + 16), .long (zL (P2 0)), .int (zI (P2 1)), .long (zL (P2 2)), .long (zL (P2 3)), .int (zI (P2 4)), .long (zL (P2 5)), .long (zL (P2 6))]) := (o84 (h2) (by omega)).trans hf82
  refine g_get (ci := 7) (v := .long (zL (P2 5))) (C := RX5) (T := TX5) (N := 11) hx hb hts iU_X5 hown hK hM ⟨by omega, by omega⟩ hf86 rfl 9 (by decide) (hts _ u_181) (fun _ h9 => h9) rfl dX5_copyFrom_86 ?_
  refine g_put (ci := 7) (v := .long (zL (P2 5))) (ty := .long) (C := RX5) (T := TX5) (N := 11) hx hb hts iU_X5 tyX5 tyX5_ok nmX5 hown hK hM ⟨by omega, by omega⟩ hf85 rfl 9 (by decide) (hts _ u_181) (fun _ h9 => h9) rfl (by decide +kernel) rfl rfl (Nat.le_of_ble_eq_true rfl) dX5_copyFrom_89 (fun f87 H locs hM hf89 o88 => ?_)
  have hf89 : f87 (h) = .inr (7, [.ref (h + 1), .ref (h + 6), .ref (h + 10), .ref (h + 16), .long (zL (P2 0)), .int (zI (P2 1)), .long (zL (P2 2)), .long (zL (P2 3)), .int (zI (P2 4)), .long (zL (P2 5)), .long (zL (P 6))]) := hf89
  refine lv_aload_n hx hb dX5_copyFrom_92 rfl (lv_at hl 0 rfl) ?_
  refine lv_aload_n hx hb dX5_copyFrom_93 rfl (lv_at hl 1 rfl) ?_
  have hf90 : f87 (h2) = .inr (7, [.ref (h2 + 1), .ref (h2 + 6), .ref (h2 + 10), .ref (h2 + 16), .long (zL (P2 0)), .int (zI (P2 1)), .long (zL (P2 2)), .long (zL (P2 3)), .int (zI (P2 4)), .long (zL (P2 5)), .long (zL (P2 6))]) := (o88 (h2) (by omega)).trans hf86
  refine g_get (ci := 7) (v := .long (zL (P2 6))) (C := RX5) (T := TX5) (N := 11) hx hb hts iU_X5 hown hK hM ⟨by omega, by omega⟩ hf90 rfl 10 (by decide) (hts _ u_182) (fun _ h9 => h9) rfl dX5_copyFrom_94 ?_
  refine g_put (ci := 7) (v := .long (zL (P2 6))) (ty := .long) (C := RX5) (T := TX5) (N := 11) hx hb hts iU_X5 tyX5 tyX5_ok nmX5 hown hK hM ⟨by omega, by omega⟩ hf89 rfl 10 (by decide) (hts _ u_182) (fun _ h9 => h9) rfl (by decide +kernel) rfl rfl (Nat.le_of_ble_eq_true rfl) dX5_copyFrom_97 (fun f91 H locs hM hf93 o92 => ?_)
  have hf93 : f91 (h) = .inr (7, [.ref (h + 1), .ref (h + 6), .ref (h + 10), .ref (h + 16), .long (zL (P2 0)), .int (zI (P2 1)), .long (zL (P2 2)), .long (zL (P2 3)), .int (zI (P2 4)), .long (zL (P2 5)), .long (zL (P2 6))]) := hf93
  have hf94 := hn12.kept (fun q h1 h2 => ((o92 (q) (by omega)).trans ((o88 (q) (by omega)).trans ((o84 (q) (by omega)).trans ((o80 (q) (by omega)).trans ((o76 (q) (by omega)).trans ((o72 (q) (by omega)).trans ((o68 (q) (by omega)).trans ((o53 (q) (by omega)).trans ((o38 (q) (by omega)).trans (o25 (q) (by omega))))))))))))
  have hf95 := hn26.kept (fun q h1 h2 => ((o92 (q) (by omega)).trans ((o88 (q) (by omega)).trans ((o84 (q) (by omega)).trans ((o80 (q) (by omega)).trans ((o76 (q) (by omega)).trans ((o72 (q) (by omega)).trans ((o68 (q) (by omega)).trans ((o53 (q) (by omega)).trans (o38 (q) (by omega)))))))))))
  have hf96 := hn39.kept (fun q h1 h2 => ((o92 (q) (by omega)).trans ((o88 (q) (by omega)).trans ((o84 (q) (by omega)).trans ((o80 (q) (by omega)).trans ((o76 (q) (by omega)).trans ((o72 (q) (by omega)).trans ((o68 (q) (by omega)).trans (o53 (q) (by omega))))))))))
  have hf97 := hn54.kept (fun q h1 h2 => ((o92 (q) (by omega)).trans ((o88 (q) (by omega)).trans ((o84 (q) (by omega)).trans ((o80 (q) (by omega)).trans ((o76 (q) (by omega)).trans ((o72 (q) (by omega)).trans (o68 (q) (by omega)))))))))
  refine g_vret hx hb hr hlk hK hM dX5_copyFrom_100 ?_
  exact ⟨⟨hf93, hf94, hf95, hf96, hf97⟩, (fun q hq => ((o92 (q) (by omega)).trans ((o88 (q) (by omega)).trans ((o84 (q) (by omega)).trans ((o80 (q) (by omega)).trans ((o76 (q) (by omega)).trans ((o72 (q) (by omega)).trans ((o68 (q) (by omega)).trans ((o53 (q) (by omega)).trans ((o38 (q) (by omega)).trans ((o25 (q) (by omega)).trans (o11 (q) (by omega)))))))))))))⟩

def po_X5_isPlace (g : gE) (f : gF) (h : Nat) (P : Nat → Int) (x : Int) : Int32 → gF → Prop := fun r f1 => r = bI (x = -1 ∨ (0 ≤ x ∧ x < P 7)) ∧ f = f1
set_option maxRecDepth 100000 in
set_option maxHeartbeats 4000000 in
/-- isPlace -/
theorem c_X5_isPlace (l : Launch) (g : gE) (b0 n : Nat) (f : gF) (h : Nat) (P : Nat → Int) (x : Int) (hE : planAt g f h P) (hrg : b0 ≤ h ∧ h + 23 ≤ b0 + n) (hcn7 : 0 ≤ P 7 ∧ P 7 ≤ 10) (hrx : rI x) : cI l yX5_isPlace cX5_isPlace 2 (some .boolean) 1 21 [.ref h, .int (zI x)] g b0 n f (po_X5_isPlace g f h P x) := by
  refine gs_i (cc := cX5_isPlace) (maxL := 2) (ret := (some .boolean)) (by decide) (Nat.le_of_ble_eq_true rfl) ?_
  intro p e0 s m args below meth c ls hx hb hr hml hown hts hlk hK hM hl
  have hl : lv_has ls 2 [(0, .ref h), (1, .int (zI x))] := hl
  have hzn7 := hcn7.1
  have hzm7 := hcn7.2
  refine lv_iload_n hx hb dX5_isPlace_0 rfl (lv_at hl 1 rfl) ?_
  refine g_iconst hx hb dX5_isPlace_1 ?_
  refine g_icmp_eq (tgt := 16) hx hb dX5_isPlace_2 (by decide) hrx (by decide) (fun c2 => ?_) (fun c2 => ?_)
  · skip
    refine g_iconst hx hb dX5_isPlace_16 ?_
    refine lv_goto (tgt := 21) hx hb dX5_isPlace_17 (by decide) ?_
    refine g_zret hx hb hr hlk hK hM dX5_isPlace_21 rfl ?_
    refine ⟨?_, rfl⟩
    show zI 1 = _
    first | exact (bI_t (by omega)).symm | exact (bI_f (by omega)).symm
  · skip
    refine lv_aload_n hx hb dX5_isPlace_5 rfl (lv_at hl 0 rfl) ?_
    obtain ⟨ho1, ho2, ho3, ho4, ho5⟩ := id hE
    refine g_get (ci := 7) (v := .ref (h + 1)) (C := RX5) (T := TX5) (N := 11) hx hb hts iU_X5 hown hK hM ⟨by omega, by omega⟩ ho1 rfl 0 (by decide) (hts _ u_164) (fun _ h9 => h9) rfl dX5_isPlace_6 ?_
    refine lv_iload_n hx hb dX5_isPlace_9 rfl (lv_at hl 1 rfl) ?_
    have hC6 := c_X2_has l g b0 n f (h + 1) P x ho2 ⟨by omega, by omega⟩ hcn7 hrx
    obtain ⟨ho9, ho10, ho11, ho12, ho13⟩ := id ho2
    refine g_callVi (ci := 4) (C := RX2) (T := TX2) (N := 5) (As := [.int (zI x)]) (rest := []) ⟨hx, hb, hml, hown, hts⟩ hK hM hC6 (cuV (n := 1) hts u_382 u_379 u_5 (by decide) u_380 u_381 ⟨Nat.le_of_ble_eq_true rfl, Nat.le_of_ble_eq_true rfl⟩) ⟨by omega, by omega⟩ ho9 rfl rfl hl.1 rfl (Nat.le_of_ble_eq_true rfl) dX5_isPlace_10 ⟨Nat.zero_le _, Nat.zero_le _⟩ (fun r10 f7 H locs hM hp8 => ?_)
    obtain ⟨rfl, rfl⟩ := hp8
    refine g_ifb_eq (tgt := 20) hx hb dX5_isPlace_13 (by decide) (fun c13 => ?_) (fun c13 => ?_)
    · skip
      refine g_iconst hx hb dX5_isPlace_20 ?_
      refine g_zret hx hb hr hlk hK hM dX5_isPlace_21 rfl ?_
      refine ⟨?_, rfl⟩
      show zI 0 = _
      first | exact (bI_t (by omega)).symm | exact (bI_f (by omega)).symm
    · skip
      refine g_iconst hx hb dX5_isPlace_16 ?_
      refine lv_goto (tgt := 21) hx hb dX5_isPlace_17 (by decide) ?_
      refine g_zret hx hb hr hlk hK hM dX5_isPlace_21 rfl ?_
      refine ⟨?_, rfl⟩
      show zI 1 = _
      first | exact (bI_t (by omega)).symm | exact (bI_f (by omega)).symm

def po_X5_moneyIn (g : gE) (f : gF) (h : Nat) (P : Nat → Int) (x : Int) : Int64 → gF → Prop := fun r f1 => r = zL (sMon P x) ∧ f = f1
set_option maxRecDepth 100000 in
set_option maxHeartbeats 4000000 in
/-- moneyIn, a valid place -/
theorem c_X5_moneyIn (l : Launch) (g : gE) (b0 n : Nat) (f : gF) (h : Nat) (P : Nat → Int) (x : Int) (hE : planAt g f h P) (hrg : b0 ≤ h ∧ h + 23 ≤ b0 + n) (hcn7 : 0 ≤ P 7 ∧ P 7 ≤ 10) (hrx : rI x) (hx1 : x = -1 ∨ (0 ≤ x ∧ x < P 7)) : cL l yX5_moneyIn cX5_moneyIn 2 (some .long) 1 21 [.ref h, .int (zI x)] g b0 n f (po_X5_moneyIn g f h P x) := by
  refine gs_l (cc := cX5_moneyIn) (maxL := 2) (ret := (some .long)) (by decide) (Nat.le_of_ble_eq_true rfl) ?_
  intro p e0 s m args below meth c ls hx hb hr hml hown hts hlk hK hM hl
  have hl : lv_has ls 2 [(0, .ref h), (1, .int (zI x))] := hl
  have hzn7 := hcn7.1
  have hzm7 := hcn7.2
  refine lv_iload_n hx hb dX5_moneyIn_0 rfl (lv_at hl 1 rfl) ?_
  refine g_iconst hx hb dX5_moneyIn_1 ?_
  refine g_icmp_ne (tgt := 12) hx hb dX5_moneyIn_2 (by decide) hrx (by decide) (fun c2 => ?_) (fun c2 => ?_)
  · skip
    obtain ⟨e, hxe⟩ : ∃ e : Nat, x = e := ⟨x.toNat, by omega⟩
    subst hxe
    refine lv_aload_n hx hb dX5_moneyIn_12 rfl (lv_at hl 0 rfl) ?_
    obtain ⟨ho1, ho2, ho3, ho4, ho5⟩ := id hE
    refine g_get (ci := 7) (v := .ref (h + 1)) (C := RX5) (T := TX5) (N := 11) hx hb hts iU_X5 hown hK hM ⟨by omega, by omega⟩ ho1 rfl 0 (by decide) (hts _ u_164) (fun _ h9 => h9) rfl dX5_moneyIn_13 ?_
    refine lv_iload_n hx hb dX5_moneyIn_16 rfl (lv_at hl 1 rfl) ?_
    have hC6 := c_X2_balanceOf l g b0 n f (h + 1) P e ho2 ⟨by omega, by omega⟩ hcn7 (by omega)
    obtain ⟨ho9, ho10, ho11, ho12, ho13⟩ := id ho2
    refine g_callVl (ci := 4) (C := RX2) (T := TX2) (N := 5) (As := [.int (zI (↑e : Int))]) (rest := []) ⟨hx, hb, hml, hown, hts⟩ hK hM hC6 (cuV (n := 1) hts u_427 u_424 u_5 (by decide) u_425 u_426 ⟨Nat.le_of_ble_eq_true rfl, Nat.le_of_ble_eq_true rfl⟩) ⟨by omega, by omega⟩ ho9 rfl rfl hl.1 rfl (Nat.le_of_ble_eq_true rfl) dX5_moneyIn_17 ⟨Nat.zero_le _, Nat.zero_le _⟩ (fun r17 f7 H locs hM hp8 => ?_)
    obtain ⟨rfl, rfl⟩ := hp8
    refine g_lret hx hb hr hlk hK hM dX5_moneyIn_20 ?_
    refine ⟨?_, rfl⟩
    unfold sMon
    first | rw [if_pos (by omega)] | (rw [if_neg (by omega)]; rfl)
  · skip
    refine lv_aload_n hx hb dX5_moneyIn_5 rfl (lv_at hl 0 rfl) ?_
    obtain ⟨ho14, ho15, ho16, ho17, ho18⟩ := id hE
    refine g_get (ci := 7) (v := .long (zL (P 0))) (C := RX5) (T := TX5) (N := 11) hx hb hts iU_X5 hown hK hM ⟨by omega, by omega⟩ ho14 rfl 4 (by decide) (hts _ u_172) (fun _ h9 => h9) rfl dX5_moneyIn_6 ?_
    refine lv_goto (tgt := 20) hx hb dX5_moneyIn_9 (by decide) ?_
    refine g_lret hx hb hr hlk hK hM dX5_moneyIn_20 ?_
    refine ⟨?_, rfl⟩
    unfold sMon
    first | rw [if_pos (by omega)] | (rw [if_neg (by omega)]; rfl)
