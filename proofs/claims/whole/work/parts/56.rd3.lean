def po_X6_readCommand (g : gE) (f : gF) (h : Nat) (T C : Nat → Int) (L cnt a : Nat) (nm : Int) : Int32 → gF → Prop := fun r f1 => r = bI ((sCmd T L a).1 = true) ∧ (∃ nm1 : Int, ((sCmd T L a).1 = false → rdAt g f1 h T C (↑L : Int) (↑cnt : Int) (↑(sCmd T L a).2.1 : Int) nm1) ∧ ((sCmd T L a).1 = true → rdAt g f1 h T (kp C cnt (sCmd T L a).2.2.1 (sCmd T L a).2.2.2.1 (sCmd T L a).2.2.2.2.1 (sCmd T L a).2.2.2.2.2) (↑L : Int) (↑(cnt + 1) : Int) (↑(sCmd T L a).2.1 : Int) nm1)) ∧ ∀ q, (q < h ∨ h + 3 ≤ q) → f1 q = f q
set_option maxRecDepth 100000 in
set_option maxHeartbeats 1000000 in
/-- readCommand() -/
theorem c_X6_readCommand (l : Launch) (g : gE) (b0 n : Nat) (f : gF) (h : Nat) (T C : Nat → Int) (L cnt a : Nat) (nm : Int) (hE : rdAt g f h T C (↑L : Int) (↑cnt : Int) (↑a : Int) nm) (hrg : b0 ≤ h ∧ h + 3 ≤ b0 + n) (hT : txOk T) (hL : L ≤ 60) (ha : a ≤ L) (hcn0 : a < L → cnt < 30) : cI l yX6_readCommand cX6_readCommand 2 (some .boolean) 4 83 [.ref h] g b0 n f (po_X6_readCommand g f h T C L cnt a nm) := by
  refine gs_i (cc := cX6_readCommand) (maxL := 2) (ret := (some .boolean)) (by decide) (Nat.le_of_ble_eq_true rfl) ?_
  intro p e0 s m args below meth c ls hx hb hr hml hown hts hlk hK hM hl
  have hl : lv_has ls 2 [(0, .ref h)] := hl
  have hnx := nx_in (L := L) (a := a) hT
  refine lv_aload_n hx hb dX6_readCommand_0 rfl (lv_at hl 0 rfl) ?_
  obtain ⟨ho1, ho2, ho3⟩ := id hE
  have hw4 : rdAt g f h T C (↑L : Int) (↑cnt : Int) (↑a : Int) nm := ⟨ho1, ho2, ho3⟩
  have hC5 := c_X6_next l g b0 n f h T C L cnt a nm hw4 hrg hT hL (by omega)
  refine g_callVi (ci := 8) (C := RX6) (T := TX6) (N := 6) (As := []) (rest := []) ⟨hx, hb, hml, hown, hts⟩ hK hM hC5 (cuV (n := 0) hts u_322 u_319 u_9 (by decide) u_321 us_1 ⟨Nat.le_of_ble_eq_true rfl, Nat.le_of_ble_eq_true rfl⟩) ⟨by omega, by omega⟩ ho1 rfl rfl hl.1 rfl (Nat.le_of_ble_eq_true rfl) dX6_readCommand_1 ⟨Nat.zero_le _, Nat.zero_le _⟩ (fun r1 f6 H locs hM hp7 => ?_)
  obtain ⟨rfl, rfl⟩ := hp7
  refine lv_istore_n (lv' := [(1, .int (zI (nx T L a))), (0, .ref h)]) hx hb dX6_readCommand_4 rfl hl (by decide) rfl (fun ls hl => ?_)
  refine lv_iload_n hx hb dX6_readCommand_5 rfl (lv_at hl 0 rfl) ?_
  have hz6 := zI_toInt (z := (nx T L a)) (by have := nx_in (L := L) (a := a) hT; exact ⟨by omega, by omega⟩)
  rcases (show (nx T L a) = 100 ∨ (nx T L a) = 109 ∨ (nx T L a) = 110 ∨ (nx T L a) = 114 ∨ (nx T L a) = 115 ∨ ((nx T L a) ≠ 100 ∧ (nx T L a) ≠ 109 ∧ (nx T L a) ≠ 110 ∧ (nx T L a) ≠ 114 ∧ (nx T L a) ≠ 115) by omega) with c6 | c6 | c6 | c6 | c6 | c6
  · refine lv_lookup (off := 137) (tgt := 143) hx hb dX6_readCommand_6 (by decide) (by rw [hz6, c6]; decide) (by decide) ?_
    have hlt9 : a < L := nx_lt (T := T) (L := L) (a := a) (by omega)
    have hcn : cnt < 30 := hcn0 hlt9
    refine lv_aload_n hx hb dX6_readCommand_143 rfl (lv_at hl 1 rfl) ?_
    refine lv_dup hx hb dX6_readCommand_144 rfl ?_
    refine g_get (ci := 8) (v := .int (zI (↑a : Int))) (C := RX6) (T := TX6) (N := 6) hx hb hts iU_X6 hown hK hM ⟨by omega, by omega⟩ ho1 rfl 4 (by decide) (hts _ u_259) (fun _ h9 => h9) rfl dX6_readCommand_145 ?_
    refine g_iconst hx hb dX6_readCommand_148 ?_
    refine g_iadd hx hb dX6_readCommand_149 ?_
    refine g_put (ci := 8) (v := .int (zI ((↑a : Int) + 1))) (ty := .int) (C := RX6) (T := TX6) (N := 6) hx hb hts iU_X6 tyX6 tyX6_ok nmX6 hown hK hM ⟨by omega, by omega⟩ ho1 rfl 4 (by decide) (hts _ u_259) (fun _ h9 => h9) rfl (by decide +kernel) rfl rfl (Nat.le_of_ble_eq_true rfl) dX6_readCommand_150 (fun f8 H locs hM hf10 o9 => ?_)
    have hf10 : f8 (h) = .inr (8, [.ref (h + 1), .ref (h + 2), .int (zI (↑L : Int)), .int (zI (↑cnt : Int)), .int (zI ((↑a : Int) + 1)), .int (zI nm)]) := hf10
    refine lv_aload_n hx hb dX6_readCommand_153 rfl (lv_at hl 1 rfl) ?_
    have hf11 := ho2.kept (o9 (h + 1) (by omega))
    have hf12 := ho3.kept (o9 (h + 2) (by omega))
    have hw13 : rdAt g f8 h T C (↑L : Int) (↑cnt : Int) (↑(a + 1) : Int) nm := ⟨hf10, hf11, hf12⟩
    have hC14 := c_X6_readNumber l g b0 n f8 h T C L cnt (a + 1) nm hw13 hrg hT hL (by omega)
    refine g_callVi (ci := 8) (C := RX6) (T := TX6) (N := 6) (As := []) (rest := []) ⟨hx, hb, hml, hown, hts⟩ hK hM hC14 (cuV (n := 0) hts u_330 u_327 u_9 (by decide) u_329 us_3 ⟨Nat.le_of_ble_eq_true rfl, Nat.le_of_ble_eq_true rfl⟩) ⟨by omega, by omega⟩ hf10 rfl rfl hl.1 rfl (Nat.le_of_ble_eq_true rfl) dX6_readCommand_154 ⟨Nat.zero_le _, Nat.zero_le _⟩ (fun r154 f15 H locs hM hp16 => ?_)
    obtain ⟨rfl, hn17, o18⟩ := hp16
    have h7hn17 := sNum_7 (T := T) (a := (a + 1)) hL (by omega)
    refine g_ifb_eq (tgt := 179) hx hb dX6_readCommand_157 (by decide) (fun c157 => ?_) (fun c157 => ?_)
    · skip
      refine g_iconst hx hb dX6_readCommand_179 ?_
      obtain ⟨ho19, ho20, ho21⟩ := id hn17
      have hw22 : rdAt g f15 h T C (↑L : Int) (↑cnt : Int) (↑((sNum T L 7 (a + 1) 0).1) : Int) ((sNum T L 7 (a + 1) 0).2) := ⟨ho19, ho20, ho21⟩
      refine g_zret hx hb hr hlk hK hM dX6_readCommand_180 rfl ?_
      have hq9 : (sCmd T L a).1 = false ∧ (sCmd T L a).2.1 = ((sNum T L 7 (a + 1) 0).1) := by
        unfold sCmd sNb
        simp only [*, dg, if_true, if_false, ↓reduceIte, decide_true, decide_false, true_and, and_self, not_true_eq_false, not_false_eq_true, decide_eq_true_eq, decide_eq_false_iff_not, and_true, Int.reduceEq]
      refine ⟨by rw [hq9.1]; rfl, ⟨((sNum T L 7 (a + 1) 0).2), fun hz => ?_, fun hz => ?_⟩, (fun q hq => ((o18 (q) (by omega)).trans (o9 (q) (by omega))))⟩
      · rw [hq9.2]
        exact hw22
      · exact absurd (hq9.1.symm.trans hz) (by decide)
    · skip
      refine lv_aload_n hx hb dX6_readCommand_160 rfl (lv_at hl 1 rfl) ?_
      refine g_bipush hx hb dX6_readCommand_161 (by decide) ?_
      refine lv_aload_n hx hb dX6_readCommand_163 rfl (lv_at hl 1 rfl) ?_
      obtain ⟨ho23, ho24, ho25⟩ := id hn17
      refine g_get (ci := 8) (v := .int (zI ((sNum T L 7 (a + 1) 0).2))) (C := RX6) (T := TX6) (N := 6) hx hb hts iU_X6 hown hK hM ⟨by omega, by omega⟩ ho23 rfl 5 (by decide) (hts _ u_260) (fun _ h9 => h9) rfl dX6_readCommand_164 ?_
      refine g_iconst hx hb dX6_readCommand_167 ?_
      refine g_iconst hx hb dX6_readCommand_168 ?_
      have hw26 : rdAt g f15 h T C (↑L : Int) (↑cnt : Int) (↑((sNum T L 7 (a + 1) 0).1) : Int) ((sNum T L 7 (a + 1) 0).2) := ⟨ho23, ho24, ho25⟩
      have hC27 := c_X6_keep l g b0 n f15 h T C L cnt ((sNum T L 7 (a + 1) 0).1) ((sNum T L 7 (a + 1) 0).2) 12 ((sNum T L 7 (a + 1) 0).2) 0 0 hw26 hrg hcn
      refine g_callVi (ci := 8) (C := RX6) (T := TX6) (N := 6) (As := [.int (zI 12), .int (zI ((sNum T L 7 (a + 1) 0).2)), .int (zI 0), .int (zI 0)]) (rest := []) ⟨hx, hb, hml, hown, hts⟩ hK hM hC27 (cuV (n := 4) hts u_326 u_323 u_9 (by decide) u_325 us_2 ⟨Nat.le_of_ble_eq_true rfl, Nat.le_of_ble_eq_true rfl⟩) ⟨by omega, by omega⟩ ho23 rfl rfl hl.1 rfl (Nat.le_of_ble_eq_true rfl) dX6_readCommand_169 ⟨Nat.zero_le _, Nat.zero_le _⟩ (fun r169 f28 H locs hM hp29 => ?_)
      obtain ⟨rfl, hn30, o31⟩ := hp29
      refine g_if_eq (tgt := 179) hx hb dX6_readCommand_172 (by decide) (by decide) (fun c172 => ?_) (fun c172 => ?_)
      · exact absurd c172 (by decide)
      · skip
        refine g_iconst hx hb dX6_readCommand_175 ?_
        refine lv_goto (tgt := 180) hx hb dX6_readCommand_176 (by decide) ?_
        obtain ⟨ho32, ho33, ho34⟩ := id hn30
        have hw35 : rdAt g f28 h T (kp C cnt 12 ((sNum T L 7 (a + 1) 0).2) 0 0) (↑L : Int) (↑(cnt + 1) : Int) (↑((sNum T L 7 (a + 1) 0).1) : Int) ((sNum T L 7 (a + 1) 0).2) := ⟨ho32, ho33, ho34⟩
        refine g_zret hx hb hr hlk hK hM dX6_readCommand_180 rfl ?_
        have hq9 : (sCmd T L a).1 = true ∧ (sCmd T L a).2.1 = ((sNum T L 7 (a + 1) 0).1) ∧ kp C cnt (sCmd T L a).2.2.1 (sCmd T L a).2.2.2.1 (sCmd T L a).2.2.2.2.1 (sCmd T L a).2.2.2.2.2 = (kp C cnt 12 ((sNum T L 7 (a + 1) 0).2) 0 0) := by
          unfold sCmd sNb
          simp only [*, dg, if_true, if_false, ↓reduceIte, decide_true, decide_false, true_and, and_self, not_true_eq_false, not_false_eq_true, decide_eq_true_eq, decide_eq_false_iff_not, and_true, Int.reduceEq]
        refine ⟨by rw [hq9.1]; rfl, ⟨((sNum T L 7 (a + 1) 0).2), fun hz => ?_, fun hz => ?_⟩, (fun q hq => ((o31 (q) (by omega)).trans ((o18 (q) (by omega)).trans (o9 (q) (by omega)))))⟩
        · exact absurd (hq9.1.symm.trans hz) (by decide)
        · rw [hq9.2.1, hq9.2.2]
          exact hw35
  · refine lv_lookup (off := 122) (tgt := 128) hx hb dX6_readCommand_6 (by decide) (by rw [hz6, c6]; decide) (by decide) ?_
    have hlt9 : a < L := nx_lt (T := T) (L := L) (a := a) (by omega)
    have hcn : cnt < 30 := hcn0 hlt9
    refine lv_aload_n hx hb dX6_readCommand_128 rfl (lv_at hl 1 rfl) ?_
    refine lv_dup hx hb dX6_readCommand_129 rfl ?_
    refine g_get (ci := 8) (v := .int (zI (↑a : Int))) (C := RX6) (T := TX6) (N := 6) hx hb hts iU_X6 hown hK hM ⟨by omega, by omega⟩ ho1 rfl 4 (by decide) (hts _ u_259) (fun _ h9 => h9) rfl dX6_readCommand_130 ?_
    refine g_iconst hx hb dX6_readCommand_133 ?_
    refine g_iadd hx hb dX6_readCommand_134 ?_
    refine g_put (ci := 8) (v := .int (zI ((↑a : Int) + 1))) (ty := .int) (C := RX6) (T := TX6) (N := 6) hx hb hts iU_X6 tyX6 tyX6_ok nmX6 hown hK hM ⟨by omega, by omega⟩ ho1 rfl 4 (by decide) (hts _ u_259) (fun _ h9 => h9) rfl (by decide +kernel) rfl rfl (Nat.le_of_ble_eq_true rfl) dX6_readCommand_135 (fun f36 H locs hM hf38 o37 => ?_)
    have hf38 : f36 (h) = .inr (8, [.ref (h + 1), .ref (h + 2), .int (zI (↑L : Int)), .int (zI (↑cnt : Int)), .int (zI ((↑a : Int) + 1)), .int (zI nm)]) := hf38
    refine lv_aload_n hx hb dX6_readCommand_138 rfl (lv_at hl 1 rfl) ?_
    have hf39 := ho2.kept (o37 (h + 1) (by omega))
    have hf40 := ho3.kept (o37 (h + 2) (by omega))
    have hw41 : rdAt g f36 h T C (↑L : Int) (↑cnt : Int) (↑(a + 1) : Int) nm := ⟨hf38, hf39, hf40⟩
    have hC42 := c_X6_readMove l g b0 n f36 h T C L cnt (a + 1) nm hw41 hrg hT hL (by omega) hcn
    refine g_callVi (ci := 8) (C := RX6) (T := TX6) (N := 6) (As := []) (rest := []) ⟨hx, hb, hml, hown, hts⟩ hK hM hC42 (cuV (n := 0) hts u_350 u_347 u_9 (by decide) u_349 us_8 ⟨Nat.le_of_ble_eq_true rfl, Nat.le_of_ble_eq_true rfl⟩) ⟨by omega, by omega⟩ hf38 rfl rfl hl.1 rfl (Nat.le_of_ble_eq_true rfl) dX6_readCommand_139 ⟨Nat.zero_le _, Nat.zero_le _⟩ (fun r139 f43 H locs hM hp44 => ?_)
    have hp44 := res_alt hp44
    rcases hp44 with ⟨hq47, rfl, ⟨nm48, hn45⟩, o46⟩ | ⟨hq47, rfl, ⟨nm48, hn45⟩, o46⟩
    · skip
      refine g_zret hx hb hr hlk hK hM dX6_readCommand_142 rfl ?_
      have hq9 : sCmd T L a = (sMo T L (a + 1)) := by
        unfold sCmd
        simp only [*, if_true, if_false, ↓reduceIte, Int.reduceEq]
      unfold po_X6_readCommand
      rw [hq9]
      refine ⟨by rw [hq47]; rfl, ⟨nm48, fun hz => ?_, fun hz => ?_⟩, (fun q hq => ((o46 (q) (by omega)).trans (o37 (q) (by omega))))⟩
      · exact absurd (hq47.symm.trans hz) (by decide)
      · exact hn45
    · skip
      refine g_zret hx hb hr hlk hK hM dX6_readCommand_142 rfl ?_
      have hq9 : sCmd T L a = (sMo T L (a + 1)) := by
        unfold sCmd
        simp only [*, if_true, if_false, ↓reduceIte, Int.reduceEq]
      unfold po_X6_readCommand
      rw [hq9]
      refine ⟨by rw [hq47]; rfl, ⟨nm48, fun hz => ?_, fun hz => ?_⟩, (fun q hq => ((o46 (q) (by omega)).trans (o37 (q) (by omega))))⟩
      · exact hn45
      · exact absurd (hq47.symm.trans hz) (by decide)
  · refine lv_lookup (off := 50) (tgt := 56) hx hb dX6_readCommand_6 (by decide) (by rw [hz6, c6]; decide) (by decide) ?_
    have hlt9 : a < L := nx_lt (T := T) (L := L) (a := a) (by omega)
    have hcn : cnt < 30 := hcn0 hlt9
    refine lv_aload_n hx hb dX6_readCommand_56 rfl (lv_at hl 1 rfl) ?_
    refine lv_dup hx hb dX6_readCommand_57 rfl ?_
    refine g_get (ci := 8) (v := .int (zI (↑a : Int))) (C := RX6) (T := TX6) (N := 6) hx hb hts iU_X6 hown hK hM ⟨by omega, by omega⟩ ho1 rfl 4 (by decide) (hts _ u_259) (fun _ h9 => h9) rfl dX6_readCommand_58 ?_
    refine g_iconst hx hb dX6_readCommand_61 ?_
    refine g_iadd hx hb dX6_readCommand_62 ?_
    refine g_put (ci := 8) (v := .int (zI ((↑a : Int) + 1))) (ty := .int) (C := RX6) (T := TX6) (N := 6) hx hb hts iU_X6 tyX6 tyX6_ok nmX6 hown hK hM ⟨by omega, by omega⟩ ho1 rfl 4 (by decide) (hts _ u_259) (fun _ h9 => h9) rfl (by decide +kernel) rfl rfl (Nat.le_of_ble_eq_true rfl) dX6_readCommand_63 (fun f49 H locs hM hf51 o50 => ?_)
    have hf51 : f49 (h) = .inr (8, [.ref (h + 1), .ref (h + 2), .int (zI (↑L : Int)), .int (zI (↑cnt : Int)), .int (zI ((↑a : Int) + 1)), .int (zI nm)]) := hf51
    refine lv_aload_n hx hb dX6_readCommand_66 rfl (lv_at hl 1 rfl) ?_
    refine g_iconst hx hb dX6_readCommand_67 ?_
    refine g_iconst hx hb dX6_readCommand_68 ?_
    refine g_iconst hx hb dX6_readCommand_69 ?_
    refine g_iconst hx hb dX6_readCommand_70 ?_
    have hf52 := ho2.kept (o50 (h + 1) (by omega))
    have hf53 := ho3.kept (o50 (h + 2) (by omega))
    have hw54 : rdAt g f49 h T C (↑L : Int) (↑cnt : Int) (↑(a + 1) : Int) nm := ⟨hf51, hf52, hf53⟩
    have hC55 := c_X6_keep l g b0 n f49 h T C L cnt (a + 1) nm 0 (-1) 0 0 hw54 hrg hcn
    refine g_callVi (ci := 8) (C := RX6) (T := TX6) (N := 6) (As := [.int (zI 0), .int (zI (-1)), .int (zI 0), .int (zI 0)]) (rest := []) ⟨hx, hb, hml, hown, hts⟩ hK hM hC55 (cuV (n := 4) hts u_326 u_323 u_9 (by decide) u_325 us_2 ⟨Nat.le_of_ble_eq_true rfl, Nat.le_of_ble_eq_true rfl⟩) ⟨by omega, by omega⟩ hf51 rfl rfl hl.1 rfl (Nat.le_of_ble_eq_true rfl) dX6_readCommand_71 ⟨Nat.zero_le _, Nat.zero_le _⟩ (fun r71 f56 H locs hM hp57 => ?_)
    obtain ⟨rfl, hn58, o59⟩ := hp57
    obtain ⟨ho60, ho61, ho62⟩ := id hn58
    have hw63 : rdAt g f56 h T (kp C cnt 0 (-1) 0 0) (↑L : Int) (↑(cnt + 1) : Int) (↑(a + 1) : Int) nm := ⟨ho60, ho61, ho62⟩
    refine g_zret hx hb hr hlk hK hM dX6_readCommand_74 rfl ?_
    have hq9 : (sCmd T L a).1 = true ∧ (sCmd T L a).2.1 = (a + 1) ∧ kp C cnt (sCmd T L a).2.2.1 (sCmd T L a).2.2.2.1 (sCmd T L a).2.2.2.2.1 (sCmd T L a).2.2.2.2.2 = (kp C cnt 0 (-1) 0 0) := by
      unfold sCmd sNb
      simp only [*, dg, if_true, if_false, ↓reduceIte, decide_true, decide_false, true_and, and_self, not_true_eq_false, not_false_eq_true, decide_eq_true_eq, decide_eq_false_iff_not, and_true, Int.reduceEq]
    refine ⟨by rw [hq9.1]; rfl, ⟨nm, fun hz => ?_, fun hz => ?_⟩, (fun q hq => ((o59 (q) (by omega)).trans (o50 (q) (by omega))))⟩
    · exact absurd (hq9.1.symm.trans hz) (by decide)
    · rw [hq9.2.1, hq9.2.2]
      exact hw63
  · refine lv_lookup (off := 69) (tgt := 75) hx hb dX6_readCommand_6 (by decide) (by rw [hz6, c6]; decide) (by decide) ?_
    have hlt9 : a < L := nx_lt (T := T) (L := L) (a := a) (by omega)
    have hcn : cnt < 30 := hcn0 hlt9
    refine lv_aload_n hx hb dX6_readCommand_75 rfl (lv_at hl 1 rfl) ?_
    refine lv_dup hx hb dX6_readCommand_76 rfl ?_
    refine g_get (ci := 8) (v := .int (zI (↑a : Int))) (C := RX6) (T := TX6) (N := 6) hx hb hts iU_X6 hown hK hM ⟨by omega, by omega⟩ ho1 rfl 4 (by decide) (hts _ u_259) (fun _ h9 => h9) rfl dX6_readCommand_77 ?_
    refine g_iconst hx hb dX6_readCommand_80 ?_
    refine g_iadd hx hb dX6_readCommand_81 ?_
    refine g_put (ci := 8) (v := .int (zI ((↑a : Int) + 1))) (ty := .int) (C := RX6) (T := TX6) (N := 6) hx hb hts iU_X6 tyX6 tyX6_ok nmX6 hown hK hM ⟨by omega, by omega⟩ ho1 rfl 4 (by decide) (hts _ u_259) (fun _ h9 => h9) rfl (by decide +kernel) rfl rfl (Nat.le_of_ble_eq_true rfl) dX6_readCommand_82 (fun f64 H locs hM hf66 o65 => ?_)
    have hf66 : f64 (h) = .inr (8, [.ref (h + 1), .ref (h + 2), .int (zI (↑L : Int)), .int (zI (↑cnt : Int)), .int (zI ((↑a : Int) + 1)), .int (zI nm)]) := hf66
    refine lv_aload_n hx hb dX6_readCommand_85 rfl (lv_at hl 1 rfl) ?_
    have hf67 := ho2.kept (o65 (h + 1) (by omega))
    have hf68 := ho3.kept (o65 (h + 2) (by omega))
    have hw69 : rdAt g f64 h T C (↑L : Int) (↑cnt : Int) (↑(a + 1) : Int) nm := ⟨hf66, hf67, hf68⟩
    have hC70 := c_X6_readNumber l g b0 n f64 h T C L cnt (a + 1) nm hw69 hrg hT hL (by omega)
    refine g_callVi (ci := 8) (C := RX6) (T := TX6) (N := 6) (As := []) (rest := []) ⟨hx, hb, hml, hown, hts⟩ hK hM hC70 (cuV (n := 0) hts u_330 u_327 u_9 (by decide) u_329 us_3 ⟨Nat.le_of_ble_eq_true rfl, Nat.le_of_ble_eq_true rfl⟩) ⟨by omega, by omega⟩ hf66 rfl rfl hl.1 rfl (Nat.le_of_ble_eq_true rfl) dX6_readCommand_86 ⟨Nat.zero_le _, Nat.zero_le _⟩ (fun r86 f71 H locs hM hp72 => ?_)
    obtain ⟨rfl, hn73, o74⟩ := hp72
    have h7hn73 := sNum_7 (T := T) (a := (a + 1)) hL (by omega)
    refine g_ifb_eq (tgt := 111) hx hb dX6_readCommand_89 (by decide) (fun c89 => ?_) (fun c89 => ?_)
    · skip
      refine g_iconst hx hb dX6_readCommand_111 ?_
      obtain ⟨ho75, ho76, ho77⟩ := id hn73
      have hw78 : rdAt g f71 h T C (↑L : Int) (↑cnt : Int) (↑((sNum T L 7 (a + 1) 0).1) : Int) ((sNum T L 7 (a + 1) 0).2) := ⟨ho75, ho76, ho77⟩
      refine g_zret hx hb hr hlk hK hM dX6_readCommand_112 rfl ?_
      have hq9 : (sCmd T L a).1 = false ∧ (sCmd T L a).2.1 = ((sNum T L 7 (a + 1) 0).1) := by
        unfold sCmd sNb
        simp only [*, dg, if_true, if_false, ↓reduceIte, decide_true, decide_false, true_and, and_self, not_true_eq_false, not_false_eq_true, decide_eq_true_eq, decide_eq_false_iff_not, and_true, Int.reduceEq]
      refine ⟨by rw [hq9.1]; rfl, ⟨((sNum T L 7 (a + 1) 0).2), fun hz => ?_, fun hz => ?_⟩, (fun q hq => ((o74 (q) (by omega)).trans (o65 (q) (by omega))))⟩
      · rw [hq9.2]
        exact hw78
      · exact absurd (hq9.1.symm.trans hz) (by decide)
    · skip
      refine lv_aload_n hx hb dX6_readCommand_92 rfl (lv_at hl 1 rfl) ?_
      refine g_bipush hx hb dX6_readCommand_93 (by decide) ?_
      refine lv_aload_n hx hb dX6_readCommand_95 rfl (lv_at hl 1 rfl) ?_
      obtain ⟨ho79, ho80, ho81⟩ := id hn73
      refine g_get (ci := 8) (v := .int (zI ((sNum T L 7 (a + 1) 0).2))) (C := RX6) (T := TX6) (N := 6) hx hb hts iU_X6 hown hK hM ⟨by omega, by omega⟩ ho79 rfl 5 (by decide) (hts _ u_260) (fun _ h9 => h9) rfl dX6_readCommand_96 ?_
      refine g_iconst hx hb dX6_readCommand_99 ?_
      refine g_iconst hx hb dX6_readCommand_100 ?_
      have hw82 : rdAt g f71 h T C (↑L : Int) (↑cnt : Int) (↑((sNum T L 7 (a + 1) 0).1) : Int) ((sNum T L 7 (a + 1) 0).2) := ⟨ho79, ho80, ho81⟩
      have hC83 := c_X6_keep l g b0 n f71 h T C L cnt ((sNum T L 7 (a + 1) 0).1) ((sNum T L 7 (a + 1) 0).2) 9 ((sNum T L 7 (a + 1) 0).2) 0 0 hw82 hrg hcn
      refine g_callVi (ci := 8) (C := RX6) (T := TX6) (N := 6) (As := [.int (zI 9), .int (zI ((sNum T L 7 (a + 1) 0).2)), .int (zI 0), .int (zI 0)]) (rest := []) ⟨hx, hb, hml, hown, hts⟩ hK hM hC83 (cuV (n := 4) hts u_326 u_323 u_9 (by decide) u_325 us_2 ⟨Nat.le_of_ble_eq_true rfl, Nat.le_of_ble_eq_true rfl⟩) ⟨by omega, by omega⟩ ho79 rfl rfl hl.1 rfl (Nat.le_of_ble_eq_true rfl) dX6_readCommand_101 ⟨Nat.zero_le _, Nat.zero_le _⟩ (fun r101 f84 H locs hM hp85 => ?_)
      obtain ⟨rfl, hn86, o87⟩ := hp85
      refine g_if_eq (tgt := 111) hx hb dX6_readCommand_104 (by decide) (by decide) (fun c104 => ?_) (fun c104 => ?_)
      · exact absurd c104 (by decide)
      · skip
        refine g_iconst hx hb dX6_readCommand_107 ?_
        refine lv_goto (tgt := 112) hx hb dX6_readCommand_108 (by decide) ?_
        obtain ⟨ho88, ho89, ho90⟩ := id hn86
        have hw91 : rdAt g f84 h T (kp C cnt 9 ((sNum T L 7 (a + 1) 0).2) 0 0) (↑L : Int) (↑(cnt + 1) : Int) (↑((sNum T L 7 (a + 1) 0).1) : Int) ((sNum T L 7 (a + 1) 0).2) := ⟨ho88, ho89, ho90⟩
        refine g_zret hx hb hr hlk hK hM dX6_readCommand_112 rfl ?_
        have hq9 : (sCmd T L a).1 = true ∧ (sCmd T L a).2.1 = ((sNum T L 7 (a + 1) 0).1) ∧ kp C cnt (sCmd T L a).2.2.1 (sCmd T L a).2.2.2.1 (sCmd T L a).2.2.2.2.1 (sCmd T L a).2.2.2.2.2 = (kp C cnt 9 ((sNum T L 7 (a + 1) 0).2) 0 0) := by
          unfold sCmd sNb
          simp only [*, dg, if_true, if_false, ↓reduceIte, decide_true, decide_false, true_and, and_self, not_true_eq_false, not_false_eq_true, decide_eq_true_eq, decide_eq_false_iff_not, and_true, Int.reduceEq]
        refine ⟨by rw [hq9.1]; rfl, ⟨((sNum T L 7 (a + 1) 0).2), fun hz => ?_, fun hz => ?_⟩, (fun q hq => ((o87 (q) (by omega)).trans ((o74 (q) (by omega)).trans (o65 (q) (by omega)))))⟩
        · exact absurd (hq9.1.symm.trans hz) (by decide)
        · rw [hq9.2.1, hq9.2.2]
          exact hw91
  · refine lv_lookup (off := 107) (tgt := 113) hx hb dX6_readCommand_6 (by decide) (by rw [hz6, c6]; decide) (by decide) ?_
    have hlt9 : a < L := nx_lt (T := T) (L := L) (a := a) (by omega)
    have hcn : cnt < 30 := hcn0 hlt9
    refine lv_aload_n hx hb dX6_readCommand_113 rfl (lv_at hl 1 rfl) ?_
    refine lv_dup hx hb dX6_readCommand_114 rfl ?_
    refine g_get (ci := 8) (v := .int (zI (↑a : Int))) (C := RX6) (T := TX6) (N := 6) hx hb hts iU_X6 hown hK hM ⟨by omega, by omega⟩ ho1 rfl 4 (by decide) (hts _ u_259) (fun _ h9 => h9) rfl dX6_readCommand_115 ?_
    refine g_iconst hx hb dX6_readCommand_118 ?_
    refine g_iadd hx hb dX6_readCommand_119 ?_
    refine g_put (ci := 8) (v := .int (zI ((↑a : Int) + 1))) (ty := .int) (C := RX6) (T := TX6) (N := 6) hx hb hts iU_X6 tyX6 tyX6_ok nmX6 hown hK hM ⟨by omega, by omega⟩ ho1 rfl 4 (by decide) (hts _ u_259) (fun _ h9 => h9) rfl (by decide +kernel) rfl rfl (Nat.le_of_ble_eq_true rfl) dX6_readCommand_120 (fun f92 H locs hM hf94 o93 => ?_)
    have hf94 : f92 (h) = .inr (8, [.ref (h + 1), .ref (h + 2), .int (zI (↑L : Int)), .int (zI (↑cnt : Int)), .int (zI ((↑a : Int) + 1)), .int (zI nm)]) := hf94
    refine lv_aload_n hx hb dX6_readCommand_123 rfl (lv_at hl 1 rfl) ?_
    have hf95 := ho2.kept (o93 (h + 1) (by omega))
    have hf96 := ho3.kept (o93 (h + 2) (by omega))
    have hw97 : rdAt g f92 h T C (↑L : Int) (↑cnt : Int) (↑(a + 1) : Int) nm := ⟨hf94, hf95, hf96⟩
    have hC98 := c_X6_readSpending l g b0 n f92 h T C L cnt (a + 1) nm hw97 hrg hT hL (by omega) hcn
    refine g_callVi (ci := 8) (C := RX6) (T := TX6) (N := 6) (As := []) (rest := []) ⟨hx, hb, hml, hown, hts⟩ hK hM hC98 (cuV (n := 0) hts u_338 u_335 u_9 (by decide) u_337 us_5 ⟨Nat.le_of_ble_eq_true rfl, Nat.le_of_ble_eq_true rfl⟩) ⟨by omega, by omega⟩ hf94 rfl rfl hl.1 rfl (Nat.le_of_ble_eq_true rfl) dX6_readCommand_124 ⟨Nat.zero_le _, Nat.zero_le _⟩ (fun r124 f99 H locs hM hp100 => ?_)
    have hp100 := res_alt hp100
    rcases hp100 with ⟨hq103, rfl, ⟨nm104, hn101⟩, o102⟩ | ⟨hq103, rfl, ⟨nm104, hn101⟩, o102⟩
    · skip
      refine g_zret hx hb hr hlk hK hM dX6_readCommand_127 rfl ?_
      have hq9 : sCmd T L a = (sSp T L (a + 1)) := by
        unfold sCmd
        simp only [*, if_true, if_false, ↓reduceIte, Int.reduceEq]
      unfold po_X6_readCommand
      rw [hq9]
      refine ⟨by rw [hq103]; rfl, ⟨nm104, fun hz => ?_, fun hz => ?_⟩, (fun q hq => ((o102 (q) (by omega)).trans (o93 (q) (by omega))))⟩
      · exact absurd (hq103.symm.trans hz) (by decide)
      · exact hn101
    · skip
      refine g_zret hx hb hr hlk hK hM dX6_readCommand_127 rfl ?_
      have hq9 : sCmd T L a = (sSp T L (a + 1)) := by
        unfold sCmd
        simp only [*, if_true, if_false, ↓reduceIte, Int.reduceEq]
      unfold po_X6_readCommand
      rw [hq9]
      refine ⟨by rw [hq103]; rfl, ⟨nm104, fun hz => ?_, fun hz => ?_⟩, (fun q hq => ((o102 (q) (by omega)).trans (o93 (q) (by omega))))⟩
      · exact hn101
      · exact absurd (hq103.symm.trans hz) (by decide)
  · skip
    refine lv_lookup (off := 175) (tgt := 181) hx hb dX6_readCommand_6 (by decide) ((lv_osw (k := zI 100) (by rw [zI_eq (by have := nx_in (L := L) (a := a) hT; exact ⟨by omega, by omega⟩) (by decide)]; omega) (by decide)).trans ((lv_osw (k := zI 109) (by rw [zI_eq (by have := nx_in (L := L) (a := a) hT; exact ⟨by omega, by omega⟩) (by decide)]; omega) (by decide)).trans ((lv_osw (k := zI 110) (by rw [zI_eq (by have := nx_in (L := L) (a := a) hT; exact ⟨by omega, by omega⟩) (by decide)]; omega) (by decide)).trans ((lv_osw (k := zI 114) (by rw [zI_eq (by have := nx_in (L := L) (a := a) hT; exact ⟨by omega, by omega⟩) (by decide)]; omega) (by decide)).trans ((lv_osw (k := zI 115) (by rw [zI_eq (by have := nx_in (L := L) (a := a) hT; exact ⟨by omega, by omega⟩) (by decide)]; omega) (by decide)).trans rfl))))) (by decide) ?_
    refine g_iconst hx hb dX6_readCommand_181 ?_
    refine g_zret hx hb hr hlk hK hM dX6_readCommand_182 rfl ?_
    have hq9 : sCmd T L a = (false, a, 0, 0, 0, 0) := by
      unfold sCmd
      simp only [*, if_true, if_false, ↓reduceIte]
    unfold po_X6_readCommand
    rw [hq9]
    refine ⟨rfl, ⟨nm, fun hz => ?_, fun hz => ?_⟩, (fun q hq => rfl)⟩
    · exact hE
    · exact (Bool.false_ne_true hz).elim

def po_X6_readAll (g : gE) (f : gF) (h : Nat) (T C : Nat → Int) (L : Nat) (cnt a nm : Int) : Int32 → gF → Prop := fun r f1 => ∃ (N : Nat) (e9 : Int) (C1 : Nat → Int) (nm1 cnt1 a1 : Int), rdE T L e9 N ∧ r = zI e9 ∧ rdAt g f1 h T C1 0 cnt1 a1 nm1 ∧ (e9 = -1 → cnt1 = ↑(N + 1) ∧ cmOk C1 T L (N + 1)) ∧ ∀ q, (q < h ∨ h + 3 ≤ q) → f1 q = f q
set_option maxRecDepth 100000 in
set_option maxHeartbeats 1000000 in
/-- readAll() -/
theorem c_X6_readAll (l : Launch) (g : gE) (b0 n : Nat) (f : gF) (h : Nat) (T C : Nat → Int) (L : Nat) (cnt a nm : Int) (hE : rdAt g f h T C (↑L : Int) cnt a nm) (hrg : b0 ≤ h ∧ h + 3 ≤ b0 + n) (hT : txOk T) (hL : L ≤ 60) : cI l yX6_readAll cX6_readAll 3 (some .int) 5 104 [.ref h] g b0 n f (po_X6_readAll g f h T C L cnt a nm) := by
  refine gs_i (cc := cX6_readAll) (maxL := 3) (ret := (some .int)) (by decide) (Nat.le_of_ble_eq_true rfl) ?_
  intro p e0 s m args below meth c ls hx hb hr hml hown hts hlk hK hM hl
  have hl : lv_has ls 3 [(0, .ref h)] := hl
  refine lv_aload_n hx hb dX6_readAll_0 rfl (lv_at hl 0 rfl) ?_
  refine g_iconst hx hb dX6_readAll_1 ?_
  obtain ⟨ho1, ho2, ho3⟩ := id hE
  refine g_put (ci := 8) (v := .int (zI 0)) (ty := .int) (C := RX6) (T := TX6) (N := 6) hx hb hts iU_X6 tyX6 tyX6_ok nmX6 hown hK hM ⟨by omega, by omega⟩ ho1 rfl 4 (by decide) (hts _ u_259) (fun _ h9 => h9) rfl (by decide +kernel) rfl rfl (Nat.le_of_ble_eq_true rfl) dX6_readAll_2 (fun f4 H locs hM hf6 o5 => ?_)
  have hf6 : f4 (h) = .inr (8, [.ref (h + 1), .ref (h + 2), .int (zI (↑L : Int)), .int (zI cnt), .int (zI 0), .int (zI nm)]) := hf6
  refine lv_aload_n hx hb dX6_readAll_5 rfl (lv_at hl 0 rfl) ?_
  refine g_iconst hx hb dX6_readAll_6 ?_
  refine g_put (ci := 8) (v := .int (zI 0)) (ty := .int) (C := RX6) (T := TX6) (N := 6) hx hb hts iU_X6 tyX6 tyX6_ok nmX6 hown hK hM ⟨by omega, by omega⟩ hf6 rfl 3 (by decide) (hts _ u_257) (fun _ h9 => h9) rfl (by decide +kernel) rfl rfl (Nat.le_of_ble_eq_true rfl) dX6_readAll_7 (fun f7 H locs hM hf9 o8 => ?_)
  have hf9 : f7 (h) = .inr (8, [.ref (h + 1), .ref (h + 2), .int (zI (↑L : Int)), .int (zI 0), .int (zI 0), .int (zI nm)]) := hf9
  refine lv_aload_n hx hb dX6_readAll_10 rfl (lv_at hl 0 rfl) ?_
  have hf10 := ho2.kept ((o8 (h + 1) (by omega)).trans (o5 (h + 1) (by omega)))
  have hf11 := ho3.kept ((o8 (h + 2) (by omega)).trans (o5 (h + 2) (by omega)))
  have hw12 : rdAt g f7 h T C (↑L : Int) (↑0 : Int) (↑0 : Int) nm := ⟨hf9, hf10, hf11⟩
  have hC13 := c_X6_readCommand l g b0 n f7 h T C L 0 0 nm hw12 hrg hT hL (by omega) (fun _ => by omega)
  refine g_callVi (ci := 8) (C := RX6) (T := TX6) (N := 6) (As := []) (rest := []) ⟨hx, hb, hml, hown, hts⟩ hK hM hC13 (cuV (n := 0) hts u_318 u_315 u_9 (by decide) u_317 us_0 ⟨Nat.le_of_ble_eq_true rfl, Nat.le_of_ble_eq_true rfl⟩) ⟨by omega, by omega⟩ hf9 rfl rfl hl.1 rfl (Nat.le_of_ble_eq_true rfl) dX6_readAll_11 ⟨Nat.zero_le _, Nat.zero_le _⟩ (fun r11 f14 H locs hM hp15 => ?_)
  have hp15 := res_alt hp15
  rcases hp15 with ⟨hq18, rfl, ⟨nm19, hn16⟩, o17⟩ | ⟨hq18, rfl, ⟨nm19, hn16⟩, o17⟩
  · skip
    refine lv_istore_n (lv' := [(1, .int (zI 1)), (0, .ref h)]) hx hb dX6_readAll_14 rfl hl (by decide) rfl (fun ls hl => ?_)
    refine g_iconst hx hb dX6_readAll_15 ?_
    refine lv_istore_n (lv' := [(2, .int (zI 0)), (1, .int (zI 1)), (0, .ref h)]) hx hb dX6_readAll_16 rfl hl (by decide) rfl (fun ls hl => ?_)
    have lp17 : ∀ (k : Nat), ∀ (i : Nat) (N : Nat) (gd : Int) (cnt1 : Nat) (a1 : Nat) (nm1 : Int) (C1 : Nat → Int) (fL : gF) (H : Heap) (locs : List Loc) (ls : Array Slot), (61 - i < k) → (i ≤ 60) → (a1 ≤ L) → ((gd = 1 ∧ i = N ∧ chn T L N ∧ (cq T L N).1 = true ∧ (cq T L N).2.1 = a1 ∧ cnt1 = N + 1 ∧ cmOk C1 T L (N + 1)) ∨ (gd = 0 ∧ chn T L N ∧ ((cq T L N).1 = false ∨ ((cq T L N).2.1 < L ∧ nx T L (cq T L N).2.1 ≠ 59)) ∧ (cq T L N).2.1 = a1)) → (∀ q, (q < h ∨ h + 3 ≤ q) → fL q = f q) → gH g b0 n fL s.heap H locs → (rdAt g fL h T C1 (↑L : Int) (↑cnt1 : Int) (↑a1 : Int) nm1) → lv_has ls 3 [(0, .ref h), (1, .int (zI gd)), (2, .int (zI (↑i : Int)))] → W p l e0 { frames := 5, cells := 0, slots := 0, locals := 104 } s m args below meth c H locs 0 0 (MQ below (va_Qi (po_X6_readAll g f h T C L cnt a nm) (gB g b0 n) (gA b0)) args s 0 0 (gA b0)) (F0 m 17 ls []) := by
      intro k
      induction k with
      | zero =>
        intro i N gd cnt1 a1 nm1 C1 fL H locs ls hk hi ha1 hinv hfr hM hL1 hl
        exact absurd hk (Nat.not_lt_zero _)
      | succ k ih17 =>
        intro i N gd cnt1 a1 nm1 C1 fL H locs ls hk hi ha1 hinv hfr hM hL1 hl
        refine lv_iload_n hx hb dX6_readAll_17 rfl (lv_at hl 2 rfl) ?_
        refine g_bipush hx hb dX6_readAll_18 (by decide) ?_
        refine g_icmp_ge (tgt := 66) hx hb dX6_readAll_20 (by decide) ⟨by omega, by omega⟩ (by decide) (fun c20 => ?_) (fun c20 => ?_)
        · skip
          refine lv_aload_n hx hb dX6_readAll_66 rfl (lv_at hl 0 rfl) ?_
          refine g_iconst hx hb dX6_readAll_67 ?_
          obtain ⟨ho20, ho21, ho22⟩ := id hL1
          refine g_put (ci := 8) (v := .int (zI 0)) (ty := .int) (C := RX6) (T := TX6) (N := 6) hx hb hts iU_X6 tyX6 tyX6_ok nmX6 hown hK hM ⟨by omega, by omega⟩ ho20 rfl 2 (by decide) (hts _ u_255) (fun _ h9 => h9) rfl (by decide +kernel) rfl rfl (Nat.le_of_ble_eq_true rfl) dX6_readAll_68 (fun f23 H locs hM hf25 o24 => ?_)
          have hf25 : f23 (h) = .inr (8, [.ref (h + 1), .ref (h + 2), .int (zI 0), .int (zI (↑cnt1 : Int)), .int (zI (↑a1 : Int)), .int (zI nm1)]) := hf25
          refine lv_iload_n hx hb dX6_readAll_71 rfl (lv_at hl 1 rfl) ?_
          refine g_if_eq (tgt := 79) hx hb dX6_readAll_72 (by decide) (by rcases hinv with q | q <;> rw [q.1] <;> decide) (fun c72 => ?_) (fun c72 => ?_)
          · skip
            refine lv_aload_n hx hb dX6_readAll_79 rfl (lv_at hl 0 rfl) ?_
            refine g_get (ci := 8) (v := .int (zI (↑a1 : Int))) (C := RX6) (T := TX6) (N := 6) hx hb hts iU_X6 hown hK hM ⟨by omega, by omega⟩ hf25 rfl 4 (by decide) (hts _ u_259) (fun _ h9 => h9) rfl dX6_readAll_80 ?_
            have hf26 := ho21.kept (o24 (h + 1) (by omega))
            have hf27 := ho22.kept (o24 (h + 2) (by omega))
            refine g_iret hx hb hr hlk hK hM dX6_readAll_83 ?_
            rcases hinv with hA | hA
            · exfalso; rw [hA.1] at c72; exact absurd c72 (by decide)
            · exact ⟨N, (↑a1 : Int), C1, nm1, _, _, ⟨hA.2.1, Or.inr ⟨hA.2.2.1, by rw [hA.2.2.2]⟩⟩, rfl, ⟨hf25, hf26, hf27⟩, fun hz => by omega, (fun q hq => ((o24 (q) (by omega)).trans (hfr (q) (by omega))))⟩
          · skip
            refine g_iconst hx hb dX6_readAll_75 ?_
            refine lv_goto (tgt := 83) hx hb dX6_readAll_76 (by decide) ?_
            have hf28 := ho21.kept (o24 (h + 1) (by omega))
            have hf29 := ho22.kept (o24 (h + 2) (by omega))
            refine g_iret hx hb hr hlk hK hM dX6_readAll_83 ?_
            exfalso
            rcases hinv with hA | hA
            · have hpp := chn_pos hL hA.2.2.1
              have hci := (chn_in hL hA.2.2.1).2 hA.2.2.2.1
              omega
            · exact c72 hA.1
        · skip
          refine lv_iload_n hx hb dX6_readAll_23 rfl (lv_at hl 1 rfl) ?_
          refine g_if_eq (tgt := 66) hx hb dX6_readAll_24 (by decide) (by rcases hinv with q | q <;> rw [q.1] <;> decide) (fun c24 => ?_) (fun c24 => ?_)
          · skip
            refine lv_aload_n hx hb dX6_readAll_66 rfl (lv_at hl 0 rfl) ?_
            refine g_iconst hx hb dX6_readAll_67 ?_
            obtain ⟨ho30, ho31, ho32⟩ := id hL1
            refine g_put (ci := 8) (v := .int (zI 0)) (ty := .int) (C := RX6) (T := TX6) (N := 6) hx hb hts iU_X6 tyX6 tyX6_ok nmX6 hown hK hM ⟨by omega, by omega⟩ ho30 rfl 2 (by decide) (hts _ u_255) (fun _ h9 => h9) rfl (by decide +kernel) rfl rfl (Nat.le_of_ble_eq_true rfl) dX6_readAll_68 (fun f33 H locs hM hf35 o34 => ?_)
            have hf35 : f33 (h) = .inr (8, [.ref (h + 1), .ref (h + 2), .int (zI 0), .int (zI (↑cnt1 : Int)), .int (zI (↑a1 : Int)), .int (zI nm1)]) := hf35
            refine lv_iload_n hx hb dX6_readAll_71 rfl (lv_at hl 1 rfl) ?_
            refine g_if_eq (tgt := 79) hx hb dX6_readAll_72 (by decide) (by rcases hinv with q | q <;> rw [q.1] <;> decide) (fun c72 => ?_) (fun c72 => ?_)
            · skip
              refine lv_aload_n hx hb dX6_readAll_79 rfl (lv_at hl 0 rfl) ?_
              refine g_get (ci := 8) (v := .int (zI (↑a1 : Int))) (C := RX6) (T := TX6) (N := 6) hx hb hts iU_X6 hown hK hM ⟨by omega, by omega⟩ hf35 rfl 4 (by decide) (hts _ u_259) (fun _ h9 => h9) rfl dX6_readAll_80 ?_
              have hf36 := ho31.kept (o34 (h + 1) (by omega))
              have hf37 := ho32.kept (o34 (h + 2) (by omega))
              refine g_iret hx hb hr hlk hK hM dX6_readAll_83 ?_
              rcases hinv with hA | hA
              · exfalso; rw [hA.1] at c72; exact absurd c72 (by decide)
              · exact ⟨N, (↑a1 : Int), C1, nm1, _, _, ⟨hA.2.1, Or.inr ⟨hA.2.2.1, by rw [hA.2.2.2]⟩⟩, rfl, ⟨hf35, hf36, hf37⟩, fun hz => by omega, (fun q hq => ((o34 (q) (by omega)).trans (hfr (q) (by omega))))⟩
            · skip
              refine g_iconst hx hb dX6_readAll_75 ?_
              refine lv_goto (tgt := 83) hx hb dX6_readAll_76 (by decide) ?_
              have hf38 := ho31.kept (o34 (h + 1) (by omega))
              have hf39 := ho32.kept (o34 (h + 2) (by omega))
              refine g_iret hx hb hr hlk hK hM dX6_readAll_83 ?_
              exact absurd c24 c72
          · skip
            have hcz : cnt1 = N + 1 := by rcases hinv with hA | hA; exact hA.2.2.2.2.2.1; exact absurd hA.1 c24
            subst hcz
            have hA : gd = 1 ∧ i = N ∧ chn T L N ∧ (cq T L N).1 = true ∧ (cq T L N).2.1 = a1 := by rcases hinv with hA | hA; exact ⟨hA.1, hA.2.1, hA.2.2.1, hA.2.2.2.1, hA.2.2.2.2.1⟩; exact absurd hA.1 c24
            have hAm : cmOk C1 T L (N + 1) := by rcases hinv with hA | hA; exact hA.2.2.2.2.2.2; exact absurd hA.1 c24
            refine lv_aload_n hx hb dX6_readAll_27 rfl (lv_at hl 0 rfl) ?_
            obtain ⟨ho40, ho41, ho42⟩ := id hL1
            refine g_get (ci := 8) (v := .int (zI (↑a1 : Int))) (C := RX6) (T := TX6) (N := 6) hx hb hts iU_X6 hown hK hM ⟨by omega, by omega⟩ ho40 rfl 4 (by decide) (hts _ u_259) (fun _ h9 => h9) rfl dX6_readAll_28 ?_
            refine lv_aload_n hx hb dX6_readAll_31 rfl (lv_at hl 0 rfl) ?_
            refine g_get (ci := 8) (v := .int (zI (↑L : Int))) (C := RX6) (T := TX6) (N := 6) hx hb hts iU_X6 hown hK hM ⟨by omega, by omega⟩ ho40 rfl 2 (by decide) (hts _ u_255) (fun _ h9 => h9) rfl dX6_readAll_32 ?_
            refine g_icmp_ge (tgt := 66) hx hb dX6_readAll_35 (by decide) ⟨by omega, by omega⟩ ⟨by omega, by omega⟩ (fun c35 => ?_) (fun c35 => ?_)
            · skip
              refine lv_aload_n hx hb dX6_readAll_66 rfl (lv_at hl 0 rfl) ?_
              refine g_iconst hx hb dX6_readAll_67 ?_
              refine g_put (ci := 8) (v := .int (zI 0)) (ty := .int) (C := RX6) (T := TX6) (N := 6) hx hb hts iU_X6 tyX6 tyX6_ok nmX6 hown hK hM ⟨by omega, by omega⟩ ho40 rfl 2 (by decide) (hts _ u_255) (fun _ h9 => h9) rfl (by decide +kernel) rfl rfl (Nat.le_of_ble_eq_true rfl) dX6_readAll_68 (fun f43 H locs hM hf45 o44 => ?_)
              have hf45 : f43 (h) = .inr (8, [.ref (h + 1), .ref (h + 2), .int (zI 0), .int (zI (↑(N + 1) : Int)), .int (zI (↑a1 : Int)), .int (zI nm1)]) := hf45
              refine lv_iload_n hx hb dX6_readAll_71 rfl (lv_at hl 1 rfl) ?_
              refine g_if_eq (tgt := 79) hx hb dX6_readAll_72 (by decide) (by rcases hinv with q | q <;> rw [q.1] <;> decide) (fun c72 => ?_) (fun c72 => ?_)
              · skip
                refine lv_aload_n hx hb dX6_readAll_79 rfl (lv_at hl 0 rfl) ?_
                refine g_get (ci := 8) (v := .int (zI (↑a1 : Int))) (C := RX6) (T := TX6) (N := 6) hx hb hts iU_X6 hown hK hM ⟨by omega, by omega⟩ hf45 rfl 4 (by decide) (hts _ u_259) (fun _ h9 => h9) rfl dX6_readAll_80 ?_
                have hf46 := ho41.kept (o44 (h + 1) (by omega))
                have hf47 := ho42.kept (o44 (h + 2) (by omega))
                refine g_iret hx hb hr hlk hK hM dX6_readAll_83 ?_
                exfalso
                rw [hA.1] at c72
                exact absurd c72 (by decide)
              · skip
                refine g_iconst hx hb dX6_readAll_75 ?_
                refine lv_goto (tgt := 83) hx hb dX6_readAll_76 (by decide) ?_
                have hf48 := ho41.kept (o44 (h + 1) (by omega))
                have hf49 := ho42.kept (o44 (h + 2) (by omega))
                refine g_iret hx hb hr hlk hK hM dX6_readAll_83 ?_
                have hpp := chn_pos hL hA.2.2.1
                have hci := (chn_in hL hA.2.2.1).2 hA.2.2.2.1
                exact ⟨N, -1, C1, nm1, _, _, ⟨hA.2.2.1, Or.inl ⟨hA.2.2.2.1, by omega, rfl⟩⟩, rfl, ⟨hf45, hf48, hf49⟩, fun _ => ⟨rfl, hAm⟩, (fun q hq => ((o44 (q) (by omega)).trans (hfr (q) (by omega))))⟩
            · skip
              refine lv_aload_n hx hb dX6_readAll_38 rfl (lv_at hl 0 rfl) ?_
              refine g_bipush hx hb dX6_readAll_39 (by decide) ?_
              have hw50 : rdAt g fL h T C1 (↑L : Int) (↑(N + 1) : Int) (↑a1 : Int) nm1 := ⟨ho40, ho41, ho42⟩
              have hC51 := c_X6_accept l g b0 n fL h T C1 L (N + 1) a1 nm1 59 hw50 hrg hT hL (by omega) (by decide) (by decide)
              refine g_callVi (ci := 8) (C := RX6) (T := TX6) (N := 6) (As := [.int (zI 59)]) (rest := []) ⟨hx, hb, hml, hown, hts⟩ hK hM hC51 (cuV (n := 1) hts u_346 u_343 u_9 (by decide) u_345 us_7 ⟨Nat.le_of_ble_eq_true rfl, Nat.le_of_ble_eq_true rfl⟩) ⟨by omega, by omega⟩ ho40 rfl rfl hl.1 rfl (Nat.le_of_ble_eq_true rfl) dX6_readAll_41 ⟨Nat.zero_le _, Nat.zero_le _⟩ (fun r41 f52 H locs hM hp53 => ?_)
              rcases hp53 with ⟨hq56, rfl, hn54, o55⟩ | ⟨hq56, rfl, rfl⟩
              · skip
                have hlthq56 : a1 < L := nx_lt (T := T) (L := L) (a := a1) (by omega)
                have hw57 : rdAt g f52 h T C1 (↑L : Int) (↑(N + 1) : Int) (↑(a1 + 1) : Int) nm1 := by rw [Int.natCast_add]; exact hn54
                refine g_if_eq (tgt := 58) hx hb dX6_readAll_44 (by decide) (by decide) (fun c44 => ?_) (fun c44 => ?_)
                · exact absurd c44 (by decide)
                · skip
                  have hch9 : chn T L (N + 1) := chn_up hA.2.2.1 hA.2.2.2.1 (by rw [hA.2.2.2.2]; assumption)
                  have hps9 : sPos T L (N + 1) = a1 + 1 := by show (cq T L N).2.1 + 1 = a1 + 1; rw [hA.2.2.2.2]
                  have hpp9 := chn_pos hL hch9
                  have hcn9 : a1 + 1 < L → N + 1 < 30 := fun _ => by omega
                  refine lv_aload_n hx hb dX6_readAll_47 rfl (lv_at hl 0 rfl) ?_
                  obtain ⟨ho58, ho59, ho60⟩ := id hw57
                  have hw61 : rdAt g f52 h T C1 (↑L : Int) (↑(N + 1) : Int) (↑(a1 + 1) : Int) nm1 := ⟨ho58, ho59, ho60⟩
                  have hC62 := c_X6_readCommand l g b0 n f52 h T C1 L (N + 1) (a1 + 1) nm1 hw61 hrg hT hL (by omega) hcn9
                  refine g_callVi (ci := 8) (C := RX6) (T := TX6) (N := 6) (As := []) (rest := []) ⟨hx, hb, hml, hown, hts⟩ hK hM hC62 (cuV (n := 0) hts u_318 u_315 u_9 (by decide) u_317 us_0 ⟨Nat.le_of_ble_eq_true rfl, Nat.le_of_ble_eq_true rfl⟩) ⟨by omega, by omega⟩ ho58 rfl rfl hl.1 rfl (Nat.le_of_ble_eq_true rfl) dX6_readAll_48 ⟨Nat.zero_le _, Nat.zero_le _⟩ (fun r48 f63 H locs hM hp64 => ?_)
                  have hp64 := res_alt hp64
                  rcases hp64 with ⟨hq67, rfl, ⟨nm68, hn65⟩, o66⟩ | ⟨hq67, rfl, ⟨nm68, hn65⟩, o66⟩
                  · skip
                    have hq8 : sCmd T L (a1 + 1) = cq T L (N + 1) := by unfold cq; rw [hps9]
                    rw [hq8] at hn65 hq67
                    have hcm9 := cmOk_up (N := N + 1) hAm
                    refine g_if_eq (tgt := 58) hx hb dX6_readAll_51 (by decide) (by decide) (fun c51 => ?_) (fun c51 => ?_)
                    · exact absurd c51 (by decide)
                    · skip
                      refine g_iconst hx hb dX6_readAll_54 ?_
                      refine lv_goto (tgt := 59) hx hb dX6_readAll_55 (by decide) ?_
                      refine lv_istore_n (lv' := [(1, .int (zI 1)), (0, .ref h), (2, .int (zI (↑i : Int)))]) hx hb dX6_readAll_59 rfl hl (by decide) rfl (fun ls hl => ?_)
                      refine lv_iinc (v := zI ((↑i : Int) + 1)) (lv' := [(2, .int (zI ((↑i : Int) + 1))), (1, .int (zI 1)), (0, .ref h)]) hx hb dX6_readAll_60 hl (k := 2) rfl (zI_add _ _) (by decide) rfl (fun ls hl => ?_)
                      refine lv_goto (tgt := 17) hx hb dX6_readAll_63 (by decide) ?_
                      obtain ⟨ho69, ho70, ho71⟩ := id hn65
                      have hw72 : rdAt g f63 h T (kp C1 (N + 1) (cq T L (N + 1)).2.2.1 (cq T L (N + 1)).2.2.2.1 (cq T L (N + 1)).2.2.2.2.1 (cq T L (N + 1)).2.2.2.2.2) (↑L : Int) (↑((N + 1) + 1) : Int) (↑((cq T L (N + 1)).2.1) : Int) nm68 := ⟨ho69, ho70, ho71⟩
                      exact ih17 (i + 1) (N + 1) 1 _ _ _ _ f63 _ _ _ (by omega) (by omega) (chn_in hL hch9).1.2.1 (Or.inl ⟨rfl, by omega, hch9, hq67, rfl, rfl, hcm9⟩) (fun q hq => ((o66 (q) (by omega)).trans ((o55 (q) (by omega)).trans (hfr (q) (by omega))))) hM hw72 (lv_sub hl [2, 1, 0] rfl)
                  · skip
                    have hq8 : sCmd T L (a1 + 1) = cq T L (N + 1) := by unfold cq; rw [hps9]
                    rw [hq8] at hn65 hq67
                    have hcm9 := cmOk_up (N := N + 1) hAm
                    refine g_if_eq (tgt := 58) hx hb dX6_readAll_51 (by decide) (by decide) (fun c51 => ?_) (fun c51 => ?_)
                    · skip
                      refine g_iconst hx hb dX6_readAll_58 ?_
                      refine lv_istore_n (lv' := [(1, .int (zI 0)), (0, .ref h), (2, .int (zI (↑i : Int)))]) hx hb dX6_readAll_59 rfl hl (by decide) rfl (fun ls hl => ?_)
                      refine lv_iinc (v := zI ((↑i : Int) + 1)) (lv' := [(2, .int (zI ((↑i : Int) + 1))), (1, .int (zI 0)), (0, .ref h)]) hx hb dX6_readAll_60 hl (k := 2) rfl (zI_add _ _) (by decide) rfl (fun ls hl => ?_)
                      refine lv_goto (tgt := 17) hx hb dX6_readAll_63 (by decide) ?_
                      obtain ⟨ho73, ho74, ho75⟩ := id hn65
                      have hw76 : rdAt g f63 h T C1 (↑L : Int) (↑(N + 1) : Int) (↑((cq T L (N + 1)).2.1) : Int) nm68 := ⟨ho73, ho74, ho75⟩
                      exact ih17 (i + 1) (N + 1) 0 _ _ _ _ f63 _ _ _ (by omega) (by omega) (chn_in hL hch9).1.2.1 (Or.inr ⟨rfl, hch9, Or.inl hq67, rfl⟩) (fun q hq => ((o66 (q) (by omega)).trans ((o55 (q) (by omega)).trans (hfr (q) (by omega))))) hM hw76 (lv_sub hl [2, 1, 0] rfl)
                    · exact absurd c51 (by decide)
              · skip
                refine g_if_eq (tgt := 58) hx hb dX6_readAll_44 (by decide) (by decide) (fun c44 => ?_) (fun c44 => ?_)
                · skip
                  refine g_iconst hx hb dX6_readAll_58 ?_
                  refine lv_istore_n (lv' := [(1, .int (zI 0)), (0, .ref h), (2, .int (zI (↑i : Int)))]) hx hb dX6_readAll_59 rfl hl (by decide) rfl (fun ls hl => ?_)
                  refine lv_iinc (v := zI ((↑i : Int) + 1)) (lv' := [(2, .int (zI ((↑i : Int) + 1))), (1, .int (zI 0)), (0, .ref h)]) hx hb dX6_readAll_60 hl (k := 2) rfl (zI_add _ _) (by decide) rfl (fun ls hl => ?_)
                  refine lv_goto (tgt := 17) hx hb dX6_readAll_63 (by decide) ?_
                  obtain ⟨ho77, ho78, ho79⟩ := id hw50
                  have hw80 : rdAt g fL h T C1 (↑L : Int) (↑(N + 1) : Int) (↑a1 : Int) nm1 := ⟨ho77, ho78, ho79⟩
                  exact ih17 (i + 1) N 0 _ _ _ _ fL _ _ _ (by omega) (by omega) ha1 (Or.inr ⟨rfl, hA.2.2.1, Or.inr ⟨by omega, by rw [hA.2.2.2.2]; assumption⟩, hA.2.2.2.2⟩) (fun q hq => (hfr (q) (by omega))) hM hw80 (lv_sub hl [2, 1, 0] rfl)
                · exact absurd c44 (by decide)
    obtain ⟨ho81, ho82, ho83⟩ := id hn16
    have hw84 : rdAt g f14 h T (kp C 0 (sCmd T L 0).2.2.1 (sCmd T L 0).2.2.2.1 (sCmd T L 0).2.2.2.2.1 (sCmd T L 0).2.2.2.2.2) (↑L : Int) (↑(0 + 1) : Int) (↑((sCmd T L 0).2.1) : Int) nm19 := ⟨ho81, ho82, ho83⟩
    exact lp17 (62) 0 0 1 _ _ _ _ f14 _ _ _ (by omega) (by omega) (sCmd_in (T := T) (a := 0) hL (Nat.zero_le _)).1.2.1 (Or.inl ⟨rfl, rfl, fun j hj => absurd hj (Nat.not_lt_zero _), hq18, rfl, rfl, cmOk_up (N := 0) (fun j hj => absurd hj (Nat.not_lt_zero _))⟩) (fun q hq => ((o17 (q) (by omega)).trans ((o8 (q) (by omega)).trans (o5 (q) (by omega))))) hM hw84 (lv_sub hl [2, 1, 0] rfl)
  · skip
    refine lv_istore_n (lv' := [(1, .int (zI 0)), (0, .ref h)]) hx hb dX6_readAll_14 rfl hl (by decide) rfl (fun ls hl => ?_)
    refine g_iconst hx hb dX6_readAll_15 ?_
    refine lv_istore_n (lv' := [(2, .int (zI 0)), (1, .int (zI 0)), (0, .ref h)]) hx hb dX6_readAll_16 rfl hl (by decide) rfl (fun ls hl => ?_)
    have lp17 : ∀ (k : Nat), ∀ (i : Nat) (N : Nat) (gd : Int) (cnt1 : Nat) (a1 : Nat) (nm1 : Int) (C1 : Nat → Int) (fL : gF) (H : Heap) (locs : List Loc) (ls : Array Slot), (61 - i < k) → (i ≤ 60) → (a1 ≤ L) → ((gd = 1 ∧ i = N ∧ chn T L N ∧ (cq T L N).1 = true ∧ (cq T L N).2.1 = a1 ∧ cnt1 = N + 1 ∧ cmOk C1 T L (N + 1)) ∨ (gd = 0 ∧ chn T L N ∧ ((cq T L N).1 = false ∨ ((cq T L N).2.1 < L ∧ nx T L (cq T L N).2.1 ≠ 59)) ∧ (cq T L N).2.1 = a1)) → (∀ q, (q < h ∨ h + 3 ≤ q) → fL q = f q) → gH g b0 n fL s.heap H locs → (rdAt g fL h T C1 (↑L : Int) (↑cnt1 : Int) (↑a1 : Int) nm1) → lv_has ls 3 [(0, .ref h), (1, .int (zI gd)), (2, .int (zI (↑i : Int)))] → W p l e0 { frames := 5, cells := 0, slots := 0, locals := 104 } s m args below meth c H locs 0 0 (MQ below (va_Qi (po_X6_readAll g f h T C L cnt a nm) (gB g b0 n) (gA b0)) args s 0 0 (gA b0)) (F0 m 17 ls []) := by
      intro k
      induction k with
      | zero =>
        intro i N gd cnt1 a1 nm1 C1 fL H locs ls hk hi ha1 hinv hfr hM hL1 hl
        exact absurd hk (Nat.not_lt_zero _)
      | succ k ih17 =>
        intro i N gd cnt1 a1 nm1 C1 fL H locs ls hk hi ha1 hinv hfr hM hL1 hl
        refine lv_iload_n hx hb dX6_readAll_17 rfl (lv_at hl 2 rfl) ?_
        refine g_bipush hx hb dX6_readAll_18 (by decide) ?_
        refine g_icmp_ge (tgt := 66) hx hb dX6_readAll_20 (by decide) ⟨by omega, by omega⟩ (by decide) (fun c20 => ?_) (fun c20 => ?_)
        · skip
          refine lv_aload_n hx hb dX6_readAll_66 rfl (lv_at hl 0 rfl) ?_
          refine g_iconst hx hb dX6_readAll_67 ?_
          obtain ⟨ho85, ho86, ho87⟩ := id hL1
          refine g_put (ci := 8) (v := .int (zI 0)) (ty := .int) (C := RX6) (T := TX6) (N := 6) hx hb hts iU_X6 tyX6 tyX6_ok nmX6 hown hK hM ⟨by omega, by omega⟩ ho85 rfl 2 (by decide) (hts _ u_255) (fun _ h9 => h9) rfl (by decide +kernel) rfl rfl (Nat.le_of_ble_eq_true rfl) dX6_readAll_68 (fun f88 H locs hM hf90 o89 => ?_)
          have hf90 : f88 (h) = .inr (8, [.ref (h + 1), .ref (h + 2), .int (zI 0), .int (zI (↑cnt1 : Int)), .int (zI (↑a1 : Int)), .int (zI nm1)]) := hf90
          refine lv_iload_n hx hb dX6_readAll_71 rfl (lv_at hl 1 rfl) ?_
          refine g_if_eq (tgt := 79) hx hb dX6_readAll_72 (by decide) (by rcases hinv with q | q <;> rw [q.1] <;> decide) (fun c72 => ?_) (fun c72 => ?_)
          · skip
            refine lv_aload_n hx hb dX6_readAll_79 rfl (lv_at hl 0 rfl) ?_
            refine g_get (ci := 8) (v := .int (zI (↑a1 : Int))) (C := RX6) (T := TX6) (N := 6) hx hb hts iU_X6 hown hK hM ⟨by omega, by omega⟩ hf90 rfl 4 (by decide) (hts _ u_259) (fun _ h9 => h9) rfl dX6_readAll_80 ?_
            have hf91 := ho86.kept (o89 (h + 1) (by omega))
            have hf92 := ho87.kept (o89 (h + 2) (by omega))
            refine g_iret hx hb hr hlk hK hM dX6_readAll_83 ?_
            rcases hinv with hA | hA
            · exfalso; rw [hA.1] at c72; exact absurd c72 (by decide)
            · exact ⟨N, (↑a1 : Int), C1, nm1, _, _, ⟨hA.2.1, Or.inr ⟨hA.2.2.1, by rw [hA.2.2.2]⟩⟩, rfl, ⟨hf90, hf91, hf92⟩, fun hz => by omega, (fun q hq => ((o89 (q) (by omega)).trans (hfr (q) (by omega))))⟩
          · skip
            refine g_iconst hx hb dX6_readAll_75 ?_
            refine lv_goto (tgt := 83) hx hb dX6_readAll_76 (by decide) ?_
            have hf93 := ho86.kept (o89 (h + 1) (by omega))
            have hf94 := ho87.kept (o89 (h + 2) (by omega))
            refine g_iret hx hb hr hlk hK hM dX6_readAll_83 ?_
            exfalso
            rcases hinv with hA | hA
            · have hpp := chn_pos hL hA.2.2.1
              have hci := (chn_in hL hA.2.2.1).2 hA.2.2.2.1
              omega
            · exact c72 hA.1
        · skip
          refine lv_iload_n hx hb dX6_readAll_23 rfl (lv_at hl 1 rfl) ?_
          refine g_if_eq (tgt := 66) hx hb dX6_readAll_24 (by decide) (by rcases hinv with q | q <;> rw [q.1] <;> decide) (fun c24 => ?_) (fun c24 => ?_)
          · skip
            refine lv_aload_n hx hb dX6_readAll_66 rfl (lv_at hl 0 rfl) ?_
            refine g_iconst hx hb dX6_readAll_67 ?_
            obtain ⟨ho95, ho96, ho97⟩ := id hL1
            refine g_put (ci := 8) (v := .int (zI 0)) (ty := .int) (C := RX6) (T := TX6) (N := 6) hx hb hts iU_X6 tyX6 tyX6_ok nmX6 hown hK hM ⟨by omega, by omega⟩ ho95 rfl 2 (by decide) (hts _ u_255) (fun _ h9 => h9) rfl (by decide +kernel) rfl rfl (Nat.le_of_ble_eq_true rfl) dX6_readAll_68 (fun f98 H locs hM hf100 o99 => ?_)
            have hf100 : f98 (h) = .inr (8, [.ref (h + 1), .ref (h + 2), .int (zI 0), .int (zI (↑cnt1 : Int)), .int (zI (↑a1 : Int)), .int (zI nm1)]) := hf100
            refine lv_iload_n hx hb dX6_readAll_71 rfl (lv_at hl 1 rfl) ?_
            refine g_if_eq (tgt := 79) hx hb dX6_readAll_72 (by decide) (by rcases hinv with q | q <;> rw [q.1] <;> decide) (fun c72 => ?_) (fun c72 => ?_)
            · skip
              refine lv_aload_n hx hb dX6_readAll_79 rfl (lv_at hl 0 rfl) ?_
              refine g_get (ci := 8) (v := .int (zI (↑a1 : Int))) (C := RX6) (T := TX6) (N := 6) hx hb hts iU_X6 hown hK hM ⟨by omega, by omega⟩ hf100 rfl 4 (by decide) (hts _ u_259) (fun _ h9 => h9) rfl dX6_readAll_80 ?_
              have hf101 := ho96.kept (o99 (h + 1) (by omega))
              have hf102 := ho97.kept (o99 (h + 2) (by omega))
              refine g_iret hx hb hr hlk hK hM dX6_readAll_83 ?_
              rcases hinv with hA | hA
              · exfalso; rw [hA.1] at c72; exact absurd c72 (by decide)
              · exact ⟨N, (↑a1 : Int), C1, nm1, _, _, ⟨hA.2.1, Or.inr ⟨hA.2.2.1, by rw [hA.2.2.2]⟩⟩, rfl, ⟨hf100, hf101, hf102⟩, fun hz => by omega, (fun q hq => ((o99 (q) (by omega)).trans (hfr (q) (by omega))))⟩
            · skip
              refine g_iconst hx hb dX6_readAll_75 ?_
              refine lv_goto (tgt := 83) hx hb dX6_readAll_76 (by decide) ?_
              have hf103 := ho96.kept (o99 (h + 1) (by omega))
              have hf104 := ho97.kept (o99 (h + 2) (by omega))
              refine g_iret hx hb hr hlk hK hM dX6_readAll_83 ?_
              exact absurd c24 c72
          · skip
            have hcz : cnt1 = N + 1 := by rcases hinv with hA | hA; exact hA.2.2.2.2.2.1; exact absurd hA.1 c24
            subst hcz
            have hA : gd = 1 ∧ i = N ∧ chn T L N ∧ (cq T L N).1 = true ∧ (cq T L N).2.1 = a1 := by rcases hinv with hA | hA; exact ⟨hA.1, hA.2.1, hA.2.2.1, hA.2.2.2.1, hA.2.2.2.2.1⟩; exact absurd hA.1 c24
            have hAm : cmOk C1 T L (N + 1) := by rcases hinv with hA | hA; exact hA.2.2.2.2.2.2; exact absurd hA.1 c24
            refine lv_aload_n hx hb dX6_readAll_27 rfl (lv_at hl 0 rfl) ?_
            obtain ⟨ho105, ho106, ho107⟩ := id hL1
            refine g_get (ci := 8) (v := .int (zI (↑a1 : Int))) (C := RX6) (T := TX6) (N := 6) hx hb hts iU_X6 hown hK hM ⟨by omega, by omega⟩ ho105 rfl 4 (by decide) (hts _ u_259) (fun _ h9 => h9) rfl dX6_readAll_28 ?_
            refine lv_aload_n hx hb dX6_readAll_31 rfl (lv_at hl 0 rfl) ?_
            refine g_get (ci := 8) (v := .int (zI (↑L : Int))) (C := RX6) (T := TX6) (N := 6) hx hb hts iU_X6 hown hK hM ⟨by omega, by omega⟩ ho105 rfl 2 (by decide) (hts _ u_255) (fun _ h9 => h9) rfl dX6_readAll_32 ?_
            refine g_icmp_ge (tgt := 66) hx hb dX6_readAll_35 (by decide) ⟨by omega, by omega⟩ ⟨by omega, by omega⟩ (fun c35 => ?_) (fun c35 => ?_)
            · skip
              refine lv_aload_n hx hb dX6_readAll_66 rfl (lv_at hl 0 rfl) ?_
              refine g_iconst hx hb dX6_readAll_67 ?_
              refine g_put (ci := 8) (v := .int (zI 0)) (ty := .int) (C := RX6) (T := TX6) (N := 6) hx hb hts iU_X6 tyX6 tyX6_ok nmX6 hown hK hM ⟨by omega, by omega⟩ ho105 rfl 2 (by decide) (hts _ u_255) (fun _ h9 => h9) rfl (by decide +kernel) rfl rfl (Nat.le_of_ble_eq_true rfl) dX6_readAll_68 (fun f108 H locs hM hf110 o109 => ?_)
              have hf110 : f108 (h) = .inr (8, [.ref (h + 1), .ref (h + 2), .int (zI 0), .int (zI (↑(N + 1) : Int)), .int (zI (↑a1 : Int)), .int (zI nm1)]) := hf110
              refine lv_iload_n hx hb dX6_readAll_71 rfl (lv_at hl 1 rfl) ?_
              refine g_if_eq (tgt := 79) hx hb dX6_readAll_72 (by decide) (by rcases hinv with q | q <;> rw [q.1] <;> decide) (fun c72 => ?_) (fun c72 => ?_)
              · skip
                refine lv_aload_n hx hb dX6_readAll_79 rfl (lv_at hl 0 rfl) ?_
                refine g_get (ci := 8) (v := .int (zI (↑a1 : Int))) (C := RX6) (T := TX6) (N := 6) hx hb hts iU_X6 hown hK hM ⟨by omega, by omega⟩ hf110 rfl 4 (by decide) (hts _ u_259) (fun _ h9 => h9) rfl dX6_readAll_80 ?_
                have hf111 := ho106.kept (o109 (h + 1) (by omega))
                have hf112 := ho107.kept (o109 (h + 2) (by omega))
                refine g_iret hx hb hr hlk hK hM dX6_readAll_83 ?_
                exfalso
                rw [hA.1] at c72
                exact absurd c72 (by decide)
              · skip
                refine g_iconst hx hb dX6_readAll_75 ?_
                refine lv_goto (tgt := 83) hx hb dX6_readAll_76 (by decide) ?_
                have hf113 := ho106.kept (o109 (h + 1) (by omega))
                have hf114 := ho107.kept (o109 (h + 2) (by omega))
                refine g_iret hx hb hr hlk hK hM dX6_readAll_83 ?_
                have hpp := chn_pos hL hA.2.2.1
                have hci := (chn_in hL hA.2.2.1).2 hA.2.2.2.1
                exact ⟨N, -1, C1, nm1, _, _, ⟨hA.2.2.1, Or.inl ⟨hA.2.2.2.1, by omega, rfl⟩⟩, rfl, ⟨hf110, hf113, hf114⟩, fun _ => ⟨rfl, hAm⟩, (fun q hq => ((o109 (q) (by omega)).trans (hfr (q) (by omega))))⟩
            · skip
              refine lv_aload_n hx hb dX6_readAll_38 rfl (lv_at hl 0 rfl) ?_
              refine g_bipush hx hb dX6_readAll_39 (by decide) ?_
              have hw115 : rdAt g fL h T C1 (↑L : Int) (↑(N + 1) : Int) (↑a1 : Int) nm1 := ⟨ho105, ho106, ho107⟩
              have hC116 := c_X6_accept l g b0 n fL h T C1 L (N + 1) a1 nm1 59 hw115 hrg hT hL (by omega) (by decide) (by decide)
              refine g_callVi (ci := 8) (C := RX6) (T := TX6) (N := 6) (As := [.int (zI 59)]) (rest := []) ⟨hx, hb, hml, hown, hts⟩ hK hM hC116 (cuV (n := 1) hts u_346 u_343 u_9 (by decide) u_345 us_7 ⟨Nat.le_of_ble_eq_true rfl, Nat.le_of_ble_eq_true rfl⟩) ⟨by omega, by omega⟩ ho105 rfl rfl hl.1 rfl (Nat.le_of_ble_eq_true rfl) dX6_readAll_41 ⟨Nat.zero_le _, Nat.zero_le _⟩ (fun r41 f117 H locs hM hp118 => ?_)
              rcases hp118 with ⟨hq121, rfl, hn119, o120⟩ | ⟨hq121, rfl, rfl⟩
              · skip
                have hlthq121 : a1 < L := nx_lt (T := T) (L := L) (a := a1) (by omega)
                have hw122 : rdAt g f117 h T C1 (↑L : Int) (↑(N + 1) : Int) (↑(a1 + 1) : Int) nm1 := by rw [Int.natCast_add]; exact hn119
                refine g_if_eq (tgt := 58) hx hb dX6_readAll_44 (by decide) (by decide) (fun c44 => ?_) (fun c44 => ?_)
                · exact absurd c44 (by decide)
                · skip
                  have hch9 : chn T L (N + 1) := chn_up hA.2.2.1 hA.2.2.2.1 (by rw [hA.2.2.2.2]; assumption)
                  have hps9 : sPos T L (N + 1) = a1 + 1 := by show (cq T L N).2.1 + 1 = a1 + 1; rw [hA.2.2.2.2]
                  have hpp9 := chn_pos hL hch9
                  have hcn9 : a1 + 1 < L → N + 1 < 30 := fun _ => by omega
                  refine lv_aload_n hx hb dX6_readAll_47 rfl (lv_at hl 0 rfl) ?_
                  obtain ⟨ho123, ho124, ho125⟩ := id hw122
                  have hw126 : rdAt g f117 h T C1 (↑L : Int) (↑(N + 1) : Int) (↑(a1 + 1) : Int) nm1 := ⟨ho123, ho124, ho125⟩
                  have hC127 := c_X6_readCommand l g b0 n f117 h T C1 L (N + 1) (a1 + 1) nm1 hw126 hrg hT hL (by omega) hcn9
                  refine g_callVi (ci := 8) (C := RX6) (T := TX6) (N := 6) (As := []) (rest := []) ⟨hx, hb, hml, hown, hts⟩ hK hM hC127 (cuV (n := 0) hts u_318 u_315 u_9 (by decide) u_317 us_0 ⟨Nat.le_of_ble_eq_true rfl, Nat.le_of_ble_eq_true rfl⟩) ⟨by omega, by omega⟩ ho123 rfl rfl hl.1 rfl (Nat.le_of_ble_eq_true rfl) dX6_readAll_48 ⟨Nat.zero_le _, Nat.zero_le _⟩ (fun r48 f128 H locs hM hp129 => ?_)
                  have hp129 := res_alt hp129
                  rcases hp129 with ⟨hq132, rfl, ⟨nm133, hn130⟩, o131⟩ | ⟨hq132, rfl, ⟨nm133, hn130⟩, o131⟩
                  · skip
                    have hq8 : sCmd T L (a1 + 1) = cq T L (N + 1) := by unfold cq; rw [hps9]
                    rw [hq8] at hn130 hq132
                    have hcm9 := cmOk_up (N := N + 1) hAm
                    refine g_if_eq (tgt := 58) hx hb dX6_readAll_51 (by decide) (by decide) (fun c51 => ?_) (fun c51 => ?_)
                    · exact absurd c51 (by decide)
                    · skip
                      refine g_iconst hx hb dX6_readAll_54 ?_
                      refine lv_goto (tgt := 59) hx hb dX6_readAll_55 (by decide) ?_
                      refine lv_istore_n (lv' := [(1, .int (zI 1)), (0, .ref h), (2, .int (zI (↑i : Int)))]) hx hb dX6_readAll_59 rfl hl (by decide) rfl (fun ls hl => ?_)
                      refine lv_iinc (v := zI ((↑i : Int) + 1)) (lv' := [(2, .int (zI ((↑i : Int) + 1))), (1, .int (zI 1)), (0, .ref h)]) hx hb dX6_readAll_60 hl (k := 2) rfl (zI_add _ _) (by decide) rfl (fun ls hl => ?_)
                      refine lv_goto (tgt := 17) hx hb dX6_readAll_63 (by decide) ?_
                      obtain ⟨ho134, ho135, ho136⟩ := id hn130
                      have hw137 : rdAt g f128 h T (kp C1 (N + 1) (cq T L (N + 1)).2.2.1 (cq T L (N + 1)).2.2.2.1 (cq T L (N + 1)).2.2.2.2.1 (cq T L (N + 1)).2.2.2.2.2) (↑L : Int) (↑((N + 1) + 1) : Int) (↑((cq T L (N + 1)).2.1) : Int) nm133 := ⟨ho134, ho135, ho136⟩
                      exact ih17 (i + 1) (N + 1) 1 _ _ _ _ f128 _ _ _ (by omega) (by omega) (chn_in hL hch9).1.2.1 (Or.inl ⟨rfl, by omega, hch9, hq132, rfl, rfl, hcm9⟩) (fun q hq => ((o131 (q) (by omega)).trans ((o120 (q) (by omega)).trans (hfr (q) (by omega))))) hM hw137 (lv_sub hl [2, 1, 0] rfl)
                  · skip
                    have hq8 : sCmd T L (a1 + 1) = cq T L (N + 1) := by unfold cq; rw [hps9]
                    rw [hq8] at hn130 hq132
                    have hcm9 := cmOk_up (N := N + 1) hAm
                    refine g_if_eq (tgt := 58) hx hb dX6_readAll_51 (by decide) (by decide) (fun c51 => ?_) (fun c51 => ?_)
                    · skip
                      refine g_iconst hx hb dX6_readAll_58 ?_
                      refine lv_istore_n (lv' := [(1, .int (zI 0)), (0, .ref h), (2, .int (zI (↑i : Int)))]) hx hb dX6_readAll_59 rfl hl (by decide) rfl (fun ls hl => ?_)
                      refine lv_iinc (v := zI ((↑i : Int) + 1)) (lv' := [(2, .int (zI ((↑i : Int) + 1))), (1, .int (zI 0)), (0, .ref h)]) hx hb dX6_readAll_60 hl (k := 2) rfl (zI_add _ _) (by decide) rfl (fun ls hl => ?_)
                      refine lv_goto (tgt := 17) hx hb dX6_readAll_63 (by decide) ?_
                      obtain ⟨ho138, ho139, ho140⟩ := id hn130
                      have hw141 : rdAt g f128 h T C1 (↑L : Int) (↑(N + 1) : Int) (↑((cq T L (N + 1)).2.1) : Int) nm133 := ⟨ho138, ho139, ho140⟩
                      exact ih17 (i + 1) (N + 1) 0 _ _ _ _ f128 _ _ _ (by omega) (by omega) (chn_in hL hch9).1.2.1 (Or.inr ⟨rfl, hch9, Or.inl hq132, rfl⟩) (fun q hq => ((o131 (q) (by omega)).trans ((o120 (q) (by omega)).trans (hfr (q) (by omega))))) hM hw141 (lv_sub hl [2, 1, 0] rfl)
                    · exact absurd c51 (by decide)
              · skip
                refine g_if_eq (tgt := 58) hx hb dX6_readAll_44 (by decide) (by decide) (fun c44 => ?_) (fun c44 => ?_)
                · skip
                  refine g_iconst hx hb dX6_readAll_58 ?_
                  refine lv_istore_n (lv' := [(1, .int (zI 0)), (0, .ref h), (2, .int (zI (↑i : Int)))]) hx hb dX6_readAll_59 rfl hl (by decide) rfl (fun ls hl => ?_)
                  refine lv_iinc (v := zI ((↑i : Int) + 1)) (lv' := [(2, .int (zI ((↑i : Int) + 1))), (1, .int (zI 0)), (0, .ref h)]) hx hb dX6_readAll_60 hl (k := 2) rfl (zI_add _ _) (by decide) rfl (fun ls hl => ?_)
                  refine lv_goto (tgt := 17) hx hb dX6_readAll_63 (by decide) ?_
                  obtain ⟨ho142, ho143, ho144⟩ := id hw115
                  have hw145 : rdAt g fL h T C1 (↑L : Int) (↑(N + 1) : Int) (↑a1 : Int) nm1 := ⟨ho142, ho143, ho144⟩
                  exact ih17 (i + 1) N 0 _ _ _ _ fL _ _ _ (by omega) (by omega) ha1 (Or.inr ⟨rfl, hA.2.2.1, Or.inr ⟨by omega, by rw [hA.2.2.2.2]; assumption⟩, hA.2.2.2.2⟩) (fun q hq => (hfr (q) (by omega))) hM hw145 (lv_sub hl [2, 1, 0] rfl)
                · exact absurd c44 (by decide)
    obtain ⟨ho146, ho147, ho148⟩ := id hn16
    have hw149 : rdAt g f14 h T C (↑L : Int) (↑0 : Int) (↑((sCmd T L 0).2.1) : Int) nm19 := ⟨ho146, ho147, ho148⟩
    exact lp17 (62) 0 0 0 _ _ _ _ f14 _ _ _ (by omega) (by omega) (sCmd_in (T := T) (a := 0) hL (Nat.zero_le _)).1.2.1 (Or.inr ⟨rfl, fun j hj => absurd hj (Nat.not_lt_zero _), Or.inl hq18, rfl⟩) (fun q hq => ((o17 (q) (by omega)).trans ((o8 (q) (by omega)).trans (o5 (q) (by omega))))) hM hw149 (lv_sub hl [2, 1, 0] rfl)
