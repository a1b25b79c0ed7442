def po_X5_numberOf (g : gE) (f : gF) (h : Nat) (P : Nat → Int) (w : Nat) : Int64 → gF → Prop := fun r f1 => r = zL (sTt P w) ∧ f = f1
set_option maxRecDepth 100000 in
set_option maxHeartbeats 1000000 in
/-- numberOf(what) -/
theorem c_X5_numberOf (l : Launch) (g : gE) (b0 n : Nat) (f : gF) (h : Nat) (P : Nat → Int) (w : Nat) (hE : planAt g f h P) (hrg : b0 ≤ h ∧ h + 23 ≤ b0 + n) (hcn7 : 0 ≤ P 7 ∧ P 7 ≤ 10) (hcn8 : 0 ≤ P 8 ∧ P 8 ≤ 6) (hcn9 : 0 ≤ P 9 ∧ P 9 ≤ 6) (hcn10 : 0 ≤ P 10 ∧ P 10 ≤ 8) (hw : w < 12) (hr1 : rI (P 1)) (hr4 : rI (P 4)) : cL l yX5_numberOf cX5_numberOf 2 (some .long) 1 23 [.ref h, .int (zI (↑w : Int))] g b0 n f (po_X5_numberOf g f h P w) := by
  refine gs_l (cc := cX5_numberOf) (maxL := 2) (ret := (some .long)) (by decide) (Nat.le_of_ble_eq_true rfl) ?_
  intro p e0 s m args below meth c ls hx hb hr hml hown hts hlk hK hM hl
  have hl : lv_has ls 2 [(0, .ref h), (1, .int (zI (↑w : Int)))] := hl
  refine lv_iload_n hx hb dX5_numberOf_0 rfl (lv_at hl 1 rfl) ?_
  have hz1 := zI_toInt (z := (↑w : Int)) ⟨by omega, by omega⟩
  rcases g_sw (0) (10) (↑w : Int) with c1 | c1
  · refine lv_tableOut (tgt := 132) hx hb dX5_numberOf_1 (by rw [hz1]; exact c1) (by decide) ?_
    refine lv_aload_n hx hb dX5_numberOf_132 rfl (lv_at hl 0 rfl) ?_
    obtain ⟨ho1, ho2, ho3, ho4, ho5⟩ := id hE
    refine g_get (ci := 7) (v := .ref (h + 16)) (C := RX5) (T := TX5) (N := 11) hx hb hts iU_X5 hown hK hM ⟨by omega, by omega⟩ ho1 rfl 3 (by decide) (hts _ u_170) (fun _ h9 => h9) rfl dX5_numberOf_133 ?_
    obtain ⟨ho6, ho7, ho8, ho9, ho10, ho11, ho12⟩ := id ho5
    refine g_getN (ci := 5) (v := .int (zI (P 10))) (C := RX3) (T := TX3) (N := 7) hx hb hts iU_X3 hown hK hM ⟨by omega, by omega⟩ ho6 rfl 6 (by decide) (hts _ u_148) (fun _ h9 => h9) rfl dX5_numberOf_136 ?_
    refine g_i2l hx hb dX5_numberOf_139 ⟨by omega, by omega⟩ ?_
    refine g_lret hx hb hr hlk hK hM dX5_numberOf_140 ?_
    refine ⟨?_, rfl⟩
    have hw9 : w = 0 ∨ w = 1 ∨ w = 2 ∨ w = 3 ∨ w = 4 ∨ w = 5 ∨ w = 6 ∨ w = 7 ∨ w = 8 ∨ w = 9 ∨ w = 10 ∨ w = 11 := by omega
    rcases hw9 with hw9 | hw9 | hw9 | hw9 | hw9 | hw9 | hw9 | hw9 | hw9 | hw9 | hw9 | hw9 <;> first | (exfalso; omega) | (subst hw9; rfl)
  · rcases (show (↑w : Int) = 0 ∨ (↑w : Int) = 1 ∨ (↑w : Int) = 2 ∨ (↑w : Int) = 3 ∨ (↑w : Int) = 4 ∨ (↑w : Int) = 5 ∨ (↑w : Int) = 6 ∨ (↑w : Int) = 7 ∨ (↑w : Int) = 8 ∨ (↑w : Int) = 9 ∨ (↑w : Int) = 10 by omega) with c1 | c1 | c1 | c1 | c1 | c1 | c1 | c1 | c1 | c1 | c1
    · refine lv_tableIn (off := 59) (tgt := 60) hx hb dX5_numberOf_1 (by rw [hz1, c1]; decide) (by rw [hz1, c1]; decide) (by rw [hz1, c1]; decide) (by decide) ?_
      refine lv_aload_n hx hb dX5_numberOf_60 rfl (lv_at hl 0 rfl) ?_
      obtain ⟨ho13, ho14, ho15, ho16, ho17⟩ := id hE
      refine g_get (ci := 7) (v := .long (zL (P 0))) (C := RX5) (T := TX5) (N := 11) hx hb hts iU_X5 hown hK hM ⟨by omega, by omega⟩ ho13 rfl 4 (by decide) (hts _ u_172) (fun _ h9 => h9) rfl dX5_numberOf_61 ?_
      refine g_lret hx hb hr hlk hK hM dX5_numberOf_64 ?_
      refine ⟨?_, rfl⟩
      have hw9 : w = 0 ∨ w = 1 ∨ w = 2 ∨ w = 3 ∨ w = 4 ∨ w = 5 ∨ w = 6 ∨ w = 7 ∨ w = 8 ∨ w = 9 ∨ w = 10 ∨ w = 11 := by omega
      rcases hw9 with hw9 | hw9 | hw9 | hw9 | hw9 | hw9 | hw9 | hw9 | hw9 | hw9 | hw9 | hw9 <;> first | (exfalso; omega) | (subst hw9; rfl)
    · refine lv_tableIn (off := 64) (tgt := 65) hx hb dX5_numberOf_1 (by rw [hz1, c1]; decide) (by rw [hz1, c1]; decide) (by rw [hz1, c1]; decide) (by decide) ?_
      refine lv_aload_n hx hb dX5_numberOf_65 rfl (lv_at hl 0 rfl) ?_
      obtain ⟨ho18, ho19, ho20, ho21, ho22⟩ := id hE
      refine g_get (ci := 7) (v := .ref (h + 1)) (C := RX5) (T := TX5) (N := 11) hx hb hts iU_X5 hown hK hM ⟨by omega, by omega⟩ ho18 rfl 0 (by decide) (hts _ u_164) (fun _ h9 => h9) rfl dX5_numberOf_66 ?_
      have hC23 := c_X2_sum l g b0 n f (h + 1) P ho19 ⟨by omega, by omega⟩ hcn7
      obtain ⟨ho26, ho27, ho28, ho29, ho30⟩ := id ho19
      refine g_callVl (ci := 4) (C := RX2) (T := TX2) (N := 5) (As := []) (rest := []) ⟨hx, hb, hml, hown, hts⟩ hK hM hC23 (cuV (n := 0) hts u_898 u_895 u_5 (by decide) u_896 u_897 ⟨Nat.le_of_ble_eq_true rfl, Nat.le_of_ble_eq_true rfl⟩) ⟨by omega, by omega⟩ ho26 rfl rfl hl.1 rfl (Nat.le_of_ble_eq_true rfl) dX5_numberOf_69 ⟨Nat.zero_le _, Nat.zero_le _⟩ (fun r69 f24 H locs hM hp25 => ?_)
      obtain ⟨rfl, rfl⟩ := hp25
      refine g_lret hx hb hr hlk hK hM dX5_numberOf_72 ?_
      refine ⟨?_, rfl⟩
      have hw9 : w = 0 ∨ w = 1 ∨ w = 2 ∨ w = 3 ∨ w = 4 ∨ w = 5 ∨ w = 6 ∨ w = 7 ∨ w = 8 ∨ w = 9 ∨ w = 10 ∨ w = 11 := by omega
      rcases hw9 with hw9 | hw9 | hw9 | hw9 | hw9 | hw9 | hw9 | hw9 | hw9 | hw9 | hw9 | hw9 <;> first | (exfalso; omega) | (subst hw9; rfl)
    · refine lv_tableIn (off := 72) (tgt := 73) hx hb dX5_numberOf_1 (by rw [hz1, c1]; decide) (by rw [hz1, c1]; decide) (by rw [hz1, c1]; decide) (by decide) ?_
      refine lv_aload_n hx hb dX5_numberOf_73 rfl (lv_at hl 0 rfl) ?_
      obtain ⟨ho31, ho32, ho33, ho34, ho35⟩ := id hE
      refine g_get (ci := 7) (v := .long (zL (P 2))) (C := RX5) (T := TX5) (N := 11) hx hb hts iU_X5 hown hK hM ⟨by omega, by omega⟩ ho31 rfl 6 (by decide) (hts _ u_176) (fun _ h9 => h9) rfl dX5_numberOf_74 ?_
      refine g_lret hx hb hr hlk hK hM dX5_numberOf_77 ?_
      refine ⟨?_, rfl⟩
      have hw9 : w = 0 ∨ w = 1 ∨ w = 2 ∨ w = 3 ∨ w = 4 ∨ w = 5 ∨ w = 6 ∨ w = 7 ∨ w = 8 ∨ w = 9 ∨ w = 10 ∨ w = 11 := by omega
      rcases hw9 with hw9 | hw9 | hw9 | hw9 | hw9 | hw9 | hw9 | hw9 | hw9 | hw9 | hw9 | hw9 <;> first | (exfalso; omega) | (subst hw9; rfl)
    · refine lv_tableIn (off := 77) (tgt := 78) hx hb dX5_numberOf_1 (by rw [hz1, c1]; decide) (by rw [hz1, c1]; decide) (by rw [hz1, c1]; decide) (by decide) ?_
      refine lv_aload_n hx hb dX5_numberOf_78 rfl (lv_at hl 0 rfl) ?_
      obtain ⟨ho36, ho37, ho38, ho39, ho40⟩ := id hE
      refine g_get (ci := 7) (v := .long (zL (P 3))) (C := RX5) (T := TX5) (N := 11) hx hb hts iU_X5 hown hK hM ⟨by omega, by omega⟩ ho36 rfl 7 (by decide) (hts _ u_178) (fun _ h9 => h9) rfl dX5_numberOf_79 ?_
      refine g_lret hx hb hr hlk hK hM dX5_numberOf_82 ?_
      refine ⟨?_, rfl⟩
      have hw9 : w = 0 ∨ w = 1 ∨ w = 2 ∨ w = 3 ∨ w = 4 ∨ w = 5 ∨ w = 6 ∨ w = 7 ∨ w = 8 ∨ w = 9 ∨ w = 10 ∨ w = 11 := by omega
      rcases hw9 with hw9 | hw9 | hw9 | hw9 | hw9 | hw9 | hw9 | hw9 | hw9 | hw9 | hw9 | hw9 <;> first | (exfalso; omega) | (subst hw9; rfl)
    · refine lv_tableIn (off := 82) (tgt := 83) hx hb dX5_numberOf_1 (by rw [hz1, c1]; decide) (by rw [hz1, c1]; decide) (by rw [hz1, c1]; decide) (by decide) ?_
      refine lv_aload_n hx hb dX5_numberOf_83 rfl (lv_at hl 0 rfl) ?_
      obtain ⟨ho41, ho42, ho43, ho44, ho45⟩ := id hE
      refine g_get (ci := 7) (v := .int (zI (P 4))) (C := RX5) (T := TX5) (N := 11) hx hb hts iU_X5 hown hK hM ⟨by omega, by omega⟩ ho41 rfl 8 (by decide) (hts _ u_180) (fun _ h9 => h9) rfl dX5_numberOf_84 ?_
      refine g_i2l hx hb dX5_numberOf_87 hr4 ?_
      refine g_lret hx hb hr hlk hK hM dX5_numberOf_88 ?_
      refine ⟨?_, rfl⟩
      have hw9 : w = 0 ∨ w = 1 ∨ w = 2 ∨ w = 3 ∨ w = 4 ∨ w = 5 ∨ w = 6 ∨ w = 7 ∨ w = 8 ∨ w = 9 ∨ w = 10 ∨ w = 11 := by omega
      rcases hw9 with hw9 | hw9 | hw9 | hw9 | hw9 | hw9 | hw9 | hw9 | hw9 | hw9 | hw9 | hw9 <;> first | (exfalso; omega) | (subst hw9; rfl)
    · refine lv_tableIn (off := 88) (tgt := 89) hx hb dX5_numberOf_1 (by rw [hz1, c1]; decide) (by rw [hz1, c1]; decide) (by rw [hz1, c1]; decide) (by decide) ?_
      refine lv_aload_n hx hb dX5_numberOf_89 rfl (lv_at hl 0 rfl) ?_
      obtain ⟨ho46, ho47, ho48, ho49, ho50⟩ := id hE
      refine g_get (ci := 7) (v := .int (zI (P 1))) (C := RX5) (T := TX5) (N := 11) hx hb hts iU_X5 hown hK hM ⟨by omega, by omega⟩ ho46 rfl 5 (by decide) (hts _ u_174) (fun _ h9 => h9) rfl dX5_numberOf_90 ?_
      refine g_i2l hx hb dX5_numberOf_93 hr1 ?_
      refine g_lret hx hb hr hlk hK hM dX5_numberOf_94 ?_
      refine ⟨?_, rfl⟩
      have hw9 : w = 0 ∨ w = 1 ∨ w = 2 ∨ w = 3 ∨ w = 4 ∨ w = 5 ∨ w = 6 ∨ w = 7 ∨ w = 8 ∨ w = 9 ∨ w = 10 ∨ w = 11 := by omega
      rcases hw9 with hw9 | hw9 | hw9 | hw9 | hw9 | hw9 | hw9 | hw9 | hw9 | hw9 | hw9 | hw9 <;> first | (exfalso; omega) | (subst hw9; rfl)
    · refine lv_tableIn (off := 94) (tgt := 95) hx hb dX5_numberOf_1 (by rw [hz1, c1]; decide) (by rw [hz1, c1]; decide) (by rw [hz1, c1]; decide) (by decide) ?_
      refine lv_aload_n hx hb dX5_numberOf_95 rfl (lv_at hl 0 rfl) ?_
      obtain ⟨ho51, ho52, ho53, ho54, ho55⟩ := id hE
      refine g_get (ci := 7) (v := .long (zL (P 5))) (C := RX5) (T := TX5) (N := 11) hx hb hts iU_X5 hown hK hM ⟨by omega, by omega⟩ ho51 rfl 9 (by decide) (hts _ u_181) (fun _ h9 => h9) rfl dX5_numberOf_96 ?_
      refine g_lret hx hb hr hlk hK hM dX5_numberOf_99 ?_
      refine ⟨?_, rfl⟩
      have hw9 : w = 0 ∨ w = 1 ∨ w = 2 ∨ w = 3 ∨ w = 4 ∨ w = 5 ∨ w = 6 ∨ w = 7 ∨ w = 8 ∨ w = 9 ∨ w = 10 ∨ w = 11 := by omega
      rcases hw9 with hw9 | hw9 | hw9 | hw9 | hw9 | hw9 | hw9 | hw9 | hw9 | hw9 | hw9 | hw9 <;> first | (exfalso; omega) | (subst hw9; rfl)
    · refine lv_tableIn (off := 99) (tgt := 100) hx hb dX5_numberOf_1 (by rw [hz1, c1]; decide) (by rw [hz1, c1]; decide) (by rw [hz1, c1]; decide) (by decide) ?_
      refine lv_aload_n hx hb dX5_numberOf_100 rfl (lv_at hl 0 rfl) ?_
      obtain ⟨ho56, ho57, ho58, ho59, ho60⟩ := id hE
      refine g_get (ci := 7) (v := .long (zL (P 6))) (C := RX5) (T := TX5) (N := 11) hx hb hts iU_X5 hown hK hM ⟨by omega, by omega⟩ ho56 rfl 10 (by decide) (hts _ u_182) (fun _ h9 => h9) rfl dX5_numberOf_101 ?_
      refine g_lret hx hb hr hlk hK hM dX5_numberOf_104 ?_
      refine ⟨?_, rfl⟩
      have hw9 : w = 0 ∨ w = 1 ∨ w = 2 ∨ w = 3 ∨ w = 4 ∨ w = 5 ∨ w = 6 ∨ w = 7 ∨ w = 8 ∨ w = 9 ∨ w = 10 ∨ w = 11 := by omega
      rcases hw9 with hw9 | hw9 | hw9 | hw9 | hw9 | hw9 | hw9 | hw9 | hw9 | hw9 | hw9 | hw9 <;> first | (exfalso; omega) | (subst hw9; rfl)
    · refine lv_tableIn (off := 104) (tgt := 105) hx hb dX5_numberOf_1 (by rw [hz1, c1]; decide) (by rw [hz1, c1]; decide) (by rw [hz1, c1]; decide) (by decide) ?_
      refine lv_aload_n hx hb dX5_numberOf_105 rfl (lv_at hl 0 rfl) ?_
      obtain ⟨ho61, ho62, ho63, ho64, ho65⟩ := id hE
      refine g_get (ci := 7) (v := .ref (h + 1)) (C := RX5) (T := TX5) (N := 11) hx hb hts iU_X5 hown hK hM ⟨by omega, by omega⟩ ho61 rfl 0 (by decide) (hts _ u_164) (fun _ h9 => h9) rfl dX5_numberOf_106 ?_
      obtain ⟨ho66, ho67, ho68, ho69, ho70⟩ := id ho62
      refine g_getN (ci := 4) (v := .int (zI (P 7))) (C := RX2) (T := TX2) (N := 5) hx hb hts iU_X2 hown hK hM ⟨by omega, by omega⟩ ho66 rfl 4 (by decide) (hts _ u_61) (fun _ h9 => h9) rfl dX5_numberOf_109 ?_
      refine g_i2l hx hb dX5_numberOf_112 ⟨by omega, by omega⟩ ?_
      refine g_lret hx hb hr hlk hK hM dX5_numberOf_113 ?_
      refine ⟨?_, rfl⟩
      have hw9 : w = 0 ∨ w = 1 ∨ w = 2 ∨ w = 3 ∨ w = 4 ∨ w = 5 ∨ w = 6 ∨ w = 7 ∨ w = 8 ∨ w = 9 ∨ w = 10 ∨ w = 11 := by omega
      rcases hw9 with hw9 | hw9 | hw9 | hw9 | hw9 | hw9 | hw9 | hw9 | hw9 | hw9 | hw9 | hw9 <;> first | (exfalso; omega) | (subst hw9; rfl)
    · refine lv_tableIn (off := 113) (tgt := 114) hx hb dX5_numberOf_1 (by rw [hz1, c1]; decide) (by rw [hz1, c1]; decide) (by rw [hz1, c1]; decide) (by decide) ?_
      refine lv_aload_n hx hb dX5_numberOf_114 rfl (lv_at hl 0 rfl) ?_
      obtain ⟨ho71, ho72, ho73, ho74, ho75⟩ := id hE
      refine g_get (ci := 7) (v := .ref (h + 6)) (C := RX5) (T := TX5) (N := 11) hx hb hts iU_X5 hown hK hM ⟨by omega, by omega⟩ ho71 rfl 1 (by decide) (hts _ u_166) (fun _ h9 => h9) rfl dX5_numberOf_115 ?_
      obtain ⟨ho76, ho77, ho78, ho79⟩ := id ho73
      refine g_getN (ci := 9) (v := .int (zI (P 8))) (C := RX7) (T := TX7) (N := 4) hx hb hts iU_X7 hown hK hM ⟨by omega, by omega⟩ ho76 rfl 3 (by decide) (hts _ u_88) (fun _ h9 => h9) rfl dX5_numberOf_118 ?_
      refine g_i2l hx hb dX5_numberOf_121 ⟨by omega, by omega⟩ ?_
      refine g_lret hx hb hr hlk hK hM dX5_numberOf_122 ?_
      refine ⟨?_, rfl⟩
      have hw9 : w = 0 ∨ w = 1 ∨ w = 2 ∨ w = 3 ∨ w = 4 ∨ w = 5 ∨ w = 6 ∨ w = 7 ∨ w = 8 ∨ w = 9 ∨ w = 10 ∨ w = 11 := by omega
      rcases hw9 with hw9 | hw9 | hw9 | hw9 | hw9 | hw9 | hw9 | hw9 | hw9 | hw9 | hw9 | hw9 <;> first | (exfalso; omega) | (subst hw9; rfl)
    · refine lv_tableIn (off := 122) (tgt := 123) hx hb dX5_numberOf_1 (by rw [hz1, c1]; decide) (by rw [hz1, c1]; decide) (by rw [hz1, c1]; decide) (by decide) ?_
      refine lv_aload_n hx hb dX5_numberOf_123 rfl (lv_at hl 0 rfl) ?_
      obtain ⟨ho80, ho81, ho82, ho83, ho84⟩ := id hE
      refine g_get (ci := 7) (v := .ref (h + 10)) (C := RX5) (T := TX5) (N := 11) hx hb hts iU_X5 hown hK hM ⟨by omega, by omega⟩ ho80 rfl 2 (by decide) (hts _ u_168) (fun _ h9 => h9) rfl dX5_numberOf_124 ?_
      obtain ⟨ho85, ho86, ho87, ho88, ho89, ho90⟩ := id ho83
      refine g_getN (ci := 6) (v := .int (zI (P 9))) (C := RX4) (T := TX4) (N := 6) hx hb hts iU_X4 hown hK hM ⟨by omega, by omega⟩ ho85 rfl 5 (by decide) (hts _ u_115) (fun _ h9 => h9) rfl dX5_numberOf_127 ?_
      refine g_i2l hx hb dX5_numberOf_130 ⟨by omega, by omega⟩ ?_
      refine g_lret hx hb hr hlk hK hM dX5_numberOf_131 ?_
      refine ⟨?_, rfl⟩
      have hw9 : w = 0 ∨ w = 1 ∨ w = 2 ∨ w = 3 ∨ w = 4 ∨ w = 5 ∨ w = 6 ∨ w = 7 ∨ w = 8 ∨ w = 9 ∨ w = 10 ∨ w = 11 := by omega
      rcases hw9 with hw9 | hw9 | hw9 | hw9 | hw9 | hw9 | hw9 | hw9 | hw9 | hw9 | hw9 | hw9 <;> first | (exfalso; omega) | (subst hw9; rfl)

def po_X0_partOf (g : gE) (f : gF) (h : Nat) (B P T : Nat → Int) (sc : Nat) (pr ex : Int) (st w : Nat) : Int32 → gF → Prop := fun r f1 => r = zI (T (st * 5 + w)) ∧ f = f1
set_option maxRecDepth 100000 in
set_option maxHeartbeats 1000000 in
/-- partOf(step, what), valid -/
theorem c_X0_partOf (l : Launch) (g : gE) (b0 n : Nat) (f : gF) (h : Nat) (B P T : Nat → Int) (sc : Nat) (pr ex : Int) (st w : Nat) (hE : brAt g f h B P T (↑sc) pr ex) (hrg : b0 ≤ h ∧ h + 48 ≤ b0 + n) (hst : st < 60) (hw : w < 5) : cI l yX0_partOf cX0_partOf 3 (some .int) 0 0 [.ref h, .int (zI (↑st : Int)), .int (zI (↑w : Int))] g b0 n f (po_X0_partOf g f h B P T sc pr ex st w) := by
  refine gs_i (cc := cX0_partOf) (maxL := 3) (ret := (some .int)) (by decide) (Nat.le_of_ble_eq_true rfl) ?_
  intro p e0 s m args below meth c ls hx hb hr hml hown hts hlk hK hM hl
  have hl : lv_has ls 3 [(0, .ref h), (1, .int (zI (↑st : Int))), (2, .int (zI (↑w : Int)))] := hl
  refine lv_iload_n hx hb dX0_partOf_0 rfl (lv_at hl 1 rfl) ?_
  refine g_if_lt (tgt := 19) hx hb dX0_partOf_1 (by decide) ⟨by omega, by omega⟩ (fun c1 => ?_) (fun c1 => ?_)
  · skip
    refine g_iconst hx hb dX0_partOf_19 ?_
    refine g_iret hx hb hr hlk hK hM dX0_partOf_20 ?_
    exfalso; omega
  · skip
    refine lv_iload_n hx hb dX0_partOf_4 rfl (lv_at hl 1 rfl) ?_
    refine g_bipush hx hb dX0_partOf_5 (by decide) ?_
    refine g_icmp_ge (tgt := 19) hx hb dX0_partOf_7 (by decide) ⟨by omega, by omega⟩ (by decide) (fun c7 => ?_) (fun c7 => ?_)
    · skip
      refine g_iconst hx hb dX0_partOf_19 ?_
      refine g_iret hx hb hr hlk hK hM dX0_partOf_20 ?_
      exfalso; omega
    · skip
      refine lv_iload_n hx hb dX0_partOf_10 rfl (lv_at hl 2 rfl) ?_
      refine g_if_lt (tgt := 19) hx hb dX0_partOf_11 (by decide) ⟨by omega, by omega⟩ (fun c11 => ?_) (fun c11 => ?_)
      · skip
        refine g_iconst hx hb dX0_partOf_19 ?_
        refine g_iret hx hb hr hlk hK hM dX0_partOf_20 ?_
        exfalso; omega
      · skip
        refine lv_iload_n hx hb dX0_partOf_14 rfl (lv_at hl 2 rfl) ?_
        refine g_iconst hx hb dX0_partOf_15 ?_
        refine g_icmp_lt (tgt := 21) hx hb dX0_partOf_16 (by decide) ⟨by omega, by omega⟩ (by decide) (fun c16 => ?_) (fun c16 => ?_)
        · skip
          refine lv_aload_n hx hb dX0_partOf_21 rfl (lv_at hl 0 rfl) ?_
          obtain ⟨ho1, ho2, ho3, ho4⟩ := id hE
          refine g_get (ci := 2) (v := .ref (h + 47)) (C := RX0) (T := TX0) (N := 6) hx hb hts iU_X0 hown hK hM ⟨by omega, by omega⟩ ho1 rfl 2 (by decide) (hts _ u_211) (fun _ h9 => h9) rfl dX0_partOf_22 ?_
          refine lv_iload_n hx hb dX0_partOf_25 rfl (lv_at hl 1 rfl) ?_
          refine g_iconst hx hb dX0_partOf_26 ?_
          refine g_imul hx hb dX0_partOf_27 ?_
          refine lv_iload_n hx hb dX0_partOf_28 rfl (lv_at hl 2 rfl) ?_
          refine g_iadd hx hb dX0_partOf_29 ?_
          refine g_iald hx hb hK hM ⟨by omega, by omega⟩ ho4 (by omega) (by omega) (by decide) dX0_partOf_30 ?_
          show W _ _ _ _ _ _ _ _ _ _ _ _ _ _ _ (F0 _ _ _ (.int (zI (T ((st * 5) + w))) :: _))
          refine g_iret hx hb hr hlk hK hM dX0_partOf_31 ?_
          exact ⟨rfl, rfl⟩
        · skip
          refine g_iconst hx hb dX0_partOf_19 ?_
          refine g_iret hx hb hr hlk hK hM dX0_partOf_20 ?_
          exfalso; omega

def po_X0_record (g : gE) (f : gF) (h : Nat) (B P T : Nat → Int) (sc : Nat) (pr ex : Int) (kd a b x y : Int) : gF → Prop := fun f1 => brAt g f1 h B P (rcd T sc kd a b x y) ((↑sc : Int) + 1) pr ex ∧ ∀ q, (q < h ∨ h + 48 ≤ q) → f1 q = f q
set_option maxRecDepth 100000 in
set_option maxHeartbeats 1000000 in
/-- record, where there is room -/
theorem c_X0_record (l : Launch) (g : gE) (b0 n : Nat) (f : gF) (h : Nat) (B P T : Nat → Int) (sc : Nat) (pr ex : Int) (kd a b x y : Int) (hE : brAt g f h B P T (↑sc) pr ex) (hrg : b0 ≤ h ∧ h + 48 ≤ b0 + n) (hsc : sc < 60) : cV l yX0_record cX0_record 7 none 0 0 [.ref h, .int (zI kd), .int (zI a), .int (zI b), .int (zI x), .int (zI y)] g b0 n f (po_X0_record g f h B P T sc pr ex kd a b x y) := by
  refine gs_v (cc := cX0_record) (maxL := 7) (ret := none) (by decide) (Nat.le_of_ble_eq_true rfl) ?_
  intro p e0 s m args below meth c ls hx hb hr hml hown hts hlk hK hM hl
  have hl : lv_has ls 7 [(0, .ref h), (1, .int (zI kd)), (2, .int (zI a)), (3, .int (zI b)), (4, .int (zI x)), (5, .int (zI y))] := hl
  refine lv_aload_n hx hb dX0_record_0 rfl (lv_at hl 0 rfl) ?_
  obtain ⟨ho1, ho2, ho3, ho4⟩ := id hE
  refine g_get (ci := 2) (v := .int (zI (↑sc : Int))) (C := RX0) (T := TX0) (N := 6) hx hb hts iU_X0 hown hK hM ⟨by omega, by omega⟩ ho1 rfl 3 (by decide) (hts _ u_212) (fun _ h9 => h9) rfl dX0_record_1 ?_
  refine g_if_lt (tgt := 16) hx hb dX0_record_4 (by decide) ⟨by omega, by omega⟩ (fun c4 => ?_) (fun c4 => ?_)
  · skip
    refine g_vret hx hb hr hlk hK hM dX0_record_16 ?_
    exfalso; omega
  · skip
    refine lv_aload_n hx hb dX0_record_7 rfl (lv_at hl 0 rfl) ?_
    refine g_get (ci := 2) (v := .int (zI (↑sc : Int))) (C := RX0) (T := TX0) (N := 6) hx hb hts iU_X0 hown hK hM ⟨by omega, by omega⟩ ho1 rfl 3 (by decide) (hts _ u_212) (fun _ h9 => h9) rfl dX0_record_8 ?_
    refine g_bipush hx hb dX0_record_11 (by decide) ?_
    refine g_icmp_lt (tgt := 17) hx hb dX0_record_13 (by decide) ⟨by omega, by omega⟩ (by decide) (fun c13 => ?_) (fun c13 => ?_)
    · skip
      refine lv_aload_n hx hb dX0_record_17 rfl (lv_at hl 0 rfl) ?_
      refine g_get (ci := 2) (v := .int (zI (↑sc : Int))) (C := RX0) (T := TX0) (N := 6) hx hb hts iU_X0 hown hK hM ⟨by omega, by omega⟩ ho1 rfl 3 (by decide) (hts _ u_212) (fun _ h9 => h9) rfl dX0_record_18 ?_
      refine g_iconst hx hb dX0_record_21 ?_
      refine g_imul hx hb dX0_record_22 ?_
      refine lv_istore (lv' := [(6, .int (zI ((↑sc : Int) * 5))), (0, .ref h), (1, .int (zI kd)), (2, .int (zI a)), (3, .int (zI b)), (4, .int (zI x)), (5, .int (zI y))]) hx hb dX0_record_23 hl (by decide) rfl (fun ls hl => ?_)
      refine lv_aload_n hx hb dX0_record_25 rfl (lv_at hl 1 rfl) ?_
      refine g_get (ci := 2) (v := .ref (h + 47)) (C := RX0) (T := TX0) (N := 6) hx hb hts iU_X0 hown hK hM ⟨by omega, by omega⟩ ho1 rfl 2 (by decide) (hts _ u_211) (fun _ h9 => h9) rfl dX0_record_26 ?_
      refine lv_iload hx hb dX0_record_29 (lv_at hl 0 rfl) ?_
      refine lv_iload_n hx hb dX0_record_31 rfl (lv_at hl 2 rfl) ?_
      refine g_iast hx hb hK hM ⟨by omega, by omega⟩ ho4 (by omega) (by omega) (by decide) dX0_record_32 (fun f5 H locs hM ha7 o6 => ?_)
      refine lv_aload_n hx hb dX0_record_33 rfl (lv_at hl 1 rfl) ?_
      have hf8 : f5 (h) = .inr (2, [.ref (h + 1), .ref (h + 24), .ref (h + 47), .int (zI (↑sc : Int)), .int (zI pr), .int (zI ex)]) := (o6 (h) (by omega)).trans ho1
      refine g_get (ci := 2) (v := .ref (h + 47)) (C := RX0) (T := TX0) (N := 6) hx hb hts iU_X0 hown hK hM ⟨by omega, by omega⟩ hf8 rfl 2 (by decide) (hts _ u_211) (fun _ h9 => h9) rfl dX0_record_34 ?_
      refine lv_iload hx hb dX0_record_37 (lv_at hl 0 rfl) ?_
      refine g_iconst hx hb dX0_record_39 ?_
      refine g_iadd hx hb dX0_record_40 ?_
      refine lv_iload_n hx hb dX0_record_41 rfl (lv_at hl 3 rfl) ?_
      refine g_iast hx hb hK hM ⟨by omega, by omega⟩ ha7 (by omega) (by omega) (by decide) dX0_record_42 (fun f9 H locs hM ha11 o10 => ?_)
      refine lv_aload_n hx hb dX0_record_43 rfl (lv_at hl 1 rfl) ?_
      have hf12 : f9 (h) = .inr (2, [.ref (h + 1), .ref (h + 24), .ref (h + 47), .int (zI (↑sc : Int)), .int (zI pr), .int (zI ex)]) := (o10 (h) (by omega)).trans hf8
      refine g_get (ci := 2) (v := .ref (h + 47)) (C := RX0) (T := TX0) (N := 6) hx hb hts iU_X0 hown hK hM ⟨by omega, by omega⟩ hf12 rfl 2 (by decide) (hts _ u_211) (fun _ h9 => h9) rfl dX0_record_44 ?_
      refine lv_iload hx hb dX0_record_47 (lv_at hl 0 rfl) ?_
      refine g_iconst hx hb dX0_record_49 ?_
      refine g_iadd hx hb dX0_record_50 ?_
      refine lv_iload_n hx hb dX0_record_51 rfl (lv_at hl 4 rfl) ?_
      refine g_iast hx hb hK hM ⟨by omega, by omega⟩ ha11 (by omega) (by omega) (by decide) dX0_record_52 (fun f13 H locs hM ha15 o14 => ?_)
      refine lv_aload_n hx hb dX0_record_53 rfl (lv_at hl 1 rfl) ?_
      have hf16 : f13 (h) = .inr (2, [.ref (h + 1), .ref (h + 24), .ref (h + 47), .int (zI (↑sc : Int)), .int (zI pr), .int (zI ex)]) := (o14 (h) (by omega)).trans hf12
      refine g_get (ci := 2) (v := .ref (h + 47)) (C := RX0) (T := TX0) (N := 6) hx hb hts iU_X0 hown hK hM ⟨by omega, by omega⟩ hf16 rfl 2 (by decide) (hts _ u_211) (fun _ h9 => h9) rfl dX0_record_54 ?_
      refine lv_iload hx hb dX0_record_57 (lv_at hl 0 rfl) ?_
      refine g_iconst hx hb dX0_record_59 ?_
      refine g_iadd hx hb dX0_record_60 ?_
      refine lv_iload hx hb dX0_record_61 (lv_at hl 5 rfl) ?_
      refine g_iast hx hb hK hM ⟨by omega, by omega⟩ ha15 (by omega) (by omega) (by decide) dX0_record_63 (fun f17 H locs hM ha19 o18 => ?_)
      refine lv_aload_n hx hb dX0_record_64 rfl (lv_at hl 1 rfl) ?_
      have hf20 : f17 (h) = .inr (2, [.ref (h + 1), .ref (h + 24), .ref (h + 47), .int (zI (↑sc : Int)), .int (zI pr), .int (zI ex)]) := (o18 (h) (by omega)).trans hf16
      refine g_get (ci := 2) (v := .ref (h + 47)) (C := RX0) (T := TX0) (N := 6) hx hb hts iU_X0 hown hK hM ⟨by omega, by omega⟩ hf20 rfl 2 (by decide) (hts _ u_211) (fun _ h9 => h9) rfl dX0_record_65 ?_
      refine lv_iload hx hb dX0_record_68 (lv_at hl 0 rfl) ?_
      refine g_iconst hx hb dX0_record_70 ?_
      refine g_iadd hx hb dX0_record_71 ?_
      refine lv_iload hx hb dX0_record_72 (lv_at hl 6 rfl) ?_
      refine g_iast hx hb hK hM ⟨by omega, by omega⟩ ha19 (by omega) (by omega) (by decide) dX0_record_74 (fun f21 H locs hM ha23 o22 => ?_)
      refine lv_aload_n hx hb dX0_record_75 rfl (lv_at hl 1 rfl) ?_
      refine lv_dup hx hb dX0_record_76 rfl ?_
      have hf24 : f21 (h) = .inr (2, [.ref (h + 1), .ref (h + 24), .ref (h + 47), .int (zI (↑sc : Int)), .int (zI pr), .int (zI ex)]) := (o22 (h) (by omega)).trans hf20
      refine g_get (ci := 2) (v := .int (zI (↑sc : Int))) (C := RX0) (T := TX0) (N := 6) hx hb hts iU_X0 hown hK hM ⟨by omega, by omega⟩ hf24 rfl 3 (by decide) (hts _ u_212) (fun _ h9 => h9) rfl dX0_record_77 ?_
      refine g_iconst hx hb dX0_record_80 ?_
      refine g_iadd hx hb dX0_record_81 ?_
      refine g_put (ci := 2) (v := .int (zI ((↑sc : Int) + 1))) (ty := .int) (C := RX0) (T := TX0) (N := 6) hx hb hts iU_X0 tyX0 tyX0_ok nmX0 hown hK hM ⟨by omega, by omega⟩ hf24 rfl 3 (by decide) (hts _ u_212) (fun _ h9 => h9) rfl (by decide +kernel) rfl rfl (Nat.le_of_ble_eq_true rfl) dX0_record_82 (fun f25 H locs hM hf27 o26 => ?_)
      have hf27 : f25 (h) = .inr (2, [.ref (h + 1), .ref (h + 24), .ref (h + 47), .int (zI ((↑sc : Int) + 1)), .int (zI pr), .int (zI ex)]) := hf27
      have hf28 := ho2.kept (fun q h1 h2 => ((o26 (q) (by omega)).trans ((o22 (q) (by omega)).trans ((o18 (q) (by omega)).trans ((o14 (q) (by omega)).trans ((o10 (q) (by omega)).trans (o6 (q) (by omega))))))))
      have hf29 := ho3.kept (fun q h1 h2 => ((o26 (q) (by omega)).trans ((o22 (q) (by omega)).trans ((o18 (q) (by omega)).trans ((o14 (q) (by omega)).trans ((o10 (q) (by omega)).trans (o6 (q) (by omega))))))))
      have hf30 := ha23.kept (o26 (h + 47) (by omega))
      refine g_vret hx hb hr hlk hK hM dX0_record_85 ?_
      exact ⟨⟨hf27, hf28, hf29, hf30⟩, (fun q hq => ((o26 (q) (by omega)).trans ((o22 (q) (by omega)).trans ((o18 (q) (by omega)).trans ((o14 (q) (by omega)).trans ((o10 (q) (by omega)).trans (o6 (q) (by omega))))))))⟩
    · skip
      refine g_vret hx hb hr hlk hK hM dX0_record_16 ?_
      exfalso; omega

def po_X0_forget (g : gE) (f : gF) (h : Nat) (B P T : Nat → Int) (sc : Nat) (pr ex : Int) (st : Nat) : gF → Prop := fun f1 => brAt g f1 h B P (shP T (st * 5) ((sc - 1) * 5)) ((↑sc : Int) - 1) pr ex ∧ ∀ q, (q < h ∨ h + 48 ≤ q) → f1 q = f q
set_option maxRecDepth 100000 in
set_option maxHeartbeats 1000000 in
/-- forget(step) -/
theorem c_X0_forget (l : Launch) (g : gE) (b0 n : Nat) (f : gF) (h : Nat) (B P T : Nat → Int) (sc : Nat) (pr ex : Int) (st : Nat) (hE : brAt g f h B P T (↑sc) pr ex) (hrg : b0 ≤ h ∧ h + 48 ≤ b0 + n) (hst : st < sc) (hsc : sc ≤ 60) : cV l yX0_forget cX0_forget 3 none 0 0 [.ref h, .int (zI (↑st : Int))] g b0 n f (po_X0_forget g f h B P T sc pr ex st) := by
  refine gs_v (cc := cX0_forget) (maxL := 3) (ret := none) (by decide) (Nat.le_of_ble_eq_true rfl) ?_
  intro p e0 s m args below meth c ls hx hb hr hml hown hts hlk hK hM hl
  have hl : lv_has ls 3 [(0, .ref h), (1, .int (zI (↑st : Int)))] := hl
  refine lv_iload_n hx hb dX0_forget_0 rfl (lv_at hl 1 rfl) ?_
  refine g_if_lt (tgt := 21) hx hb dX0_forget_1 (by decide) ⟨by omega, by omega⟩ (fun c1 => ?_) (fun c1 => ?_)
  · skip
    refine g_vret hx hb hr hlk hK hM dX0_forget_21 ?_
    exfalso; omega
  · skip
    refine lv_iload_n hx hb dX0_forget_4 rfl (lv_at hl 1 rfl) ?_
    refine lv_aload_n hx hb dX0_forget_5 rfl (lv_at hl 0 rfl) ?_
    obtain ⟨ho1, ho2, ho3, ho4⟩ := id hE
    refine g_get (ci := 2) (v := .int (zI (↑sc : Int))) (C := RX0) (T := TX0) (N := 6) hx hb hts iU_X0 hown hK hM ⟨by omega, by omega⟩ ho1 rfl 3 (by decide) (hts _ u_212) (fun _ h9 => h9) rfl dX0_forget_6 ?_
    refine g_icmp_ge (tgt := 21) hx hb dX0_forget_9 (by decide) ⟨by omega, by omega⟩ ⟨by omega, by omega⟩ (fun c9 => ?_) (fun c9 => ?_)
    · skip
      refine g_vret hx hb hr hlk hK hM dX0_forget_21 ?_
      exfalso; omega
    · skip
      refine lv_aload_n hx hb dX0_forget_12 rfl (lv_at hl 0 rfl) ?_
      refine g_get (ci := 2) (v := .int (zI (↑sc : Int))) (C := RX0) (T := TX0) (N := 6) hx hb hts iU_X0 hown hK hM ⟨by omega, by omega⟩ ho1 rfl 3 (by decide) (hts _ u_212) (fun _ h9 => h9) rfl dX0_forget_13 ?_
      refine g_bipush hx hb dX0_forget_16 (by decide) ?_
      refine g_icmp_le (tgt := 22) hx hb dX0_forget_18 (by decide) ⟨by omega, by omega⟩ (by decide) (fun c18 => ?_) (fun c18 => ?_)
      · skip
        refine lv_iload_n hx hb dX0_forget_22 rfl (lv_at hl 1 rfl) ?_
        refine g_iconst hx hb dX0_forget_23 ?_
        refine g_imul hx hb dX0_forget_24 ?_
        refine lv_istore_n (lv' := [(2, .int (zI ((↑st : Int) * 5))), (0, .ref h), (1, .int (zI (↑st : Int)))]) hx hb dX0_forget_25 rfl hl (by decide) rfl (fun ls hl => ?_)
        have lp26 : ∀ (k : Nat), ∀ (j : Nat) (fL : gF) (H : Heap) (locs : List Loc) (ls : Array Slot), (300 - j < k) → (st * 5 ≤ j) → (j ≤ (sc - 1) * 5) → (∀ q, (q < h ∨ h + 48 ≤ q) → fL q = f q) → gH g b0 n fL s.heap H locs → (fL h = .inr (2, [.ref (h + 1), .ref (h + 24), .ref (h + 47), .int (zI (↑sc : Int)), .int (zI pr), .int (zI ex)])) → (planAt g fL (h + 1) B) → (planAt g fL (h + 24) P) → (arI g fL (h + 47) 300 (fun k => shP T (st * 5) j k)) → lv_has ls 3 [(0, .ref h), (1, .int (zI (↑st : Int))), (2, .int (zI (↑j : Int)))] → W p l e0 { frames := 0, cells := 0, slots := 0, locals := 0 } s m args below meth c H locs 0 0 (MQ below (va_Qv (po_X0_forget g f h B P T sc pr ex st) (gB g b0 n) (gA b0)) args s 0 0 (gA b0)) (F0 m 26 ls []) := by
          intro k
          induction k with
          | zero =>
            intro j fL H locs ls hk hj1 hj hfr hM hL0 hL1 hL2 hL3 hl
            exact absurd hk (Nat.not_lt_zero _)
          | succ k ih26 =>
            intro j fL H locs ls hk hj1 hj hfr hM hL0 hL1 hL2 hL3 hl
            refine lv_iload_n hx hb dX0_forget_26 rfl (lv_at hl 2 rfl) ?_
            refine g_iconst hx hb dX0_forget_27 ?_
            refine g_iadd hx hb dX0_forget_28 ?_
            refine lv_aload_n hx hb dX0_forget_29 rfl (lv_at hl 0 rfl) ?_
            refine g_get (ci := 2) (v := .int (zI (↑sc : Int))) (C := RX0) (T := TX0) (N := 6) hx hb hts iU_X0 hown hK hM ⟨by omega, by omega⟩ hL0 rfl 3 (by decide) (hts _ u_212) (fun _ h9 => h9) rfl dX0_forget_30 ?_
            refine g_iconst hx hb dX0_forget_33 ?_
            refine g_imul hx hb dX0_forget_34 ?_
            refine g_icmp_ge (tgt := 58) hx hb dX0_forget_35 (by decide) ⟨by omega, by omega⟩ ⟨by omega, by omega⟩ (fun c35 => ?_) (fun c35 => ?_)
            · skip
              refine lv_aload_n hx hb dX0_forget_58 rfl (lv_at hl 0 rfl) ?_
              refine lv_dup hx hb dX0_forget_59 rfl ?_
              refine g_get (ci := 2) (v := .int (zI (↑sc : Int))) (C := RX0) (T := TX0) (N := 6) hx hb hts iU_X0 hown hK hM ⟨by omega, by omega⟩ hL0 rfl 3 (by decide) (hts _ u_212) (fun _ h9 => h9) rfl dX0_forget_60 ?_
              refine g_iconst hx hb dX0_forget_63 ?_
              refine g_isub hx hb dX0_forget_64 ?_
              refine g_put (ci := 2) (v := .int (zI ((↑sc : Int) - 1))) (ty := .int) (C := RX0) (T := TX0) (N := 6) hx hb hts iU_X0 tyX0 tyX0_ok nmX0 hown hK hM ⟨by omega, by omega⟩ hL0 rfl 3 (by decide) (hts _ u_212) (fun _ h9 => h9) rfl (by decide +kernel) rfl rfl (Nat.le_of_ble_eq_true rfl) dX0_forget_65 (fun f5 H locs hM hf7 o6 => ?_)
              have hf7 : f5 (h) = .inr (2, [.ref (h + 1), .ref (h + 24), .ref (h + 47), .int (zI ((↑sc : Int) - 1)), .int (zI pr), .int (zI ex)]) := hf7
              have hf8 := hL1.kept (fun q h1 h2 => (o6 (q) (by omega)))
              have hf9 := hL2.kept (fun q h1 h2 => (o6 (q) (by omega)))
              have hf10 := hL3.kept (o6 (h + 47) (by omega))
              refine g_vret hx hb hr hlk hK hM dX0_forget_68 ?_
              have hjj : j = (sc - 1) * 5 := by omega
              subst hjj
              exact ⟨⟨hf7, hf8, hf9, hf10⟩, (fun q hq => ((o6 (q) (by omega)).trans (hfr (q) (by omega))))⟩
            · skip
              refine lv_aload_n hx hb dX0_forget_38 rfl (lv_at hl 0 rfl) ?_
              refine g_get (ci := 2) (v := .ref (h + 47)) (C := RX0) (T := TX0) (N := 6) hx hb hts iU_X0 hown hK hM ⟨by omega, by omega⟩ hL0 rfl 2 (by decide) (hts _ u_211) (fun _ h9 => h9) rfl dX0_forget_39 ?_
              refine lv_iload_n hx hb dX0_forget_42 rfl (lv_at hl 2 rfl) ?_
              refine lv_aload_n hx hb dX0_forget_43 rfl (lv_at hl 0 rfl) ?_
              refine g_get (ci := 2) (v := .ref (h + 47)) (C := RX0) (T := TX0) (N := 6) hx hb hts iU_X0 hown hK hM ⟨by omega, by omega⟩ hL0 rfl 2 (by decide) (hts _ u_211) (fun _ h9 => h9) rfl dX0_forget_44 ?_
              refine lv_iload_n hx hb dX0_forget_47 rfl (lv_at hl 2 rfl) ?_
              refine g_iconst hx hb dX0_forget_48 ?_
              refine g_iadd hx hb dX0_forget_49 ?_
              refine g_iald hx hb hK hM ⟨by omega, by omega⟩ hL3 (by omega) (by omega) (by decide) dX0_forget_50 ?_
              show W _ _ _ _ _ _ _ _ _ _ _ _ _ _ _ (F0 _ _ _ (.int (zI (shP T (st * 5) j (j + 5))) :: _))
              refine g_iast hx hb hK hM ⟨by omega, by omega⟩ hL3 (by omega) (by omega) (by decide) dX0_forget_51 (fun f11 H locs hM ha13 o12 => ?_)
              refine lv_iinc (v := zI ((↑j : Int) + 1)) (lv' := [(2, .int (zI ((↑j : Int) + 1))), (0, .ref h), (1, .int (zI (↑st : Int)))]) hx hb dX0_forget_52 hl (k := 2) rfl (zI_add _ _) (by decide) rfl (fun ls hl => ?_)
              refine lv_goto (tgt := 26) hx hb dX0_forget_55 (by decide) ?_
              have hf14 : f11 (h) = .inr (2, [.ref (h + 1), .ref (h + 24), .ref (h + 47), .int (zI (↑sc : Int)), .int (zI pr), .int (zI ex)]) := (o12 (h) (by omega)).trans hL0
              have hf15 := hL1.kept (fun q h1 h2 => (o12 (q) (by omega)))
              have hf16 := hL2.kept (fun q h1 h2 => (o12 (q) (by omega)))
              exact ih26 (j + 1) f11 _ _ _ (by omega) (by omega) (by omega) (fun q hq => ((o12 (q) (by omega)).trans (hfr (q) (by omega)))) hM hf14 hf15 hf16 (ha13.cong (fun k9 hk9 => by simp only [shP, pu, Int.toNat_natCast] <;> (repeat' split) <;> first | rfl | omega | (congr 1; omega))) (lv_sub hl [1, 2, 0] rfl)
        exact lp26 (301) (st * 5) f _ _ _ (by omega) (by omega) (by omega) (fun q hq => rfl) hM ho1 ho2 ho3 (ho4.cong (fun k9 hk9 => by simp only [shP, pu, Int.toNat_natCast] <;> (repeat' split) <;> first | rfl | omega | (congr 1; omega))) (lv_sub hl [1, 2, 0] rfl)
      · skip
        refine g_vret hx hb hr hlk hK hM dX0_forget_21 ?_
        exfalso; omega

def po_X0_beginWith (g : gE) (f : gF) (h : Nat) (B P T : Nat → Int) (sc : Nat) (pr ex : Int) (h2 : Nat) (Q : Nat → Int) (np : Int) : gF → Prop := fun f1 => brAt g f1 h Q Q T 0 np 1 ∧ ∀ q, (q < h ∨ h + 48 ≤ q) → f1 q = f q
set_option maxRecDepth 100000 in
set_option maxHeartbeats 1000000 in
/-- beginWith(origin, parent) -/
theorem c_X0_beginWith (l : Launch) (g : gE) (b0 n : Nat) (f : gF) (h : Nat) (B P T : Nat → Int) (sc : Nat) (pr ex : Int) (h2 : Nat) (Q : Nat → Int) (np : Int) (hE : brAt g f h B P T (↑sc) pr ex) (hrg : b0 ≤ h ∧ h + 48 ≤ b0 + n) (hG : planAt g f h2 Q) (hrg2 : b0 ≤ h2 ∧ h2 + 23 ≤ b0 + n) (hd : h + 48 ≤ h2 ∨ h2 + 23 ≤ h) : cV l yX0_beginWith cX0_beginWith 3 none 3 102 [.ref h, .ref h2, .int (zI np)] g b0 n f (po_X0_beginWith g f h B P T sc pr ex h2 Q np) := by
  refine gs_v (cc := cX0_beginWith) (maxL := 3) (ret := none) (by decide) (Nat.le_of_ble_eq_true rfl) ?_
  intro p e0 s m args below meth c ls hx hb hr hml hown hts hlk hK hM hl
  have hl : lv_has ls 3 [(0, .ref h), (1, .ref h2), (2, .int (zI np))] := hl
  refine lv_aload_n hx hb dX0_beginWith_0 rfl (lv_at hl 0 rfl) ?_
  obtain ⟨ho1, ho2, ho3, ho4⟩ := id hE
  refine g_get (ci := 2) (v := .ref (h + 1)) (C := RX0) (T := TX0) (N := 6) hx hb hts iU_X0 hown hK hM ⟨by omega, by omega⟩ ho1 rfl 0 (by decide) (hts _ u_206) (fun _ h9 => h9) rfl dX0_beginWith_1 ?_
  refine lv_aload_n hx hb dX0_beginWith_4 rfl (lv_at hl 1 rfl) ?_
  have hC7 := c_X5_copyFrom l g b0 n f (h + 1) (h2) B Q ho2 hG ⟨by omega, by omega⟩ ⟨by omega, by omega⟩ (by omega)
  obtain ⟨ho10, ho11, ho12, ho13, ho14⟩ := id ho2
  refine g_callVv (ci := 7) (C := RX5) (T := TX5) (N := 11) (As := [.ref h2]) (rest := []) ⟨hx, hb, hml, hown, hts⟩ hK hM hC7 (cuV (n := 1) hts u_561 u_558 u_4 (by decide) u_559 u_560 ⟨Nat.le_of_ble_eq_true rfl, Nat.le_of_ble_eq_true rfl⟩) ⟨by omega, by omega⟩ ho10 rfl rfl hl.1 rfl (Nat.le_of_ble_eq_true rfl) dX0_beginWith_5 ⟨Nat.zero_le _, Nat.zero_le _⟩ (fun f8 H locs hM hp9 => ?_)
  obtain ⟨hn6, o5⟩ := hp9
  refine lv_aload_n hx hb dX0_beginWith_8 rfl (lv_at hl 0 rfl) ?_
  have hf15 : f8 (h) = .inr (2, [.ref (h + 1), .ref (h + 24), .ref (h + 47), .int (zI (↑sc : Int)), .int (zI pr), .int (zI ex)]) := (o5 (h) (by omega)).trans ho1
  refine g_get (ci := 2) (v := .ref (h + 24)) (C := RX0) (T := TX0) (N := 6) hx hb hts iU_X0 hown hK hM ⟨by omega, by omega⟩ hf15 rfl 1 (by decide) (hts _ u_208) (fun _ h9 => h9) rfl dX0_beginWith_9 ?_
  refine lv_aload_n hx hb dX0_beginWith_12 rfl (lv_at hl 1 rfl) ?_
  have hf16 := ho3.kept (fun q h1 h2 => (o5 (q) (by omega)))
  have hf17 := hG.kept (fun q h1 h2 => (o5 (q) (by omega)))
  have hC20 := c_X5_copyFrom l g b0 n f8 (h + 24) (h2) P Q hf16 hf17 ⟨by omega, by omega⟩ ⟨by omega, by omega⟩ (by omega)
  obtain ⟨ho23, ho24, ho25, ho26, ho27⟩ := id hf16
  refine g_callVv (ci := 7) (C := RX5) (T := TX5) (N := 11) (As := [.ref h2]) (rest := []) ⟨hx, hb, hml, hown, hts⟩ hK hM hC20 (cuV (n := 1) hts u_561 u_558 u_4 (by decide) u_559 u_560 ⟨Nat.le_of_ble_eq_true rfl, Nat.le_of_ble_eq_true rfl⟩) ⟨by omega, by omega⟩ ho23 rfl rfl hl.1 rfl (Nat.le_of_ble_eq_true rfl) dX0_beginWith_13 ⟨Nat.zero_le _, Nat.zero_le _⟩ (fun f21 H locs hM hp22 => ?_)
  obtain ⟨hn19, o18⟩ := hp22
  refine lv_aload_n hx hb dX0_beginWith_16 rfl (lv_at hl 0 rfl) ?_
  refine g_iconst hx hb dX0_beginWith_17 ?_
  have hf28 : f21 (h) = .inr (2, [.ref (h + 1), .ref (h + 24), .ref (h + 47), .int (zI (↑sc : Int)), .int (zI pr), .int (zI ex)]) := (o18 (h) (by omega)).trans hf15
  refine g_put (ci := 2) (v := .int (zI 0)) (ty := .int) (C := RX0) (T := TX0) (N := 6) hx hb hts iU_X0 tyX0 tyX0_ok nmX0 hown hK hM ⟨by omega, by omega⟩ hf28 rfl 3 (by decide) (hts _ u_212) (fun _ h9 => h9) rfl (by decide +kernel) rfl rfl (Nat.le_of_ble_eq_true rfl) dX0_beginWith_18 (fun f29 H locs hM hf31 o30 => ?_)
  have hf31 : f29 (h) = .inr (2, [.ref (h + 1), .ref (h + 24), .ref (h + 47), .int (zI 0), .int (zI pr), .int (zI ex)]) := hf31
  refine lv_aload_n hx hb dX0_beginWith_21 rfl (lv_at hl 0 rfl) ?_
  refine lv_iload_n hx hb dX0_beginWith_22 rfl (lv_at hl 2 rfl) ?_
  refine g_put (ci := 2) (v := .int (zI np)) (ty := .int) (C := RX0) (T := TX0) (N := 6) hx hb hts iU_X0 tyX0 tyX0_ok nmX0 hown hK hM ⟨by omega, by omega⟩ hf31 rfl 4 (by decide) (hts _ u_214) (fun _ h9 => h9) rfl (by decide +kernel) rfl rfl (Nat.le_of_ble_eq_true rfl) dX0_beginWith_23 (fun f32 H locs hM hf34 o33 => ?_)
  have hf34 : f32 (h) = .inr (2, [.ref (h + 1), .ref (h + 24), .ref (h + 47), .int (zI 0), .int (zI np), .int (zI ex)]) := hf34
  refine lv_aload_n hx hb dX0_beginWith_26 rfl (lv_at hl 0 rfl) ?_
  refine g_iconst hx hb dX0_beginWith_27 ?_
  refine g_put (ci := 2) (v := .int (zI 1)) (ty := .boolean) (C := RX0) (T := TX0) (N := 6) hx hb hts iU_X0 tyX0 tyX0_ok nmX0 hown hK hM ⟨by omega, by omega⟩ hf34 rfl 5 (by decide) (hts _ u_218) (fun _ h9 => h9) rfl (by decide +kernel) (by decide) (by decide) (Nat.le_of_ble_eq_true rfl) dX0_beginWith_28 (fun f35 H locs hM hf37 o36 => ?_)
  have hf37 : f35 (h) = .inr (2, [.ref (h + 1), .ref (h + 24), .ref (h + 47), .int (zI 0), .int (zI np), .int (zI 1)]) := hf37
  have hf38 := hn6.kept (fun q h1 h2 => ((o36 (q) (by omega)).trans ((o33 (q) (by omega)).trans ((o30 (q) (by omega)).trans (o18 (q) (by omega))))))
  have hf39 := hn19.kept (fun q h1 h2 => ((o36 (q) (by omega)).trans ((o33 (q) (by omega)).trans (o30 (q) (by omega)))))
  have hf40 := ho4.kept ((o36 (h + 47) (by omega)).trans ((o33 (h + 47) (by omega)).trans ((o30 (h + 47) (by omega)).trans ((o18 (h + 47) (by omega)).trans (o5 (h + 47) (by omega))))))
  refine g_vret hx hb hr hlk hK hM dX0_beginWith_31 ?_
  exact ⟨⟨hf37, hf38, hf39, hf40⟩, (fun q hq => ((o36 (q) (by omega)).trans ((o33 (q) (by omega)).trans ((o30 (q) (by omega)).trans ((o18 (q) (by omega)).trans (o5 (q) (by omega)))))))⟩

def po_X0_copyFrom (g : gE) (f : gF) (h : Nat) (B P T : Nat → Int) (sc : Nat) (pr ex : Int) (h2 : Nat) (B2 P2 T2 : Nat → Int) (sc2 pr2 ex2 : Int) : gF → Prop := fun f1 => brAt g f1 h B2 P2 T2 sc2 pr2 ex2 ∧ ∀ q, (q < h ∨ h + 48 ≤ q) → f1 q = f q
set_option maxRecDepth 100000 in
set_option maxHeartbeats 1000000 in
/-- copyFrom(other) -/
theorem c_X0_copyFrom (l : Launch) (g : gE) (b0 n : Nat) (f : gF) (h : Nat) (B P T : Nat → Int) (sc : Nat) (pr ex : Int) (h2 : Nat) (B2 P2 T2 : Nat → Int) (sc2 pr2 ex2 : Int) (hE : brAt g f h B P T (↑sc) pr ex) (hrg : b0 ≤ h ∧ h + 48 ≤ b0 + n) (hG : brAt g f h2 B2 P2 T2 sc2 pr2 ex2) (hrg2 : b0 ≤ h2 ∧ h2 + 48 ≤ b0 + n) (hd : h + 48 ≤ h2 ∨ h2 + 48 ≤ h) (hx2 : ex2 = 0 ∨ ex2 = 1) : cV l yX0_copyFrom cX0_copyFrom 2 none 3 102 [.ref h, .ref h2] g b0 n f (po_X0_copyFrom g f h B P T sc pr ex h2 B2 P2 T2 sc2 pr2 ex2) := by
  refine gs_v (cc := cX0_copyFrom) (maxL := 2) (ret := none) (by decide) (Nat.le_of_ble_eq_true rfl) ?_
  intro p e0 s m args below meth c ls hx hb hr hml hown hts hlk hK hM hl
  have hl : lv_has ls 2 [(0, .ref h), (1, .ref h2)] := hl
  refine lv_aload_n hx hb dX0_copyFrom_0 rfl (lv_at hl 0 rfl) ?_
  obtain ⟨ho1, ho2, ho3, ho4⟩ := id hE
  refine g_get (ci := 2) (v := .ref (h + 1)) (C := RX0) (T := TX0) (N := 6) hx hb hts iU_X0 hown hK hM ⟨by omega, by omega⟩ ho1 rfl 0 (by decide) (hts _ u_206) (fun _ h9 => h9) rfl dX0_copyFrom_1 ?_
  refine lv_aload_n hx hb dX0_copyFrom_4 rfl (lv_at hl 1 rfl) ?_
  obtain ⟨ho5, ho6, ho7, ho8⟩ := id hG
  refine g_get (ci := 2) (v := .ref (h2 + 1)) (C := RX0) (T := TX0) (N := 6) hx hb hts iU_X0 hown hK hM ⟨by omega, by omega⟩ ho5 rfl 0 (by decide) (hts _ u_206) (fun _ h9 => h9) rfl dX0_copyFrom_5 ?_
  have hC11 := c_X5_copyFrom l g b0 n f (h + 1) (h2 + 1) B B2 ho2 ho6 ⟨by omega, by omega⟩ ⟨by omega, by omega⟩ (by omega)
  obtain ⟨ho14, ho15, ho16, ho17, ho18⟩ := id ho2
  refine g_callVv (ci := 7) (C := RX5) (T := TX5) (N := 11) (As := [.ref (h2 + 1)]) (rest := []) ⟨hx, hb, hml, hown, hts⟩ hK hM hC11 (cuV (n := 1) hts u_561 u_558 u_4 (by decide) u_559 u_560 ⟨Nat.le_of_ble_eq_true rfl, Nat.le_of_ble_eq_true rfl⟩) ⟨by omega, by omega⟩ ho14 rfl rfl hl.1 rfl (Nat.le_of_ble_eq_true rfl) dX0_copyFrom_8 ⟨Nat.zero_le _, Nat.zero_le _⟩ (fun f12 H locs hM hp13 => ?_)
  obtain ⟨hn10, o9⟩ := hp13
  refine lv_aload_n hx hb dX0_copyFrom_11 rfl (lv_at hl 0 rfl) ?_
  have hf19 : f12 (h) = .inr (2, [.ref (h + 1), .ref (h + 24), .ref (h + 47), .int (zI (↑sc : Int)), .int (zI pr), .int (zI ex)]) := (o9 (h) (by omega)).trans ho1
  refine g_get (ci := 2) (v := .ref (h + 24)) (C := RX0) (T := TX0) (N := 6) hx hb hts iU_X0 hown hK hM ⟨by omega, by omega⟩ hf19 rfl 1 (by decide) (hts _ u_208) (fun _ h9 => h9) rfl dX0_copyFrom_12 ?_
  refine lv_aload_n hx hb dX0_copyFrom_15 rfl (lv_at hl 1 rfl) ?_
  have hf20 : f12 (h2) = .inr (2, [.ref (h2 + 1), .ref (h2 + 24), .ref (h2 + 47), .int (zI sc2), .int (zI pr2), .int (zI ex2)]) := (o9 (h2) (by omega)).trans ho5
  refine g_get (ci := 2) (v := .ref (h2 + 24)) (C := RX0) (T := TX0) (N := 6) hx hb hts iU_X0 hown hK hM ⟨by omega, by omega⟩ hf20 rfl 1 (by decide) (hts _ u_208) (fun _ h9 => h9) rfl dX0_copyFrom_16 ?_
  have hf21 := ho3.kept (fun q h1 h2 => (o9 (q) (by omega)))
  have hf22 := ho7.kept (fun q h1 h2 => (o9 (q) (by omega)))
  have hC25 := c_X5_copyFrom l g b0 n f12 (h + 24) (h2 + 24) P P2 hf21 hf22 ⟨by omega, by omega⟩ ⟨by omega, by omega⟩ (by omega)
  obtain ⟨ho28, ho29, ho30, ho31, ho32⟩ := id hf21
  refine g_callVv (ci := 7) (C := RX5) (T := TX5) (N := 11) (As := [.ref (h2 + 24)]) (rest := []) ⟨hx, hb, hml, hown, hts⟩ hK hM hC25 (cuV (n := 1) hts u_561 u_558 u_4 (by decide) u_559 u_560 ⟨Nat.le_of_ble_eq_true rfl, Nat.le_of_ble_eq_true rfl⟩) ⟨by omega, by omega⟩ ho28 rfl rfl hl.1 rfl (Nat.le_of_ble_eq_true rfl) dX0_copyFrom_19 ⟨Nat.zero_le _, Nat.zero_le _⟩ (fun f26 H locs hM hp27 => ?_)
  obtain ⟨hn24, o23⟩ := hp27
  refine lv_aload_n hx hb dX0_copyFrom_22 rfl (lv_at hl 1 rfl) ?_
  have hf33 : f26 (h2) = .inr (2, [.ref (h2 + 1), .ref (h2 + 24), .ref (h2 + 47), .int (zI sc2), .int (zI pr2), .int (zI ex2)]) := (o23 (h2) (by omega)).trans hf20
  refine g_get (ci := 2) (v := .ref (h2 + 47)) (C := RX0) (T := TX0) (N := 6) hx hb hts iU_X0 hown hK hM ⟨by omega, by omega⟩ hf33 rfl 2 (by decide) (hts _ u_211) (fun _ h9 => h9) rfl dX0_copyFrom_23 ?_
  refine g_iconst hx hb dX0_copyFrom_26 ?_
  refine lv_aload_n hx hb dX0_copyFrom_27 rfl (lv_at hl 0 rfl) ?_
  have hf34 : f26 (h) = .inr (2, [.ref (h + 1), .ref (h + 24), .ref (h + 47), .int (zI (↑sc : Int)), .int (zI pr), .int (zI ex)]) := (o23 (h) (by omega)).trans hf19
  refine g_get (ci := 2) (v := .ref (h + 47)) (C := RX0) (T := TX0) (N := 6) hx hb hts iU_X0 hown hK hM ⟨by omega, by omega⟩ hf34 rfl 2 (by decide) (hts _ u_211) (fun _ h9 => h9) rfl dX0_copyFrom_28 ?_
  refine g_iconst hx hb dX0_copyFrom_31 ?_
  refine g_sipush hx hb dX0_copyFrom_32 (by decide) ?_
  have hf35 := ho8.kept ((o23 (h2 + 47) (by omega)).trans (o9 (h2 + 47) (by omega)))
  have hf36 := ho4.kept ((o23 (h + 47) (by omega)).trans (o9 (h + 47) (by omega)))
  refine g_copyI hx hb (hml.trans hl.1.symm) hown (hts _ u_584) hts hK hM ⟨by omega, by omega⟩ ⟨by omega, by omega⟩ hf35 hf36 rfl (by decide) (Nat.le_of_ble_eq_true rfl) (Nat.le_of_ble_eq_true rfl) dX0_copyFrom_35 (fun f37 H locs hM ha39 o38 => ?_)
  refine lv_aload_n hx hb dX0_copyFrom_38 rfl (lv_at hl 0 rfl) ?_
  refine lv_aload_n hx hb dX0_copyFrom_39 rfl (lv_at hl 1 rfl) ?_
  have hf40 : f37 (h2) = .inr (2, [.ref (h2 + 1), .ref (h2 + 24), .ref (h2 + 47), .int (zI sc2), .int (zI pr2), .int (zI ex2)]) := (o38 (h2) (by omega)).trans hf33
  refine g_get (ci := 2) (v := .int (zI sc2)) (C := RX0) (T := TX0) (N := 6) hx hb hts iU_X0 hown hK hM ⟨by omega, by omega⟩ hf40 rfl 3 (by decide) (hts _ u_212) (fun _ h9 => h9) rfl dX0_copyFrom_40 ?_
  have hf41 : f37 (h) = .inr (2, [.ref (h + 1), .ref (h + 24), .ref (h + 47), .int (zI (↑sc : Int)), .int (zI pr), .int (zI ex)]) := (o38 (h) (by omega)).trans hf34
  refine g_put (ci := 2) (v := .int (zI sc2)) (ty := .int) (C := RX0) (T := TX0) (N := 6) hx hb hts iU_X0 tyX0 tyX0_ok nmX0 hown hK hM ⟨by omega, by omega⟩ hf41 rfl 3 (by decide) (hts _ u_212) (fun _ h9 => h9) rfl (by decide +kernel) rfl rfl (Nat.le_of_ble_eq_true rfl) dX0_copyFrom_43 (fun f42 H locs hM hf44 o43 => ?_)
  have hf44 : f42 (h) = .inr (2, [.ref (h + 1), .ref (h + 24), .ref (h + 47), .int (zI sc2), .int (zI pr), .int (zI ex)]) := hf44
  refine lv_aload_n hx hb dX0_copyFrom_46 rfl (lv_at hl 0 rfl) ?_
  refine lv_aload_n hx hb dX0_copyFrom_47 rfl (lv_at hl 1 rfl) ?_
  have hf45 : f42 (h2) = .inr (2, [.ref (h2 + 1), .ref (h2 + 24), .ref (h2 + 47), .int (zI sc2), .int (zI pr2), .int (zI ex2)]) := (o43 (h2) (by omega)).trans hf40
  refine g_get (ci := 2) (v := .int (zI pr2)) (C := RX0) (T := TX0) (N := 6) hx hb hts iU_X0 hown hK hM ⟨by omega, by omega⟩ hf45 rfl 4 (by decide) (hts _ u_214) (fun _ h9 => h9) rfl dX0_copyFrom_48 ?_
  refine g_put (ci := 2) (v := .int (zI pr2)) (ty := .int) (C := RX0) (T := TX0) (N := 6) hx hb hts iU_X0 tyX0 tyX0_ok nmX0 hown hK hM ⟨by omega, by omega⟩ hf44 rfl 4 (by decide) (hts _ u_214) (fun _ h9 => h9) rfl (by decide +kernel) rfl rfl (Nat.le_of_ble_eq_true rfl) dX0_copyFrom_51 (fun f46 H locs hM hf48 o47 => ?_)
  have hf48 : f46 (h) = .inr (2, [.ref (h + 1), .ref (h + 24), .ref (h + 47), .int (zI sc2), .int (zI pr2), .int (zI ex)]) := hf48
  refine lv_aload_n hx hb dX0_copyFrom_54 rfl (lv_at hl 0 rfl) ?_
  refine lv_aload_n hx hb dX0_copyFrom_55 rfl (lv_at hl 1 rfl) ?_
  have hf49 : f46 (h2) = .inr (2, [.ref (h2 + 1), .ref (h2 + 24), .ref (h2 + 47), .int (zI sc2), .int (zI pr2), .int (zI ex2)]) := (o47 (h2) (by omega)).trans hf45
  refine g_get (ci := 2) (v := .int (zI ex2)) (C := RX0) (T := TX0) (N := 6) hx hb hts iU_X0 hown hK hM ⟨by omega, by omega⟩ hf49 rfl 5 (by decide) (hts _ u_218) (fun _ h9 => h9) rfl dX0_copyFrom_56 ?_
  refine g_put (ci := 2) (v := .int (zI ex2)) (ty := .boolean) (C := RX0) (T := TX0) (N := 6) hx hb hts iU_X0 tyX0 tyX0_ok nmX0 hown hK hM ⟨by omega, by omega⟩ hf48 rfl 5 (by decide) (hts _ u_218) (fun _ h9 => h9) rfl (by decide +kernel) (zb_nar hx2) (zb_fit hx2) (Nat.le_of_ble_eq_true rfl) dX0_copyFrom_59 (fun f50 H locs hM hf52 o51 => ?_)
  have hf52 : f50 (h) = .inr (2, [.ref (h + 1), .ref (h + 24), .ref (h + 47), .int (zI sc2), .int (zI pr2), .int (zI ex2)]) := hf52
  have hf53 := hn10.kept (fun q h1 h2 => ((o51 (q) (by omega)).trans ((o47 (q) (by omega)).trans ((o43 (q) (by omega)).trans ((o38 (q) (by omega)).trans (o23 (q) (by omega)))))))
  have hf54 := hn24.kept (fun q h1 h2 => ((o51 (q) (by omega)).trans ((o47 (q) (by omega)).trans ((o43 (q) (by omega)).trans (o38 (q) (by omega))))))
  have hf55 := ha39.kept ((o51 (h + 47) (by omega)).trans ((o47 (h + 47) (by omega)).trans (o43 (h + 47) (by omega))))
  refine g_vret hx hb hr hlk hK hM dX0_copyFrom_62 ?_
  exact ⟨⟨hf52, hf53, hf54, hf55⟩, (fun q hq => ((o51 (q) (by omega)).trans ((o47 (q) (by omega)).trans ((o43 (q) (by omega)).trans ((o38 (q) (by omega)).trans ((o23 (q) (by omega)).trans (o9 (q) (by omega))))))))⟩

def po_X0_recordAllOf (g : gE) (f : gF) (h : Nat) (B P T : Nat → Int) (sc : Nat) (pr ex : Int) (h2 : Nat) (B2 P2 T2 : Nat → Int) (sc2 : Nat) (pr2 ex2 : Int) : gF → Prop := fun f1 => brAt g f1 h B P (rcAll T sc T2 sc2) (↑(sc + sc2) : Int) pr ex ∧ ∀ q, (q < h ∨ h + 48 ≤ q) → f1 q = f q
set_option maxRecDepth 100000 in
set_option maxHeartbeats 1000000 in
/-- recordAllOf(other) -/
theorem c_X0_recordAllOf (l : Launch) (g : gE) (b0 n : Nat) (f : gF) (h : Nat) (B P T : Nat → Int) (sc : Nat) (pr ex : Int) (h2 : Nat) (B2 P2 T2 : Nat → Int) (sc2 : Nat) (pr2 ex2 : Int) (hE : brAt g f h B P T (↑sc) pr ex) (hrg : b0 ≤ h ∧ h + 48 ≤ b0 + n) (hG : brAt g f h2 B2 P2 T2 (↑sc2) pr2 ex2) (hrg2 : b0 ≤ h2 ∧ h2 + 48 ≤ b0 + n) (hd : h + 48 ≤ h2 ∨ h2 + 48 ≤ h) (hs : sc + sc2 ≤ 60) : cV l yX0_recordAllOf cX0_recordAllOf 3 none 1 26 [.ref h, .ref h2] g b0 n f (po_X0_recordAllOf g f h B P T sc pr ex h2 B2 P2 T2 sc2 pr2 ex2) := by
  refine gs_v (cc := cX0_recordAllOf) (maxL := 3) (ret := none) (by decide) (Nat.le_of_ble_eq_true rfl) ?_
  intro p e0 s m args below meth c ls hx hb hr hml hown hts hlk hK hM hl
  have hl : lv_has ls 3 [(0, .ref h), (1, .ref h2)] := hl
  refine g_iconst hx hb dX0_recordAllOf_0 ?_
  refine lv_istore_n (lv' := [(2, .int (zI 0)), (0, .ref h), (1, .ref h2)]) hx hb dX0_recordAllOf_1 rfl hl (by decide) rfl (fun ls hl => ?_)
  have lp2 : ∀ (k : Nat), ∀ (i : Nat) (fL : gF) (H : Heap) (locs : List Loc) (ls : Array Slot), (sc2 - i < k) → (i ≤ sc2) → (∀ q, (q < h ∨ h + 48 ≤ q) → fL q = f q) → gH g b0 n fL s.heap H locs → (brAt g fL h B P (rcAll T sc T2 i) (↑(sc + i) : Int) pr ex) → (brAt g fL h2 B2 P2 T2 (↑sc2 : Int) pr2 ex2) → lv_has ls 3 [(0, .ref h), (1, .ref h2), (2, .int (zI (↑i : Int)))] → W p l e0 { frames := 1, cells := 0, slots := 0, locals := 26 } s m args below meth c H locs 0 0 (MQ below (va_Qv (po_X0_recordAllOf g f h B P T sc pr ex h2 B2 P2 T2 sc2 pr2 ex2) (gB g b0 n) (gA b0)) args s 0 0 (gA b0)) (F0 m 2 ls []) := by
    intro k
    induction k with
    | zero =>
      intro i fL H locs ls hk hi hfr hM hL1 hL2 hl
      exact absurd hk (Nat.not_lt_zero _)
    | succ k ih2 =>
      intro i fL H locs ls hk hi hfr hM hL1 hL2 hl
      refine lv_iload_n hx hb dX0_recordAllOf_2 rfl (lv_at hl 2 rfl) ?_
      refine lv_aload_n hx hb dX0_recordAllOf_3 rfl (lv_at hl 1 rfl) ?_
      obtain ⟨ho1, ho2, ho3, ho4⟩ := id hL2
      refine g_get (ci := 2) (v := .int (zI (↑sc2 : Int))) (C := RX0) (T := TX0) (N := 6) hx hb hts iU_X0 hown hK hM ⟨by omega, by omega⟩ ho1 rfl 3 (by decide) (hts _ u_212) (fun _ h9 => h9) rfl dX0_recordAllOf_4 ?_
      refine g_icmp_ge (tgt := 50) hx hb dX0_recordAllOf_7 (by decide) ⟨by omega, by omega⟩ ⟨by omega, by omega⟩ (fun c7 => ?_) (fun c7 => ?_)
      · skip
        refine g_vret hx hb hr hlk hK hM dX0_recordAllOf_50 ?_
        have hii : i = sc2 := by omega
        subst hii
        exact ⟨hL1, (fun q hq => (hfr (q) (by omega)))⟩
      · skip
        refine lv_aload_n hx hb dX0_recordAllOf_10 rfl (lv_at hl 0 rfl) ?_
        refine lv_aload_n hx hb dX0_recordAllOf_11 rfl (lv_at hl 1 rfl) ?_
        refine lv_iload_n hx hb dX0_recordAllOf_12 rfl (lv_at hl 2 rfl) ?_
        refine g_iconst hx hb dX0_recordAllOf_13 ?_
        have hC5 := c_X0_partOf l g b0 n fL h2 B2 P2 T2 sc2 pr2 ex2 i 0 hL2 hrg2 (by omega) (by omega)
        refine g_callVi (ci := 2) (C := RX0) (T := TX0) (N := 6) (As := [.int (zI (↑i : Int)), .int (zI 0)]) (rest := [.ref h]) ⟨hx, hb, hml, hown, hts⟩ hK hM hC5 (cuV (n := 2) hts u_1040 u_1061 u_3 (by decide) u_1038 u_1039 ⟨Nat.le_of_ble_eq_true rfl, Nat.le_of_ble_eq_true rfl⟩) ⟨by omega, by omega⟩ ho1 rfl rfl hl.1 rfl (Nat.le_of_ble_eq_true rfl) dX0_recordAllOf_14 ⟨Nat.zero_le _, Nat.zero_le _⟩ (fun r14 f6 H locs hM hp7 => ?_)
        obtain ⟨rfl, rfl⟩ := hp7
        refine lv_aload_n hx hb dX0_recordAllOf_17 rfl (lv_at hl 1 rfl) ?_
        refine lv_iload_n hx hb dX0_recordAllOf_18 rfl (lv_at hl 2 rfl) ?_
        refine g_iconst hx hb dX0_recordAllOf_19 ?_
        have hC8 := c_X0_partOf l g b0 n fL h2 B2 P2 T2 sc2 pr2 ex2 i 1 hL2 hrg2 (by omega) (by omega)
        refine g_callVi (ci := 2) (C := RX0) (T := TX0) (N := 6) (As := [.int (zI (↑i : Int)), .int (zI 1)]) (rest := [.int (zI (T2 (i * 5 + 0))), .ref h]) ⟨hx, hb, hml, hown, hts⟩ hK hM hC8 (cuV (n := 2) hts u_1040 u_1061 u_3 (by decide) u_1038 u_1039 ⟨Nat.le_of_ble_eq_true rfl, Nat.le_of_ble_eq_true rfl⟩) ⟨by omega, by omega⟩ ho1 rfl rfl hl.1 rfl (Nat.le_of_ble_eq_true rfl) dX0_recordAllOf_20 ⟨Nat.zero_le _, Nat.zero_le _⟩ (fun r20 f9 H locs hM hp10 => ?_)
        obtain ⟨rfl, rfl⟩ := hp10
        refine lv_aload_n hx hb dX0_recordAllOf_23 rfl (lv_at hl 1 rfl) ?_
        refine lv_iload_n hx hb dX0_recordAllOf_24 rfl (lv_at hl 2 rfl) ?_
        refine g_iconst hx hb dX0_recordAllOf_25 ?_
        have hC11 := c_X0_partOf l g b0 n fL h2 B2 P2 T2 sc2 pr2 ex2 i 2 hL2 hrg2 (by omega) (by omega)
        refine g_callVi (ci := 2) (C := RX0) (T := TX0) (N := 6) (As := [.int (zI (↑i : Int)), .int (zI 2)]) (rest := [.int (zI (T2 (i * 5 + 1))), .int (zI (T2 (i * 5 + 0))), .ref h]) ⟨hx, hb, hml, hown, hts⟩ hK hM hC11 (cuV (n := 2) hts u_1040 u_1061 u_3 (by decide) u_1038 u_1039 ⟨Nat.le_of_ble_eq_true rfl, Nat.le_of_ble_eq_true rfl⟩) ⟨by omega, by omega⟩ ho1 rfl rfl hl.1 rfl (Nat.le_of_ble_eq_true rfl) dX0_recordAllOf_26 ⟨Nat.zero_le _, Nat.zero_le _⟩ (fun r26 f12 H locs hM hp13 => ?_)
        obtain ⟨rfl, rfl⟩ := hp13
        refine lv_aload_n hx hb dX0_recordAllOf_29 rfl (lv_at hl 1 rfl) ?_
        refine lv_iload_n hx hb dX0_recordAllOf_30 rfl (lv_at hl 2 rfl) ?_
        refine g_iconst hx hb dX0_recordAllOf_31 ?_
        have hC14 := c_X0_partOf l g b0 n fL h2 B2 P2 T2 sc2 pr2 ex2 i 3 hL2 hrg2 (by omega) (by omega)
        refine g_callVi (ci := 2) (C := RX0) (T := TX0) (N := 6) (As := [.int (zI (↑i : Int)), .int (zI 3)]) (rest := [.int (zI (T2 (i * 5 + 2))), .int (zI (T2 (i * 5 + 1))), .int (zI (T2 (i * 5 + 0))), .ref h]) ⟨hx, hb, hml, hown, hts⟩ hK hM hC14 (cuV (n := 2) hts u_1040 u_1061 u_3 (by decide) u_1038 u_1039 ⟨Nat.le_of_ble_eq_true rfl, Nat.le_of_ble_eq_true rfl⟩) ⟨by omega, by omega⟩ ho1 rfl rfl hl.1 rfl (Nat.le_of_ble_eq_true rfl) dX0_recordAllOf_32 ⟨Nat.zero_le _, Nat.zero_le _⟩ (fun r32 f15 H locs hM hp16 => ?_)
        obtain ⟨rfl, rfl⟩ := hp16
        refine lv_aload_n hx hb dX0_recordAllOf_35 rfl (lv_at hl 1 rfl) ?_
        refine lv_iload_n hx hb dX0_recordAllOf_36 rfl (lv_at hl 2 rfl) ?_
        refine g_iconst hx hb dX0_recordAllOf_37 ?_
        have hC17 := c_X0_partOf l g b0 n fL h2 B2 P2 T2 sc2 pr2 ex2 i 4 hL2 hrg2 (by omega) (by omega)
        refine g_callVi (ci := 2) (C := RX0) (T := TX0) (N := 6) (As := [.int (zI (↑i : Int)), .int (zI 4)]) (rest := [.int (zI (T2 (i * 5 + 3))), .int (zI (T2 (i * 5 + 2))), .int (zI (T2 (i * 5 + 1))), .int (zI (T2 (i * 5 + 0))), .ref h]) ⟨hx, hb, hml, hown, hts⟩ hK hM hC17 (cuV (n := 2) hts u_1040 u_1061 u_3 (by decide) u_1038 u_1039 ⟨Nat.le_of_ble_eq_true rfl, Nat.le_of_ble_eq_true rfl⟩) ⟨by omega, by omega⟩ ho1 rfl rfl hl.1 rfl (Nat.le_of_ble_eq_true rfl) dX0_recordAllOf_38 ⟨Nat.zero_le _, Nat.zero_le _⟩ (fun r38 f18 H locs hM hp19 => ?_)
        obtain ⟨rfl, rfl⟩ := hp19
        have hC22 := c_X0_record l g b0 n fL h B P (rcAll T sc T2 i) (sc + i) pr ex (T2 (i * 5 + 0)) (T2 (i * 5 + 1)) (T2 (i * 5 + 2)) (T2 (i * 5 + 3)) (T2 (i * 5 + 4)) hL1 hrg (by omega)
        obtain ⟨ho25, ho26, ho27, ho28⟩ := id hL1
        refine g_callVv (ci := 2) (C := RX0) (T := TX0) (N := 6) (As := [.int (zI (T2 (i * 5 + 0))), .int (zI (T2 (i * 5 + 1))), .int (zI (T2 (i * 5 + 2))), .int (zI (T2 (i * 5 + 3))), .int (zI (T2 (i * 5 + 4)))]) (rest := []) ⟨hx, hb, hml, hown, hts⟩ hK hM hC22 (cuV (n := 5) hts u_545 u_1062 u_3 (by decide) u_543 u_544 ⟨Nat.le_of_ble_eq_true rfl, Nat.le_of_ble_eq_true rfl⟩) ⟨by omega, by omega⟩ ho25 rfl rfl hl.1 rfl (Nat.le_of_ble_eq_true rfl) dX0_recordAllOf_41 ⟨Nat.zero_le _, Nat.zero_le _⟩ (fun f23 H locs hM hp24 => ?_)
        obtain ⟨hn21, o20⟩ := hp24
        refine lv_iinc (v := zI ((↑i : Int) + 1)) (lv' := [(2, .int (zI ((↑i : Int) + 1))), (0, .ref h), (1, .ref h2)]) hx hb dX0_recordAllOf_44 hl (k := 2) rfl (zI_add _ _) (by decide) rfl (fun ls hl => ?_)
        refine lv_goto (tgt := 2) hx hb dX0_recordAllOf_47 (by decide) ?_
        have hf29 := hL2.kept (fun q h1 h2 => (o20 (q) (by omega)))
        exact ih2 (i + 1) f23 _ _ _ (by omega) (by omega) (fun q hq => ((o20 (q) (by omega)).trans (hfr (q) (by omega)))) hM hn21 hf29 (lv_sub hl [1, 2, 0] rfl)
  exact lp2 ((sc2 + 1)) 0 f _ _ _ (by omega) (by omega) (fun q hq => rfl) hM hE hG (lv_sub hl [1, 2, 0] rfl)
