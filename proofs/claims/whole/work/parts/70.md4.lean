theorem if_cg {q r : Prop} [Decidable q] [Decidable r] (h : q ↔ r) (x y : Int) : (if q then x else y) = if r then x else y := by
  by_cases hq : q
  · rw [if_pos hq, if_pos (h.mp hq)]
  · rw [if_neg hq, if_neg (fun z => hq (h.mpr z))]
def po_X9_isCap (g : gE) (f : gF) (a : Int) : Int32 → gF → Prop := fun r f1 => r = bI (-1 ≤ a ∧ a ≤ 9000000) ∧ f = f1
set_option maxRecDepth 100000 in
set_option maxHeartbeats 1000000 in
/-- isCap -/
theorem c_X9_isCap (l : Launch) (g : gE) (b0 n : Nat) (f : gF) (a : Int) (hra : rI a) : cI l yX9_isCap cX9_isCap 1 (some .boolean) 1 25 [.int (zI a)] g b0 n f (po_X9_isCap g f a) := by
  refine gs_i (cc := cX9_isCap) (maxL := 1) (ret := (some .boolean)) (by decide) (Nat.le_of_ble_eq_true rfl) ?_
  intro p e0 s m args below meth c ls hx hb hr hml hown hts hlk hK hM hl
  have hl : lv_has ls 1 [(0, .int (zI a))] := hl
  refine lv_iload_n hx hb dX9_isCap_0 rfl (lv_at hl 0 rfl) ?_
  refine g_i2l hx hb dX9_isCap_1 hra ?_
  refine g_ldc2 (z := -1) hx hb hown (hts _ u_1236) dX9_isCap_2 (by decide) ?_
  refine g_ldc2 (z := 9000000) hx hb hown (hts _ u_1237) dX9_isCap_5 (by decide) ?_
  have hC1 := c_X9_in l g b0 n f a (-1) 9000000 (rI_L hra) (by decide) (by decide)
  refine g_callSi (As := [.long (zL a), .long (zL (-1)), .long (zL 9000000)]) (rest := []) ⟨hx, hb, hml, hown, hts⟩ hK hM hC1 (cuS (n := 3) hts u_1240 u_1238 u_10 (by decide) u_1239 ⟨Nat.le_of_ble_eq_true rfl, Nat.le_of_ble_eq_true rfl⟩) rfl hl.1 rfl (Nat.le_of_ble_eq_true rfl) dX9_isCap_8 ⟨Nat.zero_le _, Nat.zero_le _⟩ (fun r8 f2 H locs hM hp3 => ?_)
  obtain ⟨rfl, rfl⟩ := hp3
  refine g_zret hx hb hr hlk hK hM dX9_isCap_11 (bI_nar _) ?_
  refine ⟨bI_iff ?_, rfl⟩
  omega

def po_X9_isNumber (g : gE) (f : gF) (k x : Int) : Int32 → gF → Prop := fun r f1 => r = bI (rnP k x) ∧ f = f1
set_option maxRecDepth 100000 in
set_option maxHeartbeats 1000000 in
/-- isNumber -/
theorem c_X9_isNumber (l : Launch) (g : gE) (b0 n : Nat) (f : gF) (k x : Int) (h1 : rI k) (h2 : rI x) : cI l yX9_isNumber cX9_isNumber 2 (some .boolean) 1 25 [.int (zI k), .int (zI x)] g b0 n f (po_X9_isNumber g f k x) := by
  refine gs_i (cc := cX9_isNumber) (maxL := 2) (ret := (some .boolean)) (by decide) (Nat.le_of_ble_eq_true rfl) ?_
  intro p e0 s m args below meth c ls hx hb hr hml hown hts hlk hK hM hl
  have hl : lv_has ls 2 [(0, .int (zI k)), (1, .int (zI x))] := hl
  refine lv_iload_n hx hb dX9_isNumber_0 rfl (lv_at hl 0 rfl) ?_
  have hz1 := zI_toInt (z := k) h1
  rcases g_sw (0) (4) k with c1 | c1
  · refine lv_tableOut (tgt := 76) hx hb dX9_isNumber_1 (by rw [hz1]; exact c1) (by decide) ?_
    refine g_iconst hx hb dX9_isNumber_76 ?_
    refine g_zret hx hb hr hlk hK hM dX9_isNumber_77 rfl ?_
    refine ⟨?_, rfl⟩
    show zI 0 = _
    first | exact (bI_t (by omega)).symm | exact (bI_f (by omega)).symm
  · rcases (show k = 0 ∨ k = 1 ∨ k = 2 ∨ k = 3 ∨ k = 4 by omega) with c1 | c1 | c1 | c1 | c1
    · refine lv_tableIn (off := 35) (tgt := 36) hx hb dX9_isNumber_1 (by rw [hz1, c1]; decide) (by rw [hz1, c1]; decide) (by rw [hz1, c1]; decide) (by decide) ?_
      refine lv_iload_n hx hb dX9_isNumber_36 rfl (lv_at hl 1 rfl) ?_
      refine g_i2l hx hb dX9_isNumber_37 h2 ?_
      refine g_lconst (z := 1) hx hb dX9_isNumber_38 (by decide) ?_
      refine g_ldc2 (z := 1000000) hx hb hown (hts _ u_1273) dX9_isNumber_39 (by decide) ?_
      have hC1 := c_X9_in l g b0 n f x 1 1000000 (rI_L h2) (by decide) (by decide)
      refine g_callSi (As := [.long (zL x), .long (zL 1), .long (zL 1000000)]) (rest := []) ⟨hx, hb, hml, hown, hts⟩ hK hM hC1 (cuS (n := 3) hts u_1240 u_1238 u_10 (by decide) u_1239 ⟨Nat.le_of_ble_eq_true rfl, Nat.le_of_ble_eq_true rfl⟩) rfl hl.1 rfl (Nat.le_of_ble_eq_true rfl) dX9_isNumber_42 ⟨Nat.zero_le _, Nat.zero_le _⟩ (fun r42 f2 H locs hM hp3 => ?_)
      obtain ⟨rfl, rfl⟩ := hp3
      refine g_zret hx hb hr hlk hK hM dX9_isNumber_45 (bI_nar _) ?_
      refine ⟨bI_iff ?_, rfl⟩
      omega
    · refine lv_tableIn (off := 45) (tgt := 46) hx hb dX9_isNumber_1 (by rw [hz1, c1]; decide) (by rw [hz1, c1]; decide) (by rw [hz1, c1]; decide) (by decide) ?_
      refine lv_iload_n hx hb dX9_isNumber_46 rfl (lv_at hl 1 rfl) ?_
      refine g_i2l hx hb dX9_isNumber_47 h2 ?_
      refine g_lconst (z := 1) hx hb dX9_isNumber_48 (by decide) ?_
      refine g_ldc2 (z := 100) hx hb hown (hts _ u_1274) dX9_isNumber_49 (by decide) ?_
      have hC4 := c_X9_in l g b0 n f x 1 100 (rI_L h2) (by decide) (by decide)
      refine g_callSi (As := [.long (zL x), .long (zL 1), .long (zL 100)]) (rest := []) ⟨hx, hb, hml, hown, hts⟩ hK hM hC4 (cuS (n := 3) hts u_1240 u_1238 u_10 (by decide) u_1239 ⟨Nat.le_of_ble_eq_true rfl, Nat.le_of_ble_eq_true rfl⟩) rfl hl.1 rfl (Nat.le_of_ble_eq_true rfl) dX9_isNumber_52 ⟨Nat.zero_le _, Nat.zero_le _⟩ (fun r52 f5 H locs hM hp6 => ?_)
      obtain ⟨rfl, rfl⟩ := hp6
      refine g_zret hx hb hr hlk hK hM dX9_isNumber_55 (bI_nar _) ?_
      refine ⟨bI_iff ?_, rfl⟩
      omega
    · refine lv_tableIn (off := 45) (tgt := 46) hx hb dX9_isNumber_1 (by rw [hz1, c1]; decide) (by rw [hz1, c1]; decide) (by rw [hz1, c1]; decide) (by decide) ?_
      refine lv_iload_n hx hb dX9_isNumber_46 rfl (lv_at hl 1 rfl) ?_
      refine g_i2l hx hb dX9_isNumber_47 h2 ?_
      refine g_lconst (z := 1) hx hb dX9_isNumber_48 (by decide) ?_
      refine g_ldc2 (z := 100) hx hb hown (hts _ u_1274) dX9_isNumber_49 (by decide) ?_
      have hC7 := c_X9_in l g b0 n f x 1 100 (rI_L h2) (by decide) (by decide)
      refine g_callSi (As := [.long (zL x), .long (zL 1), .long (zL 100)]) (rest := []) ⟨hx, hb, hml, hown, hts⟩ hK hM hC7 (cuS (n := 3) hts u_1240 u_1238 u_10 (by decide) u_1239 ⟨Nat.le_of_ble_eq_true rfl, Nat.le_of_ble_eq_true rfl⟩) rfl hl.1 rfl (Nat.le_of_ble_eq_true rfl) dX9_isNumber_52 ⟨Nat.zero_le _, Nat.zero_le _⟩ (fun r52 f8 H locs hM hp9 => ?_)
      obtain ⟨rfl, rfl⟩ := hp9
      refine g_zret hx hb hr hlk hK hM dX9_isNumber_55 (bI_nar _) ?_
      refine ⟨bI_iff ?_, rfl⟩
      omega
    · refine lv_tableIn (off := 55) (tgt := 56) hx hb dX9_isNumber_1 (by rw [hz1, c1]; decide) (by rw [hz1, c1]; decide) (by rw [hz1, c1]; decide) (by decide) ?_
      refine lv_iload_n hx hb dX9_isNumber_56 rfl (lv_at hl 1 rfl) ?_
      refine g_if_ne (tgt := 64) hx hb dX9_isNumber_57 (by decide) h2 (fun c57 => ?_) (fun c57 => ?_)
      · skip
        refine g_iconst hx hb dX9_isNumber_64 ?_
        refine g_zret hx hb hr hlk hK hM dX9_isNumber_65 rfl ?_
        refine ⟨?_, rfl⟩
        show zI 0 = _
        first | exact (bI_t (by omega)).symm | exact (bI_f (by omega)).symm
      · skip
        refine g_iconst hx hb dX9_isNumber_60 ?_
        refine lv_goto (tgt := 65) hx hb dX9_isNumber_61 (by decide) ?_
        refine g_zret hx hb hr hlk hK hM dX9_isNumber_65 rfl ?_
        refine ⟨?_, rfl⟩
        show zI 1 = _
        first | exact (bI_t (by omega)).symm | exact (bI_f (by omega)).symm
    · refine lv_tableIn (off := 65) (tgt := 66) hx hb dX9_isNumber_1 (by rw [hz1, c1]; decide) (by rw [hz1, c1]; decide) (by rw [hz1, c1]; decide) (by decide) ?_
      refine lv_iload_n hx hb dX9_isNumber_66 rfl (lv_at hl 1 rfl) ?_
      refine g_i2l hx hb dX9_isNumber_67 h2 ?_
      refine g_lconst (z := 1) hx hb dX9_isNumber_68 (by decide) ?_
      refine g_ldc2 (z := 99) hx hb hown (hts _ u_1275) dX9_isNumber_69 (by decide) ?_
      have hC10 := c_X9_in l g b0 n f x 1 99 (rI_L h2) (by decide) (by decide)
      refine g_callSi (As := [.long (zL x), .long (zL 1), .long (zL 99)]) (rest := []) ⟨hx, hb, hml, hown, hts⟩ hK hM hC10 (cuS (n := 3) hts u_1240 u_1238 u_10 (by decide) u_1239 ⟨Nat.le_of_ble_eq_true rfl, Nat.le_of_ble_eq_true rfl⟩) rfl hl.1 rfl (Nat.le_of_ble_eq_true rfl) dX9_isNumber_72 ⟨Nat.zero_le _, Nat.zero_le _⟩ (fun r72 f11 H locs hM hp12 => ?_)
      obtain ⟨rfl, rfl⟩ := hp12
      refine g_zret hx hb hr hlk hK hM dX9_isNumber_75 (bI_nar _) ?_
      refine ⟨bI_iff ?_, rfl⟩
      omega

def po_X9_refuses (g : gE) (f : gF) (h : Nat) (Z : Nat → Int) (iv why : Int) : Int32 → gF → Prop := fun r f1 => r = zI iv ∧ ∃ v15 : Int, mdO f1 h (pu Z 15 v15) ∧ (iv = 1 → v15 = why) ∧ (iv = 0 → v15 = 0) ∧ ∀ q, q ≠ h → f1 q = f q
set_option maxRecDepth 100000 in
set_option maxHeartbeats 1000000 in
/-- refuses -/
theorem c_X9_refuses (l : Launch) (g : gE) (b0 n : Nat) (f : gF) (h : Nat) (Z : Nat → Int) (iv why : Int) (hO : mdO f h Z) (hrg : b0 ≤ h ∧ h + 13 ≤ b0 + n) (hz : Z 15 = 0) (hiv : iv = 0 ∨ iv = 1) (hw : 1 ≤ why ∧ why ≤ 4) : cI l yX9_refuses cX9_refuses 3 (some .boolean) 0 0 [.ref h, .int (zI iv), .int (zI why)] g b0 n f (po_X9_refuses g f h Z iv why) := by
  refine gs_i (cc := cX9_refuses) (maxL := 3) (ret := (some .boolean)) (by decide) (Nat.le_of_ble_eq_true rfl) ?_
  intro p e0 s m args below meth c ls hx hb hr hml hown hts hlk hK hM hl
  have hl : lv_has ls 3 [(0, .ref h), (1, .int (zI iv)), (2, .int (zI why))] := hl
  refine lv_aload_n hx hb dX9_refuses_0 rfl (lv_at hl 0 rfl) ?_
  refine g_get (ci := 11) (v := .int (zI (Z 15))) (C := RX9) (T := TX9) (N := 24) hx hb hts iU_X9 hown hK hM ⟨by omega, by omega⟩ hO rfl 15 (by decide) (hts _ u_1159) (fun _ h9 => h9) rfl dX9_refuses_1 ?_
  refine g_if_ne (tgt := 16) hx hb dX9_refuses_4 (by decide) ⟨by omega, by omega⟩ (fun c4 => ?_) (fun c4 => ?_)
  · skip
    refine lv_aload_n hx hb dX9_refuses_16 rfl (lv_at hl 0 rfl) ?_
    refine g_get (ci := 11) (v := .int (zI (Z 15))) (C := RX9) (T := TX9) (N := 24) hx hb hts iU_X9 hown hK hM ⟨by omega, by omega⟩ hO rfl 15 (by decide) (hts _ u_1159) (fun _ h9 => h9) rfl dX9_refuses_17 ?_
    refine g_if_eq (tgt := 27) hx hb dX9_refuses_20 (by decide) ⟨by omega, by omega⟩ (fun c20 => ?_) (fun c20 => ?_)
    · skip
      refine g_iconst hx hb dX9_refuses_27 ?_
      refine g_zret hx hb hr hlk hK hM dX9_refuses_28 rfl ?_
      have hiv0 : iv = 0 := by omega
      exact ⟨by rw [hiv0], 0, (by have q9 := pu_id Z 15; rw [hz] at q9; rw [q9]; exact hO), fun hh => by omega, fun _ => rfl, (fun q hq => rfl)⟩
    · skip
      refine g_iconst hx hb dX9_refuses_23 ?_
      refine lv_goto (tgt := 28) hx hb dX9_refuses_24 (by decide) ?_
      refine g_zret hx hb hr hlk hK hM dX9_refuses_28 rfl ?_
      exfalso; omega
  · skip
    refine lv_iload_n hx hb dX9_refuses_7 rfl (lv_at hl 1 rfl) ?_
    refine g_if_eq (tgt := 16) hx hb dX9_refuses_8 (by decide) ⟨by omega, by omega⟩ (fun c8 => ?_) (fun c8 => ?_)
    · skip
      refine lv_aload_n hx hb dX9_refuses_16 rfl (lv_at hl 0 rfl) ?_
      refine g_get (ci := 11) (v := .int (zI (Z 15))) (C := RX9) (T := TX9) (N := 24) hx hb hts iU_X9 hown hK hM ⟨by omega, by omega⟩ hO rfl 15 (by decide) (hts _ u_1159) (fun _ h9 => h9) rfl dX9_refuses_17 ?_
      refine g_if_eq (tgt := 27) hx hb dX9_refuses_20 (by decide) ⟨by omega, by omega⟩ (fun c20 => ?_) (fun c20 => ?_)
      · skip
        refine g_iconst hx hb dX9_refuses_27 ?_
        refine g_zret hx hb hr hlk hK hM dX9_refuses_28 rfl ?_
        have hiv0 : iv = 0 := by omega
        exact ⟨by rw [hiv0], 0, (by have q9 := pu_id Z 15; rw [hz] at q9; rw [q9]; exact hO), fun hh => by omega, fun _ => rfl, (fun q hq => rfl)⟩
      · skip
        refine g_iconst hx hb dX9_refuses_23 ?_
        refine lv_goto (tgt := 28) hx hb dX9_refuses_24 (by decide) ?_
        refine g_zret hx hb hr hlk hK hM dX9_refuses_28 rfl ?_
        exfalso; omega
    · skip
      refine lv_aload_n hx hb dX9_refuses_11 rfl (lv_at hl 0 rfl) ?_
      refine lv_iload_n hx hb dX9_refuses_12 rfl (lv_at hl 2 rfl) ?_
      refine g_put (ci := 11) (v := .int (zI why)) (ty := .int) (C := RX9) (T := TX9) (N := 24) hx hb hts iU_X9 tyX9 tyX9_ok nmX9 hown hK hM ⟨by omega, by omega⟩ hO rfl 15 (by decide) (hts _ u_1159) (fun _ h9 => h9) rfl (by decide +kernel) rfl rfl (Nat.le_of_ble_eq_true rfl) dX9_refuses_13 (fun f1 H locs hM hf3 o2 => ?_)
      have hf3 : f1 (h) = .inr (11, [.int (zI (Z 0)), .ref (h + 1), .ref (h + 2), .ref (h + 3), .ref (h + 4), .ref (h + 5), .ref (h + 6), .ref (h + 7), .ref (h + 8), .int (zI (Z 9)), .int (zI (Z 10)), .int (zI (Z 11)), .int (zI (Z 12)), .int (zI (Z 13)), .int (zI (Z 14)), .int (zI why), .int (zI (Z 16)), .ref (h + 9), .ref (h + 10), .ref (h + 11), .int (zI (Z 20)), .int (zI (Z 21)), .int (zI (Z 22)), .ref (h + 12)]) := hf3
      refine lv_aload_n hx hb dX9_refuses_16 rfl (lv_at hl 0 rfl) ?_
      refine g_get (ci := 11) (v := .int (zI why)) (C := RX9) (T := TX9) (N := 24) hx hb hts iU_X9 hown hK hM ⟨by omega, by omega⟩ hf3 rfl 15 (by decide) (hts _ u_1159) (fun _ h9 => h9) rfl dX9_refuses_17 ?_
      refine g_if_eq (tgt := 27) hx hb dX9_refuses_20 (by decide) ⟨by omega, by omega⟩ (fun c20 => ?_) (fun c20 => ?_)
      · skip
        refine g_iconst hx hb dX9_refuses_27 ?_
        refine g_zret hx hb hr hlk hK hM dX9_refuses_28 rfl ?_
        exfalso; omega
      · skip
        refine g_iconst hx hb dX9_refuses_23 ?_
        refine lv_goto (tgt := 28) hx hb dX9_refuses_24 (by decide) ?_
        refine g_zret hx hb hr hlk hK hM dX9_refuses_28 rfl ?_
        have hiv1 : iv = 1 := by omega
        exact ⟨by rw [hiv1], why, hf3, fun _ => rfl, fun hh => by omega, (fun q hq => (o2 (q) (by omega)))⟩

def po_X9_row4 (g : gE) (f : gF) (h : Nat) (Z M : Nat → Int) (aa : Nat) (P : Nat → Int) (cc : Nat) (a b x y : Int) : Int32 → gF → Prop := fun r f1 => r = zI ↑cc ∧ mpAt g f1 h M aa (pu (pu (pu (pu (pu P (11 + 4 * cc) a) (12 + 4 * cc) b) (13 + 4 * cc) x) (14 + 4 * cc) y) 7 (↑cc + 1)) ∧ ∀ q, q ≠ h + 1 → f1 q = f q
set_option maxRecDepth 100000 in
set_option maxHeartbeats 1000000 in
/-- row 4 -/
theorem c_X9_row4 (l : Launch) (g : gE) (b0 n : Nat) (f : gF) (h : Nat) (Z M : Nat → Int) (aa : Nat) (P : Nat → Int) (cc : Nat) (a b x y : Int) (hO : mdO f h Z) (hP : mpAt g f h M aa P) (hrg : b0 ≤ h ∧ h + 13 ≤ b0 + n) (hat : Z 11 = ↑aa) (haa : aa + 147 ≤ 2058) (hcc : P 7 = ↑cc) (hcr : 11 + 4 * cc + 4 ≤ 147) (hra : rI a) (hrb : rI b) (hrx : rI x) (hry : rI y) : cI l yX9_row cX9_row 10 (some .int) 1 23 [.ref h, .int (zI 11), .int (zI 4), .int (zI 7), .int (zI a), .int (zI b), .int (zI x), .int (zI y)] g b0 n f (po_X9_row4 g f h Z M aa P cc a b x y) := by
  refine gs_i (cc := cX9_row) (maxL := 10) (ret := (some .int)) (by decide) (Nat.le_of_ble_eq_true rfl) ?_
  intro p e0 s m args below meth c ls hx hb hr hml hown hts hlk hK hM hl
  have hl : lv_has ls 10 [(0, .ref h), (1, .int (zI 11)), (2, .int (zI 4)), (3, .int (zI 7)), (4, .int (zI a)), (5, .int (zI b)), (6, .int (zI x)), (7, .int (zI y))] := hl
  refine lv_iload_n hx hb dX9_row_0 rfl (lv_at hl 1 rfl) ?_
  refine lv_iload_n hx hb dX9_row_1 rfl (lv_at hl 2 rfl) ?_
  refine lv_aload_n hx hb dX9_row_2 rfl (lv_at hl 0 rfl) ?_
  refine lv_iload_n hx hb dX9_row_3 rfl (lv_at hl 3 rfl) ?_
  have hC1 := c_X9_n l g b0 n f h Z M aa P 7 (7) hO hP hrg hat haa (by omega) (by omega)
  refine g_callVi (ci := 11) (C := RX9) (T := TX9) (N := 24) (As := [.int (zI 7)]) (rest := [.int (zI 4), .int (zI 11)]) ⟨hx, hb, hml, hown, hts⟩ hK hM hC1 (cuV (n := 1) hts u_1249 u_1246 u_10 (by decide) u_1248 us_30 ⟨Nat.le_of_ble_eq_true rfl, Nat.le_of_ble_eq_true rfl⟩) ⟨by omega, by omega⟩ hO rfl rfl hl.1 rfl (Nat.le_of_ble_eq_true rfl) dX9_row_4 ⟨Nat.zero_le _, Nat.zero_le _⟩ (fun r4 f2 H locs hM hp3 => ?_)
  obtain ⟨rfl, rfl⟩ := hp3
  rw [hcc]
  refine g_imul hx hb dX9_row_7 ?_
  refine g_iadd hx hb dX9_row_8 ?_
  refine lv_istore (lv' := [(8, .int (zI (11 + (4 * (↑cc : Int))))), (0, .ref h), (1, .int (zI 11)), (2, .int (zI 4)), (3, .int (zI 7)), (4, .int (zI a)), (5, .int (zI b)), (6, .int (zI x)), (7, .int (zI y))]) hx hb dX9_row_9 hl (by decide) rfl (fun ls hl => ?_)
  refine lv_aload_n hx hb dX9_row_11 rfl (lv_at hl 1 rfl) ?_
  refine lv_iload hx hb dX9_row_12 (lv_at hl 0 rfl) ?_
  refine lv_iload hx hb dX9_row_14 (lv_at hl 5 rfl) ?_
  refine g_i2l hx hb dX9_row_16 hra ?_
  have hC4 := c_X9_puts l g b0 n f h Z M aa P (11 + (4 * (↑cc : Int))) (11 + 4 * cc) a hO hP hrg hat haa (by omega) (by omega)
  refine g_callVv (ci := 11) (C := RX9) (T := TX9) (N := 24) (As := [.int (zI (11 + (4 * (↑cc : Int)))), .long (zL a)]) (rest := []) ⟨hx, hb, hml, hown, hts⟩ hK hM hC4 (cuV (n := 2) hts u_1257 u_1254 u_10 (by decide) u_1256 us_32 ⟨Nat.le_of_ble_eq_true rfl, Nat.le_of_ble_eq_true rfl⟩) ⟨by omega, by omega⟩ hO rfl rfl hl.1 rfl (Nat.le_of_ble_eq_true rfl) dX9_row_17 ⟨Nat.zero_le _, Nat.zero_le _⟩ (fun f5 H locs hM hp6 => ?_)
  obtain ⟨hn7, o8⟩ := hp6
  obtain ⟨Pz9, hPz9⟩ : ∃ Q : Nat → Int, Q = pu P (11 + 4 * cc) a := ⟨_, rfl⟩
  rw [← hPz9] at hn7
  refine lv_aload_n hx hb dX9_row_20 rfl (lv_at hl 1 rfl) ?_
  refine lv_iload hx hb dX9_row_21 (lv_at hl 0 rfl) ?_
  refine g_iconst hx hb dX9_row_23 ?_
  refine g_iadd hx hb dX9_row_24 ?_
  refine lv_iload hx hb dX9_row_25 (lv_at hl 6 rfl) ?_
  refine g_i2l hx hb dX9_row_27 hrb ?_
  have hf10 : f5 (h) = .inr (11, [.int (zI (Z 0)), .ref (h + 1), .ref (h + 2), .ref (h + 3), .ref (h + 4), .ref (h + 5), .ref (h + 6), .ref (h + 7), .ref (h + 8), .int (zI (Z 9)), .int (zI (Z 10)), .int (zI (Z 11)), .int (zI (Z 12)), .int (zI (Z 13)), .int (zI (Z 14)), .int (zI (Z 15)), .int (zI (Z 16)), .ref (h + 9), .ref (h + 10), .ref (h + 11), .int (zI (Z 20)), .int (zI (Z 21)), .int (zI (Z 22)), .ref (h + 12)]) := (o8 (h) (by omega)).trans hO
  have hC11 := c_X9_puts l g b0 n f5 h Z M aa Pz9 ((11 + (4 * (↑cc : Int))) + 1) (12 + 4 * cc) b hf10 hn7 hrg hat haa (by omega) (by omega)
  refine g_callVv (ci := 11) (C := RX9) (T := TX9) (N := 24) (As := [.int (zI ((11 + (4 * (↑cc : Int))) + 1)), .long (zL b)]) (rest := []) ⟨hx, hb, hml, hown, hts⟩ hK hM hC11 (cuV (n := 2) hts u_1257 u_1254 u_10 (by decide) u_1256 us_32 ⟨Nat.le_of_ble_eq_true rfl, Nat.le_of_ble_eq_true rfl⟩) ⟨by omega, by omega⟩ hf10 rfl rfl hl.1 rfl (Nat.le_of_ble_eq_true rfl) dX9_row_28 ⟨Nat.zero_le _, Nat.zero_le _⟩ (fun f12 H locs hM hp13 => ?_)
  obtain ⟨hn14, o15⟩ := hp13
  obtain ⟨Pz16, hPz16⟩ : ∃ Q : Nat → Int, Q = pu Pz9 (12 + 4 * cc) b := ⟨_, rfl⟩
  rw [← hPz16] at hn14
  refine lv_aload_n hx hb dX9_row_31 rfl (lv_at hl 1 rfl) ?_
  refine lv_iload hx hb dX9_row_32 (lv_at hl 0 rfl) ?_
  refine g_iconst hx hb dX9_row_34 ?_
  refine g_iadd hx hb dX9_row_35 ?_
  refine lv_iload hx hb dX9_row_36 (lv_at hl 7 rfl) ?_
  refine g_i2l hx hb dX9_row_38 hrx ?_
  have hf17 : f12 (h) = .inr (11, [.int (zI (Z 0)), .ref (h + 1), .ref (h + 2), .ref (h + 3), .ref (h + 4), .ref (h + 5), .ref (h + 6), .ref (h + 7), .ref (h + 8), .int (zI (Z 9)), .int (zI (Z 10)), .int (zI (Z 11)), .int (zI (Z 12)), .int (zI (Z 13)), .int (zI (Z 14)), .int (zI (Z 15)), .int (zI (Z 16)), .ref (h + 9), .ref (h + 10), .ref (h + 11), .int (zI (Z 20)), .int (zI (Z 21)), .int (zI (Z 22)), .ref (h + 12)]) := (o15 (h) (by omega)).trans hf10
  have hC18 := c_X9_puts l g b0 n f12 h Z M aa Pz16 ((11 + (4 * (↑cc : Int))) + 2) (13 + 4 * cc) x hf17 hn14 hrg hat haa (by omega) (by omega)
  refine g_callVv (ci := 11) (C := RX9) (T := TX9) (N := 24) (As := [.int (zI ((11 + (4 * (↑cc : Int))) + 2)), .long (zL x)]) (rest := []) ⟨hx, hb, hml, hown, hts⟩ hK hM hC18 (cuV (n := 2) hts u_1257 u_1254 u_10 (by decide) u_1256 us_32 ⟨Nat.le_of_ble_eq_true rfl, Nat.le_of_ble_eq_true rfl⟩) ⟨by omega, by omega⟩ hf17 rfl rfl hl.1 rfl (Nat.le_of_ble_eq_true rfl) dX9_row_39 ⟨Nat.zero_le _, Nat.zero_le _⟩ (fun f19 H locs hM hp20 => ?_)
  obtain ⟨hn21, o22⟩ := hp20
  obtain ⟨Pz23, hPz23⟩ : ∃ Q : Nat → Int, Q = pu Pz16 (13 + 4 * cc) x := ⟨_, rfl⟩
  rw [← hPz23] at hn21
  refine lv_iload_n hx hb dX9_row_42 rfl (lv_at hl 3 rfl) ?_
  refine g_iconst hx hb dX9_row_43 ?_
  refine g_icmp_le (tgt := 58) hx hb dX9_row_44 (by decide) (by decide) (by decide) (fun c44 => ?_) (fun c44 => ?_)
  · exact absurd c44 (by decide)
  · skip
    refine lv_aload_n hx hb dX9_row_47 rfl (lv_at hl 1 rfl) ?_
    refine lv_iload hx hb dX9_row_48 (lv_at hl 0 rfl) ?_
    refine g_iconst hx hb dX9_row_50 ?_
    refine g_iadd hx hb dX9_row_51 ?_
    refine lv_iload hx hb dX9_row_52 (lv_at hl 8 rfl) ?_
    refine g_i2l hx hb dX9_row_54 hry ?_
    have hf24 : f19 (h) = .inr (11, [.int (zI (Z 0)), .ref (h + 1), .ref (h + 2), .ref (h + 3), .ref (h + 4), .ref (h + 5), .ref (h + 6), .ref (h + 7), .ref (h + 8), .int (zI (Z 9)), .int (zI (Z 10)), .int (zI (Z 11)), .int (zI (Z 12)), .int (zI (Z 13)), .int (zI (Z 14)), .int (zI (Z 15)), .int (zI (Z 16)), .ref (h + 9), .ref (h + 10), .ref (h + 11), .int (zI (Z 20)), .int (zI (Z 21)), .int (zI (Z 22)), .ref (h + 12)]) := (o22 (h) (by omega)).trans hf17
    have hC25 := c_X9_puts l g b0 n f19 h Z M aa Pz23 ((11 + (4 * (↑cc : Int))) + 3) (14 + 4 * cc) y hf24 hn21 hrg hat haa (by omega) (by omega)
    refine g_callVv (ci := 11) (C := RX9) (T := TX9) (N := 24) (As := [.int (zI ((11 + (4 * (↑cc : Int))) + 3)), .long (zL y)]) (rest := []) ⟨hx, hb, hml, hown, hts⟩ hK hM hC25 (cuV (n := 2) hts u_1257 u_1254 u_10 (by decide) u_1256 us_32 ⟨Nat.le_of_ble_eq_true rfl, Nat.le_of_ble_eq_true rfl⟩) ⟨by omega, by omega⟩ hf24 rfl rfl hl.1 rfl (Nat.le_of_ble_eq_true rfl) dX9_row_55 ⟨Nat.zero_le _, Nat.zero_le _⟩ (fun f26 H locs hM hp27 => ?_)
    obtain ⟨hn28, o29⟩ := hp27
    obtain ⟨Pz30, hPz30⟩ : ∃ Q : Nat → Int, Q = pu Pz23 (14 + 4 * cc) y := ⟨_, rfl⟩
    rw [← hPz30] at hn28
    refine g_iconst hx hb dX9_row_58 ?_
    refine lv_istore (lv' := [(9, .int (zI 4)), (8, .int (zI (11 + (4 * (↑cc : Int))))), (0, .ref h), (1, .int (zI 11)), (2, .int (zI 4)), (3, .int (zI 7)), (4, .int (zI a)), (5, .int (zI b)), (6, .int (zI x)), (7, .int (zI y))]) hx hb dX9_row_59 hl (by decide) rfl (fun ls hl => ?_)
    refine lv_iload hx hb dX9_row_61 (lv_at hl 0 rfl) ?_
    refine lv_iload_n hx hb dX9_row_63 rfl (lv_at hl 4 rfl) ?_
    refine g_icmp_ge (tgt := 83) hx hb dX9_row_64 (by decide) (by decide) (by decide) (fun c64 => ?_) (fun c64 => ?_)
    · skip
      refine lv_aload_n hx hb dX9_row_83 rfl (lv_at hl 2 rfl) ?_
      refine lv_iload_n hx hb dX9_row_84 rfl (lv_at hl 5 rfl) ?_
      refine g_lconst (z := 1) hx hb dX9_row_85 (by decide) ?_
      have hf31 : f26 (h) = .inr (11, [.int (zI (Z 0)), .ref (h + 1), .ref (h + 2), .ref (h + 3), .ref (h + 4), .ref (h + 5), .ref (h + 6), .ref (h + 7), .ref (h + 8), .int (zI (Z 9)), .int (zI (Z 10)), .int (zI (Z 11)), .int (zI (Z 12)), .int (zI (Z 13)), .int (zI (Z 14)), .int (zI (Z 15)), .int (zI (Z 16)), .ref (h + 9), .ref (h + 10), .ref (h + 11), .int (zI (Z 20)), .int (zI (Z 21)), .int (zI (Z 22)), .ref (h + 12)]) := (o29 (h) (by omega)).trans hf24
      have hC32 := c_X9_adds l g b0 n f26 h Z M aa Pz30 7 (7) 1 hf31 hn28 hrg hat haa (by omega) (by omega)
      refine g_callVv (ci := 11) (C := RX9) (T := TX9) (N := 24) (As := [.int (zI 7), .long (zL 1)]) (rest := []) ⟨hx, hb, hml, hown, hts⟩ hK hM hC32 (cuV (n := 2) hts u_1261 u_1258 u_10 (by decide) u_1260 us_33 ⟨Nat.le_of_ble_eq_true rfl, Nat.le_of_ble_eq_true rfl⟩) ⟨by omega, by omega⟩ hf31 rfl rfl hl.1 rfl (Nat.le_of_ble_eq_true rfl) dX9_row_86 ⟨Nat.zero_le _, Nat.zero_le _⟩ (fun f33 H locs hM hp34 => ?_)
      obtain ⟨hn35, o36⟩ := hp34
      obtain ⟨Pz37, hPz37⟩ : ∃ Q : Nat → Int, Q = pu Pz30 (7) (Pz30 (7) + 1) := ⟨_, rfl⟩
      rw [← hPz37] at hn35
      have hpb9 : Pz30 7 = ↑cc := by rw [hPz30, pu_n (by omega), hPz23, pu_n (by omega), hPz16, pu_n (by omega), hPz9, pu_n (by omega), hcc]
      have hpc9 : Pz37 7 = ↑cc + 1 := by rw [hPz37, pu_s, hpb9]
      refine lv_aload_n hx hb dX9_row_89 rfl (lv_at hl 2 rfl) ?_
      refine lv_iload_n hx hb dX9_row_90 rfl (lv_at hl 5 rfl) ?_
      have hf38 : f33 (h) = .inr (11, [.int (zI (Z 0)), .ref (h + 1), .ref (h + 2), .ref (h + 3), .ref (h + 4), .ref (h + 5), .ref (h + 6), .ref (h + 7), .ref (h + 8), .int (zI (Z 9)), .int (zI (Z 10)), .int (zI (Z 11)), .int (zI (Z 12)), .int (zI (Z 13)), .int (zI (Z 14)), .int (zI (Z 15)), .int (zI (Z 16)), .ref (h + 9), .ref (h + 10), .ref (h + 11), .int (zI (Z 20)), .int (zI (Z 21)), .int (zI (Z 22)), .ref (h + 12)]) := (o36 (h) (by omega)).trans hf31
      have hC39 := c_X9_n l g b0 n f33 h Z M aa Pz37 7 (7) hf38 hn35 hrg hat haa (by omega) (by omega)
      refine g_callVi (ci := 11) (C := RX9) (T := TX9) (N := 24) (As := [.int (zI 7)]) (rest := []) ⟨hx, hb, hml, hown, hts⟩ hK hM hC39 (cuV (n := 1) hts u_1249 u_1246 u_10 (by decide) u_1248 us_30 ⟨Nat.le_of_ble_eq_true rfl, Nat.le_of_ble_eq_true rfl⟩) ⟨by omega, by omega⟩ hf38 rfl rfl hl.1 rfl (Nat.le_of_ble_eq_true rfl) dX9_row_91 ⟨Nat.zero_le _, Nat.zero_le _⟩ (fun r91 f40 H locs hM hp41 => ?_)
      obtain ⟨rfl, rfl⟩ := hp41
      rw [hpc9]
      refine g_iconst hx hb dX9_row_94 ?_
      refine g_isub hx hb dX9_row_95 ?_
      refine g_iret hx hb hr hlk hK hM dX9_row_96 ?_
      have hS : Pz37 = (pu (pu (pu (pu (pu P (11 + 4 * cc) a) (12 + 4 * cc) b) (13 + 4 * cc) x) (14 + 4 * cc) y) 7 (↑cc + 1)) := by
        rw [hPz37, hpb9, hPz30, hPz23, hPz16, hPz9]
        all_goals rfl
      refine ⟨congrArg zI (by omega), ?_, (fun q hq => ((o36 (q) (by omega)).trans ((o29 (q) (by omega)).trans ((o22 (q) (by omega)).trans ((o15 (q) (by omega)).trans (o8 (q) (by omega)))))))⟩
      rw [← hS]
      exact hn35
    · exact absurd (by decide) c64

def po_X9_row3 (g : gE) (f : gF) (h : Nat) (Z M : Nat → Int) (aa : Nat) (P : Nat → Int) (cc : Nat) (a b x y : Int) : Int32 → gF → Prop := fun r f1 => r = zI ↑cc ∧ mpAt g f1 h M aa (sApp3 P cc a b x) ∧ ∀ q, q ≠ h + 1 → f1 q = f q
set_option maxRecDepth 100000 in
set_option maxHeartbeats 1000000 in
/-- row 3 -/
theorem c_X9_row3 (l : Launch) (g : gE) (b0 n : Nat) (f : gF) (h : Nat) (Z M : Nat → Int) (aa : Nat) (P : Nat → Int) (cc : Nat) (a b x y : Int) (hO : mdO f h Z) (hP : mpAt g f h M aa P) (hrg : b0 ≤ h ∧ h + 13 ≤ b0 + n) (hat : Z 11 = ↑aa) (haa : aa + 147 ≤ 2058) (hcc : P 8 = ↑cc) (hcr : 51 + 3 * cc + 3 ≤ 147) (hra : rI a) (hrb : rI b) (hrx : rI x) (hry : rI y) : cI l yX9_row cX9_row 10 (some .int) 1 23 [.ref h, .int (zI 51), .int (zI 3), .int (zI 8), .int (zI a), .int (zI b), .int (zI x), .int (zI y)] g b0 n f (po_X9_row3 g f h Z M aa P cc a b x y) := by
  refine gs_i (cc := cX9_row) (maxL := 10) (ret := (some .int)) (by decide) (Nat.le_of_ble_eq_true rfl) ?_
  intro p e0 s m args below meth c ls hx hb hr hml hown hts hlk hK hM hl
  have hl : lv_has ls 10 [(0, .ref h), (1, .int (zI 51)), (2, .int (zI 3)), (3, .int (zI 8)), (4, .int (zI a)), (5, .int (zI b)), (6, .int (zI x)), (7, .int (zI y))] := hl
  refine lv_iload_n hx hb dX9_row_0 rfl (lv_at hl 1 rfl) ?_
  refine lv_iload_n hx hb dX9_row_1 rfl (lv_at hl 2 rfl) ?_
  refine lv_aload_n hx hb dX9_row_2 rfl (lv_at hl 0 rfl) ?_
  refine lv_iload_n hx hb dX9_row_3 rfl (lv_at hl 3 rfl) ?_
  have hC1 := c_X9_n l g b0 n f h Z M aa P 8 (8) hO hP hrg hat haa (by omega) (by omega)
  refine g_callVi (ci := 11) (C := RX9) (T := TX9) (N := 24) (As := [.int (zI 8)]) (rest := [.int (zI 3), .int (zI 51)]) ⟨hx, hb, hml, hown, hts⟩ hK hM hC1 (cuV (n := 1) hts u_1249 u_1246 u_10 (by decide) u_1248 us_30 ⟨Nat.le_of_ble_eq_true rfl, Nat.le_of_ble_eq_true rfl⟩) ⟨by omega, by omega⟩ hO rfl rfl hl.1 rfl (Nat.le_of_ble_eq_true rfl) dX9_row_4 ⟨Nat.zero_le _, Nat.zero_le _⟩ (fun r4 f2 H locs hM hp3 => ?_)
  obtain ⟨rfl, rfl⟩ := hp3
  rw [hcc]
  refine g_imul hx hb dX9_row_7 ?_
  refine g_iadd hx hb dX9_row_8 ?_
  refine lv_istore (lv' := [(8, .int (zI (51 + (3 * (↑cc : Int))))), (0, .ref h), (1, .int (zI 51)), (2, .int (zI 3)), (3, .int (zI 8)), (4, .int (zI a)), (5, .int (zI b)), (6, .int (zI x)), (7, .int (zI y))]) hx hb dX9_row_9 hl (by decide) rfl (fun ls hl => ?_)
  refine lv_aload_n hx hb dX9_row_11 rfl (lv_at hl 1 rfl) ?_
  refine lv_iload hx hb dX9_row_12 (lv_at hl 0 rfl) ?_
  refine lv_iload hx hb dX9_row_14 (lv_at hl 5 rfl) ?_
  refine g_i2l hx hb dX9_row_16 hra ?_
  have hC4 := c_X9_puts l g b0 n f h Z M aa P (51 + (3 * (↑cc : Int))) (51 + 3 * cc) a hO hP hrg hat haa (by omega) (by omega)
  refine g_callVv (ci := 11) (C := RX9) (T := TX9) (N := 24) (As := [.int (zI (51 + (3 * (↑cc : Int)))), .long (zL a)]) (rest := []) ⟨hx, hb, hml, hown, hts⟩ hK hM hC4 (cuV (n := 2) hts u_1257 u_1254 u_10 (by decide) u_1256 us_32 ⟨Nat.le_of_ble_eq_true rfl, Nat.le_of_ble_eq_true rfl⟩) ⟨by omega, by omega⟩ hO rfl rfl hl.1 rfl (Nat.le_of_ble_eq_true rfl) dX9_row_17 ⟨Nat.zero_le _, Nat.zero_le _⟩ (fun f5 H locs hM hp6 => ?_)
  obtain ⟨hn7, o8⟩ := hp6
  obtain ⟨Pz9, hPz9⟩ : ∃ Q : Nat → Int, Q = pu P (51 + 3 * cc) a := ⟨_, rfl⟩
  rw [← hPz9] at hn7
  refine lv_aload_n hx hb dX9_row_20 rfl (lv_at hl 1 rfl) ?_
  refine lv_iload hx hb dX9_row_21 (lv_at hl 0 rfl) ?_
  refine g_iconst hx hb dX9_row_23 ?_
  refine g_iadd hx hb dX9_row_24 ?_
  refine lv_iload hx hb dX9_row_25 (lv_at hl 6 rfl) ?_
  refine g_i2l hx hb dX9_row_27 hrb ?_
  have hf10 : f5 (h) = .inr (11, [.int (zI (Z 0)), .ref (h + 1), .ref (h + 2), .ref (h + 3), .ref (h + 4), .ref (h + 5), .ref (h + 6), .ref (h + 7), .ref (h + 8), .int (zI (Z 9)), .int (zI (Z 10)), .int (zI (Z 11)), .int (zI (Z 12)), .int (zI (Z 13)), .int (zI (Z 14)), .int (zI (Z 15)), .int (zI (Z 16)), .ref (h + 9), .ref (h + 10), .ref (h + 11), .int (zI (Z 20)), .int (zI (Z 21)), .int (zI (Z 22)), .ref (h + 12)]) := (o8 (h) (by omega)).trans hO
  have hC11 := c_X9_puts l g b0 n f5 h Z M aa Pz9 ((51 + (3 * (↑cc : Int))) + 1) (52 + 3 * cc) b hf10 hn7 hrg hat haa (by omega) (by omega)
  refine g_callVv (ci := 11) (C := RX9) (T := TX9) (N := 24) (As := [.int (zI ((51 + (3 * (↑cc : Int))) + 1)), .long (zL b)]) (rest := []) ⟨hx, hb, hml, hown, hts⟩ hK hM hC11 (cuV (n := 2) hts u_1257 u_1254 u_10 (by decide) u_1256 us_32 ⟨Nat.le_of_ble_eq_true rfl, Nat.le_of_ble_eq_true rfl⟩) ⟨by omega, by omega⟩ hf10 rfl rfl hl.1 rfl (Nat.le_of_ble_eq_true rfl) dX9_row_28 ⟨Nat.zero_le _, Nat.zero_le _⟩ (fun f12 H locs hM hp13 => ?_)
  obtain ⟨hn14, o15⟩ := hp13
  obtain ⟨Pz16, hPz16⟩ : ∃ Q : Nat → Int, Q = pu Pz9 (52 + 3 * cc) b := ⟨_, rfl⟩
  rw [← hPz16] at hn14
  refine lv_aload_n hx hb dX9_row_31 rfl (lv_at hl 1 rfl) ?_
  refine lv_iload hx hb dX9_row_32 (lv_at hl 0 rfl) ?_
  refine g_iconst hx hb dX9_row_34 ?_
  refine g_iadd hx hb dX9_row_35 ?_
  refine lv_iload hx hb dX9_row_36 (lv_at hl 7 rfl) ?_
  refine g_i2l hx hb dX9_row_38 hrx ?_
  have hf17 : f12 (h) = .inr (11, [.int (zI (Z 0)), .ref (h + 1), .ref (h + 2), .ref (h + 3), .ref (h + 4), .ref (h + 5), .ref (h + 6), .ref (h + 7), .ref (h + 8), .int (zI (Z 9)), .int (zI (Z 10)), .int (zI (Z 11)), .int (zI (Z 12)), .int (zI (Z 13)), .int (zI (Z 14)), .int (zI (Z 15)), .int (zI (Z 16)), .ref (h + 9), .ref (h + 10), .ref (h + 11), .int (zI (Z 20)), .int (zI (Z 21)), .int (zI (Z 22)), .ref (h + 12)]) := (o15 (h) (by omega)).trans hf10
  have hC18 := c_X9_puts l g b0 n f12 h Z M aa Pz16 ((51 + (3 * (↑cc : Int))) + 2) (53 + 3 * cc) x hf17 hn14 hrg hat haa (by omega) (by omega)
  refine g_callVv (ci := 11) (C := RX9) (T := TX9) (N := 24) (As := [.int (zI ((51 + (3 * (↑cc : Int))) + 2)), .long (zL x)]) (rest := []) ⟨hx, hb, hml, hown, hts⟩ hK hM hC18 (cuV (n := 2) hts u_1257 u_1254 u_10 (by decide) u_1256 us_32 ⟨Nat.le_of_ble_eq_true rfl, Nat.le_of_ble_eq_true rfl⟩) ⟨by omega, by omega⟩ hf17 rfl rfl hl.1 rfl (Nat.le_of_ble_eq_true rfl) dX9_row_39 ⟨Nat.zero_le _, Nat.zero_le _⟩ (fun f19 H locs hM hp20 => ?_)
  obtain ⟨hn21, o22⟩ := hp20
  obtain ⟨Pz23, hPz23⟩ : ∃ Q : Nat → Int, Q = pu Pz16 (53 + 3 * cc) x := ⟨_, rfl⟩
  rw [← hPz23] at hn21
  refine lv_iload_n hx hb dX9_row_42 rfl (lv_at hl 3 rfl) ?_
  refine g_iconst hx hb dX9_row_43 ?_
  refine g_icmp_le (tgt := 58) hx hb dX9_row_44 (by decide) (by decide) (by decide) (fun c44 => ?_) (fun c44 => ?_)
  · skip
    refine g_iconst hx hb dX9_row_58 ?_
    refine lv_istore (lv' := [(9, .int (zI 4)), (8, .int (zI (51 + (3 * (↑cc : Int))))), (0, .ref h), (1, .int (zI 51)), (2, .int (zI 3)), (3, .int (zI 8)), (4, .int (zI a)), (5, .int (zI b)), (6, .int (zI x)), (7, .int (zI y))]) hx hb dX9_row_59 hl (by decide) rfl (fun ls hl => ?_)
    refine lv_iload hx hb dX9_row_61 (lv_at hl 0 rfl) ?_
    refine lv_iload_n hx hb dX9_row_63 rfl (lv_at hl 4 rfl) ?_
    refine g_icmp_ge (tgt := 83) hx hb dX9_row_64 (by decide) (by decide) (by decide) (fun c64 => ?_) (fun c64 => ?_)
    · skip
      refine lv_aload_n hx hb dX9_row_83 rfl (lv_at hl 2 rfl) ?_
      refine lv_iload_n hx hb dX9_row_84 rfl (lv_at hl 5 rfl) ?_
      refine g_lconst (z := 1) hx hb dX9_row_85 (by decide) ?_
      have hf24 : f19 (h) = .inr (11, [.int (zI (Z 0)), .ref (h + 1), .ref (h + 2), .ref (h + 3), .ref (h + 4), .ref (h + 5), .ref (h + 6), .ref (h + 7), .ref (h + 8), .int (zI (Z 9)), .int (zI (Z 10)), .int (zI (Z 11)), .int (zI (Z 12)), .int (zI (Z 13)), .int (zI (Z 14)), .int (zI (Z 15)), .int (zI (Z 16)), .ref (h + 9), .ref (h + 10), .ref (h + 11), .int (zI (Z 20)), .int (zI (Z 21)), .int (zI (Z 22)), .ref (h + 12)]) := (o22 (h) (by omega)).trans hf17
      have hC25 := c_X9_adds l g b0 n f19 h Z M aa Pz23 8 (8) 1 hf24 hn21 hrg hat haa (by omega) (by omega)
      refine g_callVv (ci := 11) (C := RX9) (T := TX9) (N := 24) (As := [.int (zI 8), .long (zL 1)]) (rest := []) ⟨hx, hb, hml, hown, hts⟩ hK hM hC25 (cuV (n := 2) hts u_1261 u_1258 u_10 (by decide) u_1260 us_33 ⟨Nat.le_of_ble_eq_true rfl, Nat.le_of_ble_eq_true rfl⟩) ⟨by omega, by omega⟩ hf24 rfl rfl hl.1 rfl (Nat.le_of_ble_eq_true rfl) dX9_row_86 ⟨Nat.zero_le _, Nat.zero_le _⟩ (fun f26 H locs hM hp27 => ?_)
      obtain ⟨hn28, o29⟩ := hp27
      obtain ⟨Pz30, hPz30⟩ : ∃ Q : Nat → Int, Q = pu Pz23 (8) (Pz23 (8) + 1) := ⟨_, rfl⟩
      rw [← hPz30] at hn28
      have hpb9 : Pz23 8 = ↑cc := by rw [hPz23, pu_n (by omega), hPz16, pu_n (by omega), hPz9, pu_n (by omega), hcc]
      have hpc9 : Pz30 8 = ↑cc + 1 := by rw [hPz30, pu_s, hpb9]
      refine lv_aload_n hx hb dX9_row_89 rfl (lv_at hl 2 rfl) ?_
      refine lv_iload_n hx hb dX9_row_90 rfl (lv_at hl 5 rfl) ?_
      have hf31 : f26 (h) = .inr (11, [.int (zI (Z 0)), .ref (h + 1), .ref (h + 2), .ref (h + 3), .ref (h + 4), .ref (h + 5), .ref (h + 6), .ref (h + 7), .ref (h + 8), .int (zI (Z 9)), .int (zI (Z 10)), .int (zI (Z 11)), .int (zI (Z 12)), .int (zI (Z 13)), .int (zI (Z 14)), .int (zI (Z 15)), .int (zI (Z 16)), .ref (h + 9), .ref (h + 10), .ref (h + 11), .int (zI (Z 20)), .int (zI (Z 21)), .int (zI (Z 22)), .ref (h + 12)]) := (o29 (h) (by omega)).trans hf24
      have hC32 := c_X9_n l g b0 n f26 h Z M aa Pz30 8 (8) hf31 hn28 hrg hat haa (by omega) (by omega)
      refine g_callVi (ci := 11) (C := RX9) (T := TX9) (N := 24) (As := [.int (zI 8)]) (rest := []) ⟨hx, hb, hml, hown, hts⟩ hK hM hC32 (cuV (n := 1) hts u_1249 u_1246 u_10 (by decide) u_1248 us_30 ⟨Nat.le_of_ble_eq_true rfl, Nat.le_of_ble_eq_true rfl⟩) ⟨by omega, by omega⟩ hf31 rfl rfl hl.1 rfl (Nat.le_of_ble_eq_true rfl) dX9_row_91 ⟨Nat.zero_le _, Nat.zero_le _⟩ (fun r91 f33 H locs hM hp34 => ?_)
      obtain ⟨rfl, rfl⟩ := hp34
      rw [hpc9]
      refine g_iconst hx hb dX9_row_94 ?_
      refine g_isub hx hb dX9_row_95 ?_
      refine g_iret hx hb hr hlk hK hM dX9_row_96 ?_
      have hS : Pz30 = (sApp3 P cc a b x) := by
        rw [hPz30, hpb9, hPz23, hPz16, hPz9]
        all_goals rfl
      refine ⟨congrArg zI (by omega), ?_, (fun q hq => ((o29 (q) (by omega)).trans ((o22 (q) (by omega)).trans ((o15 (q) (by omega)).trans (o8 (q) (by omega))))))⟩
      rw [← hS]
      exact hn28
    · exact absurd (by decide) c64
  · exact absurd (by decide) c44

def po_X9_row5 (g : gE) (f : gF) (h : Nat) (Z M : Nat → Int) (aa : Nat) (P : Nat → Int) (cc : Nat) (a b x y : Int) : Int32 → gF → Prop := fun r f1 => r = zI ↑cc ∧ mpAt g f1 h M aa (sApp5 P cc a b x y) ∧ ∀ q, q ≠ h + 1 → f1 q = f q
set_option maxRecDepth 100000 in
set_option maxHeartbeats 1000000 in
/-- row 5 -/
theorem c_X9_row5 (l : Launch) (g : gE) (b0 n : Nat) (f : gF) (h : Nat) (Z M : Nat → Int) (aa : Nat) (P : Nat → Int) (cc : Nat) (a b x y : Int) (hO : mdO f h Z) (hP : mpAt g f h M aa P) (hrg : b0 ≤ h ∧ h + 13 ≤ b0 + n) (hat : Z 11 = ↑aa) (haa : aa + 147 ≤ 2058) (hcc : P 9 = ↑cc) (hcr : 69 + 5 * cc + 5 ≤ 147) (hra : rI a) (hrb : rI b) (hrx : rI x) (hry : rI y) : cI l yX9_row cX9_row 10 (some .int) 1 23 [.ref h, .int (zI 69), .int (zI 5), .int (zI 9), .int (zI a), .int (zI b), .int (zI x), .int (zI y)] g b0 n f (po_X9_row5 g f h Z M aa P cc a b x y) := by
  refine gs_i (cc := cX9_row) (maxL := 10) (ret := (some .int)) (by decide) (Nat.le_of_ble_eq_true rfl) ?_
  intro p e0 s m args below meth c ls hx hb hr hml hown hts hlk hK hM hl
  have hl : lv_has ls 10 [(0, .ref h), (1, .int (zI 69)), (2, .int (zI 5)), (3, .int (zI 9)), (4, .int (zI a)), (5, .int (zI b)), (6, .int (zI x)), (7, .int (zI y))] := hl
  refine lv_iload_n hx hb dX9_row_0 rfl (lv_at hl 1 rfl) ?_
  refine lv_iload_n hx hb dX9_row_1 rfl (lv_at hl 2 rfl) ?_
  refine lv_aload_n hx hb dX9_row_2 rfl (lv_at hl 0 rfl) ?_
  refine lv_iload_n hx hb dX9_row_3 rfl (lv_at hl 3 rfl) ?_
  have hC1 := c_X9_n l g b0 n f h Z M aa P 9 (9) hO hP hrg hat haa (by omega) (by omega)
  refine g_callVi (ci := 11) (C := RX9) (T := TX9) (N := 24) (As := [.int (zI 9)]) (rest := [.int (zI 5), .int (zI 69)]) ⟨hx, hb, hml, hown, hts⟩ hK hM hC1 (cuV (n := 1) hts u_1249 u_1246 u_10 (by decide) u_1248 us_30 ⟨Nat.le_of_ble_eq_true rfl, Nat.le_of_ble_eq_true rfl⟩) ⟨by omega, by omega⟩ hO rfl rfl hl.1 rfl (Nat.le_of_ble_eq_true rfl) dX9_row_4 ⟨Nat.zero_le _, Nat.zero_le _⟩ (fun r4 f2 H locs hM hp3 => ?_)
  obtain ⟨rfl, rfl⟩ := hp3
  rw [hcc]
  refine g_imul hx hb dX9_row_7 ?_
  refine g_iadd hx hb dX9_row_8 ?_
  refine lv_istore (lv' := [(8, .int (zI (69 + (5 * (↑cc : Int))))), (0, .ref h), (1, .int (zI 69)), (2, .int (zI 5)), (3, .int (zI 9)), (4, .int (zI a)), (5, .int (zI b)), (6, .int (zI x)), (7, .int (zI y))]) hx hb dX9_row_9 hl (by decide) rfl (fun ls hl => ?_)
  refine lv_aload_n hx hb dX9_row_11 rfl (lv_at hl 1 rfl) ?_
  refine lv_iload hx hb dX9_row_12 (lv_at hl 0 rfl) ?_
  refine lv_iload hx hb dX9_row_14 (lv_at hl 5 rfl) ?_
  refine g_i2l hx hb dX9_row_16 hra ?_
  have hC4 := c_X9_puts l g b0 n f h Z M aa P (69 + (5 * (↑cc : Int))) (69 + 5 * cc) a hO hP hrg hat haa (by omega) (by omega)
  refine g_callVv (ci := 11) (C := RX9) (T := TX9) (N := 24) (As := [.int (zI (69 + (5 * (↑cc : Int)))), .long (zL a)]) (rest := []) ⟨hx, hb, hml, hown, hts⟩ hK hM hC4 (cuV (n := 2) hts u_1257 u_1254 u_10 (by decide) u_1256 us_32 ⟨Nat.le_of_ble_eq_true rfl, Nat.le_of_ble_eq_true rfl⟩) ⟨by omega, by omega⟩ hO rfl rfl hl.1 rfl (Nat.le_of_ble_eq_true rfl) dX9_row_17 ⟨Nat.zero_le _, Nat.zero_le _⟩ (fun f5 H locs hM hp6 => ?_)
  obtain ⟨hn7, o8⟩ := hp6
  obtain ⟨Pz9, hPz9⟩ : ∃ Q : Nat → Int, Q = pu P (69 + 5 * cc) a := ⟨_, rfl⟩
  rw [← hPz9] at hn7
  refine lv_aload_n hx hb dX9_row_20 rfl (lv_at hl 1 rfl) ?_
  refine lv_iload hx hb dX9_row_21 (lv_at hl 0 rfl) ?_
  refine g_iconst hx hb dX9_row_23 ?_
  refine g_iadd hx hb dX9_row_24 ?_
  refine lv_iload hx hb dX9_row_25 (lv_at hl 6 rfl) ?_
  refine g_i2l hx hb dX9_row_27 hrb ?_
  have hf10 : f5 (h) = .inr (11, [.int (zI (Z 0)), .ref (h + 1), .ref (h + 2), .ref (h + 3), .ref (h + 4), .ref (h + 5), .ref (h + 6), .ref (h + 7), .ref (h + 8), .int (zI (Z 9)), .int (zI (Z 10)), .int (zI (Z 11)), .int (zI (Z 12)), .int (zI (Z 13)), .int (zI (Z 14)), .int (zI (Z 15)), .int (zI (Z 16)), .ref (h + 9), .ref (h + 10), .ref (h + 11), .int (zI (Z 20)), .int (zI (Z 21)), .int (zI (Z 22)), .ref (h + 12)]) := (o8 (h) (by omega)).trans hO
  have hC11 := c_X9_puts l g b0 n f5 h Z M aa Pz9 ((69 + (5 * (↑cc : Int))) + 1) (70 + 5 * cc) b hf10 hn7 hrg hat haa (by omega) (by omega)
  refine g_callVv (ci := 11) (C := RX9) (T := TX9) (N := 24) (As := [.int (zI ((69 + (5 * (↑cc : Int))) + 1)), .long (zL b)]) (rest := []) ⟨hx, hb, hml, hown, hts⟩ hK hM hC11 (cuV (n := 2) hts u_1257 u_1254 u_10 (by decide) u_1256 us_32 ⟨Nat.le_of_ble_eq_true rfl, Nat.le_of_ble_eq_true rfl⟩) ⟨by omega, by omega⟩ hf10 rfl rfl hl.1 rfl (Nat.le_of_ble_eq_true rfl) dX9_row_28 ⟨Nat.zero_le _, Nat.zero_le _⟩ (fun f12 H locs hM hp13 => ?_)
  obtain ⟨hn14, o15⟩ := hp13
  obtain ⟨Pz16, hPz16⟩ : ∃ Q : Nat → Int, Q = pu Pz9 (70 + 5 * cc) b := ⟨_, rfl⟩
  rw [← hPz16] at hn14
  refine lv_aload_n hx hb dX9_row_31 rfl (lv_at hl 1 rfl) ?_
  refine lv_iload hx hb dX9_row_32 (lv_at hl 0 rfl) ?_
  refine g_iconst hx hb dX9_row_34 ?_
  refine g_iadd hx hb dX9_row_35 ?_
  refine lv_iload hx hb dX9_row_36 (lv_at hl 7 rfl) ?_
  refine g_i2l hx hb dX9_row_38 hrx ?_
  have hf17 : f12 (h) = .inr (11, [.int (zI (Z 0)), .ref (h + 1), .ref (h + 2), .ref (h + 3), .ref (h + 4), .ref (h + 5), .ref (h + 6), .ref (h + 7), .ref (h + 8), .int (zI (Z 9)), .int (zI (Z 10)), .int (zI (Z 11)), .int (zI (Z 12)), .int (zI (Z 13)), .int (zI (Z 14)), .int (zI (Z 15)), .int (zI (Z 16)), .ref (h + 9), .ref (h + 10), .ref (h + 11), .int (zI (Z 20)), .int (zI (Z 21)), .int (zI (Z 22)), .ref (h + 12)]) := (o15 (h) (by omega)).trans hf10
  have hC18 := c_X9_puts l g b0 n f12 h Z M aa Pz16 ((69 + (5 * (↑cc : Int))) + 2) (71 + 5 * cc) x hf17 hn14 hrg hat haa (by omega) (by omega)
  refine g_callVv (ci := 11) (C := RX9) (T := TX9) (N := 24) (As := [.int (zI ((69 + (5 * (↑cc : Int))) + 2)), .long (zL x)]) (rest := []) ⟨hx, hb, hml, hown, hts⟩ hK hM hC18 (cuV (n := 2) hts u_1257 u_1254 u_10 (by decide) u_1256 us_32 ⟨Nat.le_of_ble_eq_true rfl, Nat.le_of_ble_eq_true rfl⟩) ⟨by omega, by omega⟩ hf17 rfl rfl hl.1 rfl (Nat.le_of_ble_eq_true rfl) dX9_row_39 ⟨Nat.zero_le _, Nat.zero_le _⟩ (fun f19 H locs hM hp20 => ?_)
  obtain ⟨hn21, o22⟩ := hp20
  obtain ⟨Pz23, hPz23⟩ : ∃ Q : Nat → Int, Q = pu Pz16 (71 + 5 * cc) x := ⟨_, rfl⟩
  rw [← hPz23] at hn21
  refine lv_iload_n hx hb dX9_row_42 rfl (lv_at hl 3 rfl) ?_
  refine g_iconst hx hb dX9_row_43 ?_
  refine g_icmp_le (tgt := 58) hx hb dX9_row_44 (by decide) (by decide) (by decide) (fun c44 => ?_) (fun c44 => ?_)
  · exact absurd c44 (by decide)
  · skip
    refine lv_aload_n hx hb dX9_row_47 rfl (lv_at hl 1 rfl) ?_
    refine lv_iload hx hb dX9_row_48 (lv_at hl 0 rfl) ?_
    refine g_iconst hx hb dX9_row_50 ?_
    refine g_iadd hx hb dX9_row_51 ?_
    refine lv_iload hx hb dX9_row_52 (lv_at hl 8 rfl) ?_
    refine g_i2l hx hb dX9_row_54 hry ?_
    have hf24 : f19 (h) = .inr (11, [.int (zI (Z 0)), .ref (h + 1), .ref (h + 2), .ref (h + 3), .ref (h + 4), .ref (h + 5), .ref (h + 6), .ref (h + 7), .ref (h + 8), .int (zI (Z 9)), .int (zI (Z 10)), .int (zI (Z 11)), .int (zI (Z 12)), .int (zI (Z 13)), .int (zI (Z 14)), .int (zI (Z 15)), .int (zI (Z 16)), .ref (h + 9), .ref (h + 10), .ref (h + 11), .int (zI (Z 20)), .int (zI (Z 21)), .int (zI (Z 22)), .ref (h + 12)]) := (o22 (h) (by omega)).trans hf17
    have hC25 := c_X9_puts l g b0 n f19 h Z M aa Pz23 ((69 + (5 * (↑cc : Int))) + 3) (72 + 5 * cc) y hf24 hn21 hrg hat haa (by omega) (by omega)
    refine g_callVv (ci := 11) (C := RX9) (T := TX9) (N := 24) (As := [.int (zI ((69 + (5 * (↑cc : Int))) + 3)), .long (zL y)]) (rest := []) ⟨hx, hb, hml, hown, hts⟩ hK hM hC25 (cuV (n := 2) hts u_1257 u_1254 u_10 (by decide) u_1256 us_32 ⟨Nat.le_of_ble_eq_true rfl, Nat.le_of_ble_eq_true rfl⟩) ⟨by omega, by omega⟩ hf24 rfl rfl hl.1 rfl (Nat.le_of_ble_eq_true rfl) dX9_row_55 ⟨Nat.zero_le _, Nat.zero_le _⟩ (fun f26 H locs hM hp27 => ?_)
    obtain ⟨hn28, o29⟩ := hp27
    obtain ⟨Pz30, hPz30⟩ : ∃ Q : Nat → Int, Q = pu Pz23 (72 + 5 * cc) y := ⟨_, rfl⟩
    rw [← hPz30] at hn28
    refine g_iconst hx hb dX9_row_58 ?_
    refine lv_istore (lv' := [(9, .int (zI 4)), (8, .int (zI (69 + (5 * (↑cc : Int))))), (0, .ref h), (1, .int (zI 69)), (2, .int (zI 5)), (3, .int (zI 9)), (4, .int (zI a)), (5, .int (zI b)), (6, .int (zI x)), (7, .int (zI y))]) hx hb dX9_row_59 hl (by decide) rfl (fun ls hl => ?_)
    refine lv_iload hx hb dX9_row_61 (lv_at hl 0 rfl) ?_
    refine lv_iload_n hx hb dX9_row_63 rfl (lv_at hl 4 rfl) ?_
    refine g_icmp_ge (tgt := 83) hx hb dX9_row_64 (by decide) (by decide) (by decide) (fun c64 => ?_) (fun c64 => ?_)
    · exact absurd c64 (by decide)
    · skip
      refine lv_aload_n hx hb dX9_row_67 rfl (lv_at hl 2 rfl) ?_
      refine lv_iload hx hb dX9_row_68 (lv_at hl 1 rfl) ?_
      refine lv_iload hx hb dX9_row_70 (lv_at hl 0 rfl) ?_
      refine g_iadd hx hb dX9_row_72 ?_
      refine g_lconst (z := 0) hx hb dX9_row_73 (by decide) ?_
      have hf31 : f26 (h) = .inr (11, [.int (zI (Z 0)), .ref (h + 1), .ref (h + 2), .ref (h + 3), .ref (h + 4), .ref (h + 5), .ref (h + 6), .ref (h + 7), .ref (h + 8), .int (zI (Z 9)), .int (zI (Z 10)), .int (zI (Z 11)), .int (zI (Z 12)), .int (zI (Z 13)), .int (zI (Z 14)), .int (zI (Z 15)), .int (zI (Z 16)), .ref (h + 9), .ref (h + 10), .ref (h + 11), .int (zI (Z 20)), .int (zI (Z 21)), .int (zI (Z 22)), .ref (h + 12)]) := (o29 (h) (by omega)).trans hf24
      have hC32 := c_X9_puts l g b0 n f26 h Z M aa Pz30 ((69 + (5 * (↑cc : Int))) + 4) (73 + 5 * cc) 0 hf31 hn28 hrg hat haa (by omega) (by omega)
      refine g_callVv (ci := 11) (C := RX9) (T := TX9) (N := 24) (As := [.int (zI ((69 + (5 * (↑cc : Int))) + 4)), .long (zL 0)]) (rest := []) ⟨hx, hb, hml, hown, hts⟩ hK hM hC32 (cuV (n := 2) hts u_1257 u_1254 u_10 (by decide) u_1256 us_32 ⟨Nat.le_of_ble_eq_true rfl, Nat.le_of_ble_eq_true rfl⟩) ⟨by omega, by omega⟩ hf31 rfl rfl hl.1 rfl (Nat.le_of_ble_eq_true rfl) dX9_row_74 ⟨Nat.zero_le _, Nat.zero_le _⟩ (fun f33 H locs hM hp34 => ?_)
      obtain ⟨hn35, o36⟩ := hp34
      obtain ⟨Pz37, hPz37⟩ : ∃ Q : Nat → Int, Q = pu Pz30 (73 + 5 * cc) 0 := ⟨_, rfl⟩
      rw [← hPz37] at hn35
      refine lv_iinc (v := zI (5)) (lv' := [(9, .int (zI (5))), (8, .int (zI (69 + (5 * (↑cc : Int))))), (0, .ref h), (1, .int (zI 69)), (2, .int (zI 5)), (3, .int (zI 9)), (4, .int (zI a)), (5, .int (zI b)), (6, .int (zI x)), (7, .int (zI y))]) hx hb dX9_row_77 hl (k := 0) rfl (zI_add _ _) (by decide) rfl (fun ls hl => ?_)
      refine lv_goto (tgt := 61) hx hb dX9_row_80 (by decide) ?_
      refine lv_iload hx hb dX9_row_61 (lv_at hl 0 rfl) ?_
      refine lv_iload_n hx hb dX9_row_63 rfl (lv_at hl 4 rfl) ?_
      refine g_icmp_ge (tgt := 83) hx hb dX9_row_64 (by decide) (by decide) (by decide) (fun c64 => ?_) (fun c64 => ?_)
      · skip
        refine lv_aload_n hx hb dX9_row_83 rfl (lv_at hl 2 rfl) ?_
        refine lv_iload_n hx hb dX9_row_84 rfl (lv_at hl 5 rfl) ?_
        refine g_lconst (z := 1) hx hb dX9_row_85 (by decide) ?_
        have hf38 : f33 (h) = .inr (11, [.int (zI (Z 0)), .ref (h + 1), .ref (h + 2), .ref (h + 3), .ref (h + 4), .ref (h + 5), .ref (h + 6), .ref (h + 7), .ref (h + 8), .int (zI (Z 9)), .int (zI (Z 10)), .int (zI (Z 11)), .int (zI (Z 12)), .int (zI (Z 13)), .int (zI (Z 14)), .int (zI (Z 15)), .int (zI (Z 16)), .ref (h + 9), .ref (h + 10), .ref (h + 11), .int (zI (Z 20)), .int (zI (Z 21)), .int (zI (Z 22)), .ref (h + 12)]) := (o36 (h) (by omega)).trans hf31
        have hC39 := c_X9_adds l g b0 n f33 h Z M aa Pz37 9 (9) 1 hf38 hn35 hrg hat haa (by omega) (by omega)
        refine g_callVv (ci := 11) (C := RX9) (T := TX9) (N := 24) (As := [.int (zI 9), .long (zL 1)]) (rest := []) ⟨hx, hb, hml, hown, hts⟩ hK hM hC39 (cuV (n := 2) hts u_1261 u_1258 u_10 (by decide) u_1260 us_33 ⟨Nat.le_of_ble_eq_true rfl, Nat.le_of_ble_eq_true rfl⟩) ⟨by omega, by omega⟩ hf38 rfl rfl hl.1 rfl (Nat.le_of_ble_eq_true rfl) dX9_row_86 ⟨Nat.zero_le _, Nat.zero_le _⟩ (fun f40 H locs hM hp41 => ?_)
        obtain ⟨hn42, o43⟩ := hp41
        obtain ⟨Pz44, hPz44⟩ : ∃ Q : Nat → Int, Q = pu Pz37 (9) (Pz37 (9) + 1) := ⟨_, rfl⟩
        rw [← hPz44] at hn42
        have hpb9 : Pz37 9 = ↑cc := by rw [hPz37, pu_n (by omega), hPz30, pu_n (by omega), hPz23, pu_n (by omega), hPz16, pu_n (by omega), hPz9, pu_n (by omega), hcc]
        have hpc9 : Pz44 9 = ↑cc + 1 := by rw [hPz44, pu_s, hpb9]
        refine lv_aload_n hx hb dX9_row_89 rfl (lv_at hl 2 rfl) ?_
        refine lv_iload_n hx hb dX9_row_90 rfl (lv_at hl 5 rfl) ?_
        have hf45 : f40 (h) = .inr (11, [.int (zI (Z 0)), .ref (h + 1), .ref (h + 2), .ref (h + 3), .ref (h + 4), .ref (h + 5), .ref (h + 6), .ref (h + 7), .ref (h + 8), .int (zI (Z 9)), .int (zI (Z 10)), .int (zI (Z 11)), .int (zI (Z 12)), .int (zI (Z 13)), .int (zI (Z 14)), .int (zI (Z 15)), .int (zI (Z 16)), .ref (h + 9), .ref (h + 10), .ref (h + 11), .int (zI (Z 20)), .int (zI (Z 21)), .int (zI (Z 22)), .ref (h + 12)]) := (o43 (h) (by omega)).trans hf38
        have hC46 := c_X9_n l g b0 n f40 h Z M aa Pz44 9 (9) hf45 hn42 hrg hat haa (by omega) (by omega)
        refine g_callVi (ci := 11) (C := RX9) (T := TX9) (N := 24) (As := [.int (zI 9)]) (rest := []) ⟨hx, hb, hml, hown, hts⟩ hK hM hC46 (cuV (n := 1) hts u_1249 u_1246 u_10 (by decide) u_1248 us_30 ⟨Nat.le_of_ble_eq_true rfl, Nat.le_of_ble_eq_true rfl⟩) ⟨by omega, by omega⟩ hf45 rfl rfl hl.1 rfl (Nat.le_of_ble_eq_true rfl) dX9_row_91 ⟨Nat.zero_le _, Nat.zero_le _⟩ (fun r91 f47 H locs hM hp48 => ?_)
        obtain ⟨rfl, rfl⟩ := hp48
        rw [hpc9]
        refine g_iconst hx hb dX9_row_94 ?_
        refine g_isub hx hb dX9_row_95 ?_
        refine g_iret hx hb hr hlk hK hM dX9_row_96 ?_
        have hS : Pz44 = (sApp5 P cc a b x y) := by
          rw [hPz44, hpb9, hPz37, hPz30, hPz23, hPz16, hPz9]
          all_goals rfl
        refine ⟨congrArg zI (by omega), ?_, (fun q hq => ((o43 (q) (by omega)).trans ((o36 (q) (by omega)).trans ((o29 (q) (by omega)).trans ((o22 (q) (by omega)).trans ((o15 (q) (by omega)).trans (o8 (q) (by omega))))))))⟩
        rw [← hS]
        exact hn42
      · exact absurd (by decide) c64

def po_X9_row6 (g : gE) (f : gF) (h : Nat) (Z M : Nat → Int) (aa : Nat) (P : Nat → Int) (cc : Nat) (a b x y : Int) : Int32 → gF → Prop := fun r f1 => r = zI ↑cc ∧ mpAt g f1 h M aa (sApp6 P cc a b x y 0) ∧ ∀ q, q ≠ h + 1 → f1 q = f q
set_option maxRecDepth 100000 in
set_option maxHeartbeats 1000000 in
/-- row 6 -/
theorem c_X9_row6 (l : Launch) (g : gE) (b0 n : Nat) (f : gF) (h : Nat) (Z M : Nat → Int) (aa : Nat) (P : Nat → Int) (cc : Nat) (a b x y : Int) (hO : mdO f h Z) (hP : mpAt g f h M aa P) (hrg : b0 ≤ h ∧ h + 13 ≤ b0 + n) (hat : Z 11 = ↑aa) (haa : aa + 147 ≤ 2058) (hcc : P 10 = ↑cc) (hcr : 99 + 6 * cc + 6 ≤ 147) (hra : rI a) (hrb : rI b) (hrx : rI x) (hry : rI y) : cI l yX9_row cX9_row 10 (some .int) 1 23 [.ref h, .int (zI 99), .int (zI 6), .int (zI 10), .int (zI a), .int (zI b), .int (zI x), .int (zI y)] g b0 n f (po_X9_row6 g f h Z M aa P cc a b x y) := by
  refine gs_i (cc := cX9_row) (maxL := 10) (ret := (some .int)) (by decide) (Nat.le_of_ble_eq_true rfl) ?_
  intro p e0 s m args below meth c ls hx hb hr hml hown hts hlk hK hM hl
  have hl : lv_has ls 10 [(0, .ref h), (1, .int (zI 99)), (2, .int (zI 6)), (3, .int (zI 10)), (4, .int (zI a)), (5, .int (zI b)), (6, .int (zI x)), (7, .int (zI y))] := hl
  refine lv_iload_n hx hb dX9_row_0 rfl (lv_at hl 1 rfl) ?_
  refine lv_iload_n hx hb dX9_row_1 rfl (lv_at hl 2 rfl) ?_
  refine lv_aload_n hx hb dX9_row_2 rfl (lv_at hl 0 rfl) ?_
  refine lv_iload_n hx hb dX9_row_3 rfl (lv_at hl 3 rfl) ?_
  have hC1 := c_X9_n l g b0 n f h Z M aa P 10 (10) hO hP hrg hat haa (by omega) (by omega)
  refine g_callVi (ci := 11) (C := RX9) (T := TX9) (N := 24) (As := [.int (zI 10)]) (rest := [.int (zI 6), .int (zI 99)]) ⟨hx, hb, hml, hown, hts⟩ hK hM hC1 (cuV (n := 1) hts u_1249 u_1246 u_10 (by decide) u_1248 us_30 ⟨Nat.le_of_ble_eq_true rfl, Nat.le_of_ble_eq_true rfl⟩) ⟨by omega, by omega⟩ hO rfl rfl hl.1 rfl (Nat.le_of_ble_eq_true rfl) dX9_row_4 ⟨Nat.zero_le _, Nat.zero_le _⟩ (fun r4 f2 H locs hM hp3 => ?_)
  obtain ⟨rfl, rfl⟩ := hp3
  rw [hcc]
  refine g_imul hx hb dX9_row_7 ?_
  refine g_iadd hx hb dX9_row_8 ?_
  refine lv_istore (lv' := [(8, .int (zI (99 + (6 * (↑cc : Int))))), (0, .ref h), (1, .int (zI 99)), (2, .int (zI 6)), (3, .int (zI 10)), (4, .int (zI a)), (5, .int (zI b)), (6, .int (zI x)), (7, .int (zI y))]) hx hb dX9_row_9 hl (by decide) rfl (fun ls hl => ?_)
  refine lv_aload_n hx hb dX9_row_11 rfl (lv_at hl 1 rfl) ?_
  refine lv_iload hx hb dX9_row_12 (lv_at hl 0 rfl) ?_
  refine lv_iload hx hb dX9_row_14 (lv_at hl 5 rfl) ?_
  refine g_i2l hx hb dX9_row_16 hra ?_
  have hC4 := c_X9_puts l g b0 n f h Z M aa P (99 + (6 * (↑cc : Int))) (99 + 6 * cc) a hO hP hrg hat haa (by omega) (by omega)
  refine g_callVv (ci := 11) (C := RX9) (T := TX9) (N := 24) (As := [.int (zI (99 + (6 * (↑cc : Int)))), .long (zL a)]) (rest := []) ⟨hx, hb, hml, hown, hts⟩ hK hM hC4 (cuV (n := 2) hts u_1257 u_1254 u_10 (by decide) u_1256 us_32 ⟨Nat.le_of_ble_eq_true rfl, Nat.le_of_ble_eq_true rfl⟩) ⟨by omega, by omega⟩ hO rfl rfl hl.1 rfl (Nat.le_of_ble_eq_true rfl) dX9_row_17 ⟨Nat.zero_le _, Nat.zero_le _⟩ (fun f5 H locs hM hp6 => ?_)
  obtain ⟨hn7, o8⟩ := hp6
  obtain ⟨Pz9, hPz9⟩ : ∃ Q : Nat → Int, Q = pu P (99 + 6 * cc) a := ⟨_, rfl⟩
  rw [← hPz9] at hn7
  refine lv_aload_n hx hb dX9_row_20 rfl (lv_at hl 1 rfl) ?_
  refine lv_iload hx hb dX9_row_21 (lv_at hl 0 rfl) ?_
  refine g_iconst hx hb dX9_row_23 ?_
  refine g_iadd hx hb dX9_row_24 ?_
  refine lv_iload hx hb dX9_row_25 (lv_at hl 6 rfl) ?_
  refine g_i2l hx hb dX9_row_27 hrb ?_
  have hf10 : f5 (h) = .inr (11, [.int (zI (Z 0)), .ref (h + 1), .ref (h + 2), .ref (h + 3), .ref (h + 4), .ref (h + 5), .ref (h + 6), .ref (h + 7), .ref (h + 8), .int (zI (Z 9)), .int (zI (Z 10)), .int (zI (Z 11)), .int (zI (Z 12)), .int (zI (Z 13)), .int (zI (Z 14)), .int (zI (Z 15)), .int (zI (Z 16)), .ref (h + 9), .ref (h + 10), .ref (h + 11), .int (zI (Z 20)), .int (zI (Z 21)), .int (zI (Z 22)), .ref (h + 12)]) := (o8 (h) (by omega)).trans hO
  have hC11 := c_X9_puts l g b0 n f5 h Z M aa Pz9 ((99 + (6 * (↑cc : Int))) + 1) (100 + 6 * cc) b hf10 hn7 hrg hat haa (by omega) (by omega)
  refine g_callVv (ci := 11) (C := RX9) (T := TX9) (N := 24) (As := [.int (zI ((99 + (6 * (↑cc : Int))) + 1)), .long (zL b)]) (rest := []) ⟨hx, hb, hml, hown, hts⟩ hK hM hC11 (cuV (n := 2) hts u_1257 u_1254 u_10 (by decide) u_1256 us_32 ⟨Nat.le_of_ble_eq_true rfl, Nat.le_of_ble_eq_true rfl⟩) ⟨by omega, by omega⟩ hf10 rfl rfl hl.1 rfl (Nat.le_of_ble_eq_true rfl) dX9_row_28 ⟨Nat.zero_le _, Nat.zero_le _⟩ (fun f12 H locs hM hp13 => ?_)
  obtain ⟨hn14, o15⟩ := hp13
  obtain ⟨Pz16, hPz16⟩ : ∃ Q : Nat → Int, Q = pu Pz9 (100 + 6 * cc) b := ⟨_, rfl⟩
  rw [← hPz16] at hn14
  refine lv_aload_n hx hb dX9_row_31 rfl (lv_at hl 1 rfl) ?_
  refine lv_iload hx hb dX9_row_32 (lv_at hl 0 rfl) ?_
  refine g_iconst hx hb dX9_row_34 ?_
  refine g_iadd hx hb dX9_row_35 ?_
  refine lv_iload hx hb dX9_row_36 (lv_at hl 7 rfl) ?_
  refine g_i2l hx hb dX9_row_38 hrx ?_
  have hf17 : f12 (h) = .inr (11, [.int (zI (Z 0)), .ref (h + 1), .ref (h + 2), .ref (h + 3), .ref (h + 4), .ref (h + 5), .ref (h + 6), .ref (h + 7), .ref (h + 8), .int (zI (Z 9)), .int (zI (Z 10)), .int (zI (Z 11)), .int (zI (Z 12)), .int (zI (Z 13)), .int (zI (Z 14)), .int (zI (Z 15)), .int (zI (Z 16)), .ref (h + 9), .ref (h + 10), .ref (h + 11), .int (zI (Z 20)), .int (zI (Z 21)), .int (zI (Z 22)), .ref (h + 12)]) := (o15 (h) (by omega)).trans hf10
  have hC18 := c_X9_puts l g b0 n f12 h Z M aa Pz16 ((99 + (6 * (↑cc : Int))) + 2) (101 + 6 * cc) x hf17 hn14 hrg hat haa (by omega) (by omega)
  refine g_callVv (ci := 11) (C := RX9) (T := TX9) (N := 24) (As := [.int (zI ((99 + (6 * (↑cc : Int))) + 2)), .long (zL x)]) (rest := []) ⟨hx, hb, hml, hown, hts⟩ hK hM hC18 (cuV (n := 2) hts u_1257 u_1254 u_10 (by decide) u_1256 us_32 ⟨Nat.le_of_ble_eq_true rfl, Nat.le_of_ble_eq_true rfl⟩) ⟨by omega, by omega⟩ hf17 rfl rfl hl.1 rfl (Nat.le_of_ble_eq_true rfl) dX9_row_39 ⟨Nat.zero_le _, Nat.zero_le _⟩ (fun f19 H locs hM hp20 => ?_)
  obtain ⟨hn21, o22⟩ := hp20
  obtain ⟨Pz23, hPz23⟩ : ∃ Q : Nat → Int, Q = pu Pz16 (101 + 6 * cc) x := ⟨_, rfl⟩
  rw [← hPz23] at hn21
  refine lv_iload_n hx hb dX9_row_42 rfl (lv_at hl 3 rfl) ?_
  refine g_iconst hx hb dX9_row_43 ?_
  refine g_icmp_le (tgt := 58) hx hb dX9_row_44 (by decide) (by decide) (by decide) (fun c44 => ?_) (fun c44 => ?_)
  · exact absurd c44 (by decide)
  · skip
    refine lv_aload_n hx hb dX9_row_47 rfl (lv_at hl 1 rfl) ?_
    refine lv_iload hx hb dX9_row_48 (lv_at hl 0 rfl) ?_
    refine g_iconst hx hb dX9_row_50 ?_
    refine g_iadd hx hb dX9_row_51 ?_
    refine lv_iload hx hb dX9_row_52 (lv_at hl 8 rfl) ?_
    refine g_i2l hx hb dX9_row_54 hry ?_
    have hf24 : f19 (h) = .inr (11, [.int (zI (Z 0)), .ref (h + 1), .ref (h + 2), .ref (h + 3), .ref (h + 4), .ref (h + 5), .ref (h + 6), .ref (h + 7), .ref (h + 8), .int (zI (Z 9)), .int (zI (Z 10)), .int (zI (Z 11)), .int (zI (Z 12)), .int (zI (Z 13)), .int (zI (Z 14)), .int (zI (Z 15)), .int (zI (Z 16)), .ref (h + 9), .ref (h + 10), .ref (h + 11), .int (zI (Z 20)), .int (zI (Z 21)), .int (zI (Z 22)), .ref (h + 12)]) := (o22 (h) (by omega)).trans hf17
    have hC25 := c_X9_puts l g b0 n f19 h Z M aa Pz23 ((99 + (6 * (↑cc : Int))) + 3) (102 + 6 * cc) y hf24 hn21 hrg hat haa (by omega) (by omega)
    refine g_callVv (ci := 11) (C := RX9) (T := TX9) (N := 24) (As := [.int (zI ((99 + (6 * (↑cc : Int))) + 3)), .long (zL y)]) (rest := []) ⟨hx, hb, hml, hown, hts⟩ hK hM hC25 (cuV (n := 2) hts u_1257 u_1254 u_10 (by decide) u_1256 us_32 ⟨Nat.le_of_ble_eq_true rfl, Nat.le_of_ble_eq_true rfl⟩) ⟨by omega, by omega⟩ hf24 rfl rfl hl.1 rfl (Nat.le_of_ble_eq_true rfl) dX9_row_55 ⟨Nat.zero_le _, Nat.zero_le _⟩ (fun f26 H locs hM hp27 => ?_)
    obtain ⟨hn28, o29⟩ := hp27
    obtain ⟨Pz30, hPz30⟩ : ∃ Q : Nat → Int, Q = pu Pz23 (102 + 6 * cc) y := ⟨_, rfl⟩
    rw [← hPz30] at hn28
    refine g_iconst hx hb dX9_row_58 ?_
    refine lv_istore (lv' := [(9, .int (zI 4)), (8, .int (zI (99 + (6 * (↑cc : Int))))), (0, .ref h), (1, .int (zI 99)), (2, .int (zI 6)), (3, .int (zI 10)), (4, .int (zI a)), (5, .int (zI b)), (6, .int (zI x)), (7, .int (zI y))]) hx hb dX9_row_59 hl (by decide) rfl (fun ls hl => ?_)
    refine lv_iload hx hb dX9_row_61 (lv_at hl 0 rfl) ?_
    refine lv_iload_n hx hb dX9_row_63 rfl (lv_at hl 4 rfl) ?_
    refine g_icmp_ge (tgt := 83) hx hb dX9_row_64 (by decide) (by decide) (by decide) (fun c64 => ?_) (fun c64 => ?_)
    · exact absurd c64 (by decide)
    · skip
      refine lv_aload_n hx hb dX9_row_67 rfl (lv_at hl 2 rfl) ?_
      refine lv_iload hx hb dX9_row_68 (lv_at hl 1 rfl) ?_
      refine lv_iload hx hb dX9_row_70 (lv_at hl 0 rfl) ?_
      refine g_iadd hx hb dX9_row_72 ?_
      refine g_lconst (z := 0) hx hb dX9_row_73 (by decide) ?_
      have hf31 : f26 (h) = .inr (11, [.int (zI (Z 0)), .ref (h + 1), .ref (h + 2), .ref (h + 3), .ref (h + 4), .ref (h + 5), .ref (h + 6), .ref (h + 7), .ref (h + 8), .int (zI (Z 9)), .int (zI (Z 10)), .int (zI (Z 11)), .int (zI (Z 12)), .int (zI (Z 13)), .int (zI (Z 14)), .int (zI (Z 15)), .int (zI (Z 16)), .ref (h + 9), .ref (h + 10), .ref (h + 11), .int (zI (Z 20)), .int (zI (Z 21)), .int (zI (Z 22)), .ref (h + 12)]) := (o29 (h) (by omega)).trans hf24
      have hC32 := c_X9_puts l g b0 n f26 h Z M aa Pz30 ((99 + (6 * (↑cc : Int))) + 4) (103 + 6 * cc) 0 hf31 hn28 hrg hat haa (by omega) (by omega)
      refine g_callVv (ci := 11) (C := RX9) (T := TX9) (N := 24) (As := [.int (zI ((99 + (6 * (↑cc : Int))) + 4)), .long (zL 0)]) (rest := []) ⟨hx, hb, hml, hown, hts⟩ hK hM hC32 (cuV (n := 2) hts u_1257 u_1254 u_10 (by decide) u_1256 us_32 ⟨Nat.le_of_ble_eq_true rfl, Nat.le_of_ble_eq_true rfl⟩) ⟨by omega, by omega⟩ hf31 rfl rfl hl.1 rfl (Nat.le_of_ble_eq_true rfl) dX9_row_74 ⟨Nat.zero_le _, Nat.zero_le _⟩ (fun f33 H locs hM hp34 => ?_)
      obtain ⟨hn35, o36⟩ := hp34
      obtain ⟨Pz37, hPz37⟩ : ∃ Q : Nat → Int, Q = pu Pz30 (103 + 6 * cc) 0 := ⟨_, rfl⟩
      rw [← hPz37] at hn35
      refine lv_iinc (v := zI (5)) (lv' := [(9, .int (zI (5))), (8, .int (zI (99 + (6 * (↑cc : Int))))), (0, .ref h), (1, .int (zI 99)), (2, .int (zI 6)), (3, .int (zI 10)), (4, .int (zI a)), (5, .int (zI b)), (6, .int (zI x)), (7, .int (zI y))]) hx hb dX9_row_77 hl (k := 0) rfl (zI_add _ _) (by decide) rfl (fun ls hl => ?_)
      refine lv_goto (tgt := 61) hx hb dX9_row_80 (by decide) ?_
      refine lv_iload hx hb dX9_row_61 (lv_at hl 0 rfl) ?_
      refine lv_iload_n hx hb dX9_row_63 rfl (lv_at hl 4 rfl) ?_
      refine g_icmp_ge (tgt := 83) hx hb dX9_row_64 (by decide) (by decide) (by decide) (fun c64 => ?_) (fun c64 => ?_)
      · exact absurd c64 (by decide)
      · skip
        refine lv_aload_n hx hb dX9_row_67 rfl (lv_at hl 2 rfl) ?_
        refine lv_iload hx hb dX9_row_68 (lv_at hl 1 rfl) ?_
        refine lv_iload hx hb dX9_row_70 (lv_at hl 0 rfl) ?_
        refine g_iadd hx hb dX9_row_72 ?_
        refine g_lconst (z := 0) hx hb dX9_row_73 (by decide) ?_
        have hf38 : f33 (h) = .inr (11, [.int (zI (Z 0)), .ref (h + 1), .ref (h + 2), .ref (h + 3), .ref (h + 4), .ref (h + 5), .ref (h + 6), .ref (h + 7), .ref (h + 8), .int (zI (Z 9)), .int (zI (Z 10)), .int (zI (Z 11)), .int (zI (Z 12)), .int (zI (Z 13)), .int (zI (Z 14)), .int (zI (Z 15)), .int (zI (Z 16)), .ref (h + 9), .ref (h + 10), .ref (h + 11), .int (zI (Z 20)), .int (zI (Z 21)), .int (zI (Z 22)), .ref (h + 12)]) := (o36 (h) (by omega)).trans hf31
        have hC39 := c_X9_puts l g b0 n f33 h Z M aa Pz37 ((99 + (6 * (↑cc : Int))) + (5)) (104 + 6 * cc) 0 hf38 hn35 hrg hat haa (by omega) (by omega)
        refine g_callVv (ci := 11) (C := RX9) (T := TX9) (N := 24) (As := [.int (zI ((99 + (6 * (↑cc : Int))) + (5))), .long (zL 0)]) (rest := []) ⟨hx, hb, hml, hown, hts⟩ hK hM hC39 (cuV (n := 2) hts u_1257 u_1254 u_10 (by decide) u_1256 us_32 ⟨Nat.le_of_ble_eq_true rfl, Nat.le_of_ble_eq_true rfl⟩) ⟨by omega, by omega⟩ hf38 rfl rfl hl.1 rfl (Nat.le_of_ble_eq_true rfl) dX9_row_74 ⟨Nat.zero_le _, Nat.zero_le _⟩ (fun f40 H locs hM hp41 => ?_)
        obtain ⟨hn42, o43⟩ := hp41
        obtain ⟨Pz44, hPz44⟩ : ∃ Q : Nat → Int, Q = pu Pz37 (104 + 6 * cc) 0 := ⟨_, rfl⟩
        rw [← hPz44] at hn42
        refine lv_iinc (v := zI (6)) (lv' := [(9, .int (zI (6))), (8, .int (zI (99 + (6 * (↑cc : Int))))), (0, .ref h), (1, .int (zI 99)), (2, .int (zI 6)), (3, .int (zI 10)), (4, .int (zI a)), (5, .int (zI b)), (6, .int (zI x)), (7, .int (zI y))]) hx hb dX9_row_77 hl (k := 0) rfl (zI_add _ _) (by decide) rfl (fun ls hl => ?_)
        refine lv_goto (tgt := 61) hx hb dX9_row_80 (by decide) ?_
        refine lv_iload hx hb dX9_row_61 (lv_at hl 0 rfl) ?_
        refine lv_iload_n hx hb dX9_row_63 rfl (lv_at hl 4 rfl) ?_
        refine g_icmp_ge (tgt := 83) hx hb dX9_row_64 (by decide) (by decide) (by decide) (fun c64 => ?_) (fun c64 => ?_)
        · skip
          refine lv_aload_n hx hb dX9_row_83 rfl (lv_at hl 2 rfl) ?_
          refine lv_iload_n hx hb dX9_row_84 rfl (lv_at hl 5 rfl) ?_
          refine g_lconst (z := 1) hx hb dX9_row_85 (by decide) ?_
          have hf45 : f40 (h) = .inr (11, [.int (zI (Z 0)), .ref (h + 1), .ref (h + 2), .ref (h + 3), .ref (h + 4), .ref (h + 5), .ref (h + 6), .ref (h + 7), .ref (h + 8), .int (zI (Z 9)), .int (zI (Z 10)), .int (zI (Z 11)), .int (zI (Z 12)), .int (zI (Z 13)), .int (zI (Z 14)), .int (zI (Z 15)), .int (zI (Z 16)), .ref (h + 9), .ref (h + 10), .ref (h + 11), .int (zI (Z 20)), .int (zI (Z 21)), .int (zI (Z 22)), .ref (h + 12)]) := (o43 (h) (by omega)).trans hf38
          have hC46 := c_X9_adds l g b0 n f40 h Z M aa Pz44 10 (10) 1 hf45 hn42 hrg hat haa (by omega) (by omega)
          refine g_callVv (ci := 11) (C := RX9) (T := TX9) (N := 24) (As := [.int (zI 10), .long (zL 1)]) (rest := []) ⟨hx, hb, hml, hown, hts⟩ hK hM hC46 (cuV (n := 2) hts u_1261 u_1258 u_10 (by decide) u_1260 us_33 ⟨Nat.le_of_ble_eq_true rfl, Nat.le_of_ble_eq_true rfl⟩) ⟨by omega, by omega⟩ hf45 rfl rfl hl.1 rfl (Nat.le_of_ble_eq_true rfl) dX9_row_86 ⟨Nat.zero_le _, Nat.zero_le _⟩ (fun f47 H locs hM hp48 => ?_)
          obtain ⟨hn49, o50⟩ := hp48
          obtain ⟨Pz51, hPz51⟩ : ∃ Q : Nat → Int, Q = pu Pz44 (10) (Pz44 (10) + 1) := ⟨_, rfl⟩
          rw [← hPz51] at hn49
          have hpb9 : Pz44 10 = ↑cc := by rw [hPz44, pu_n (by omega), hPz37, pu_n (by omega), hPz30, pu_n (by omega), hPz23, pu_n (by omega), hPz16, pu_n (by omega), hPz9, pu_n (by omega), hcc]
          have hpc9 : Pz51 10 = ↑cc + 1 := by rw [hPz51, pu_s, hpb9]
          refine lv_aload_n hx hb dX9_row_89 rfl (lv_at hl 2 rfl) ?_
          refine lv_iload_n hx hb dX9_row_90 rfl (lv_at hl 5 rfl) ?_
          have hf52 : f47 (h) = .inr (11, [.int (zI (Z 0)), .ref (h + 1), .ref (h + 2), .ref (h + 3), .ref (h + 4), .ref (h + 5), .ref (h + 6), .ref (h + 7), .ref (h + 8), .int (zI (Z 9)), .int (zI (Z 10)), .int (zI (Z 11)), .int (zI (Z 12)), .int (zI (Z 13)), .int (zI (Z 14)), .int (zI (Z 15)), .int (zI (Z 16)), .ref (h + 9), .ref (h + 10), .ref (h + 11), .int (zI (Z 20)), .int (zI (Z 21)), .int (zI (Z 22)), .ref (h + 12)]) := (o50 (h) (by omega)).trans hf45
          have hC53 := c_X9_n l g b0 n f47 h Z M aa Pz51 10 (10) hf52 hn49 hrg hat haa (by omega) (by omega)
          refine g_callVi (ci := 11) (C := RX9) (T := TX9) (N := 24) (As := [.int (zI 10)]) (rest := []) ⟨hx, hb, hml, hown, hts⟩ hK hM hC53 (cuV (n := 1) hts u_1249 u_1246 u_10 (by decide) u_1248 us_30 ⟨Nat.le_of_ble_eq_true rfl, Nat.le_of_ble_eq_true rfl⟩) ⟨by omega, by omega⟩ hf52 rfl rfl hl.1 rfl (Nat.le_of_ble_eq_true rfl) dX9_row_91 ⟨Nat.zero_le _, Nat.zero_le _⟩ (fun r91 f54 H locs hM hp55 => ?_)
          obtain ⟨rfl, rfl⟩ := hp55
          rw [hpc9]
          refine g_iconst hx hb dX9_row_94 ?_
          refine g_isub hx hb dX9_row_95 ?_
          refine g_iret hx hb hr hlk hK hM dX9_row_96 ?_
          have hS : Pz51 = (sApp6 P cc a b x y 0) := by
            rw [hPz51, hpb9, hPz44, hPz37, hPz30, hPz23, hPz16, hPz9]
            all_goals rfl
          refine ⟨congrArg zI (by omega), ?_, (fun q hq => ((o50 (q) (by omega)).trans ((o43 (q) (by omega)).trans ((o36 (q) (by omega)).trans ((o29 (q) (by omega)).trans ((o22 (q) (by omega)).trans ((o15 (q) (by omega)).trans (o8 (q) (by omega)))))))))⟩
          rw [← hS]
          exact hn49
        · exact absurd (by decide) c64

def po_X9_removes3 (g : gE) (f : gF) (h : Nat) (Z M : Nat → Int) (aa : Nat) (P : Nat → Int) (e : Nat) : Int32 → gF → Prop := fun r f1 => r = zI (P 8 - 1) ∧ mpAt g f1 h M aa (sRem P 51 3 8 e) ∧ ∀ q, q ≠ h + 1 → f1 q = f q
set_option maxRecDepth 100000 in
set_option maxHeartbeats 1000000 in
/-- removes 3 -/
theorem c_X9_removes3 (l : Launch) (g : gE) (b0 n : Nat) (f : gF) (h : Nat) (Z M : Nat → Int) (aa : Nat) (P : Nat → Int) (e : Nat) (hO : mdO f h Z) (hP : mpAt g f h M aa P) (hrg : b0 ≤ h ∧ h + 13 ≤ b0 + n) (hat : Z 11 = ↑aa) (haa : aa + 147 ≤ 2058) (hcn : 0 ≤ P 8 ∧ P 8 ≤ 6) (he : (e : Int) < P 8) : cI l yX9_removes cX9_removes 6 (some .int) 1 23 [.ref h, .int (zI 51), .int (zI 3), .int (zI 8), .int (zI (↑e : Int))] g b0 n f (po_X9_removes3 g f h Z M aa P e) := by
  refine gs_i (cc := cX9_removes) (maxL := 6) (ret := (some .int)) (by decide) (Nat.le_of_ble_eq_true rfl) ?_
  intro p e0 s m args below meth c ls hx hb hr hml hown hts hlk hK hM hl
  have hl : lv_has ls 6 [(0, .ref h), (1, .int (zI 51)), (2, .int (zI 3)), (3, .int (zI 8)), (4, .int (zI (↑e : Int)))] := hl
  have hcn1 := hcn.1
  have hcn2 := hcn.2
  refine lv_iload_n hx hb dX9_removes_0 rfl (lv_at hl 1 rfl) ?_
  refine lv_iload_n hx hb dX9_removes_1 rfl (lv_at hl 2 rfl) ?_
  refine lv_iload hx hb dX9_removes_2 (lv_at hl 4 rfl) ?_
  refine g_imul hx hb dX9_removes_4 ?_
  refine g_iadd hx hb dX9_removes_5 ?_
  refine lv_istore (lv' := [(5, .int (zI (51 + (3 * (↑e : Int))))), (0, .ref h), (1, .int (zI 51)), (2, .int (zI 3)), (3, .int (zI 8)), (4, .int (zI (↑e : Int)))]) hx hb dX9_removes_6 hl (by decide) rfl (fun ls hl => ?_)
  have lp8 : ∀ (k : Nat), ∀ (i : Nat) (Pi : Nat → Int) (fL : gF) (H : Heap) (locs : List Loc) (ls : Array Slot), (147 - i < k) → (51 + 3 * e ≤ i) → ((i : Int) ≤ 51 + 3 * (P 8 - 1)) → (∀ j, Pi j = if 51 + 3 * e ≤ j ∧ j < i then P (j + 3) else P j) → (∀ q, q ≠ h + 1 → fL q = f q) → gH g b0 n fL s.heap H locs → (mdO fL h Z) → (mpAt g fL h M aa Pi) → lv_has ls 6 [(0, .ref h), (1, .int (zI 51)), (2, .int (zI 3)), (3, .int (zI 8)), (4, .int (zI (↑e : Int))), (5, .int (zI (↑i : Int)))] → W p l e0 { frames := 1, cells := 0, slots := 0, locals := 23 } s m args below meth c H locs 0 0 (MQ below (va_Qi (po_X9_removes3 g f h Z M aa P e) (gB g b0 n) (gA b0)) args s 0 0 (gA b0)) (F0 m 8 ls []) := by
    intro k
    induction k with
    | zero =>
      intro i Pi fL H locs ls hk hi1 hi2 hPi hfr hM hL0 hL1 hl
      exact absurd hk (Nat.not_lt_zero _)
    | succ k ih8 =>
      intro i Pi fL H locs ls hk hi1 hi2 hPi hfr hM hL0 hL1 hl
      have hPc : Pi 8 = P 8 := by rw [hPi, if_neg (by omega)]
      refine lv_iload hx hb dX9_removes_8 (lv_at hl 5 rfl) ?_
      refine lv_iload_n hx hb dX9_removes_10 rfl (lv_at hl 1 rfl) ?_
      refine lv_iload_n hx hb dX9_removes_11 rfl (lv_at hl 2 rfl) ?_
      refine lv_aload_n hx hb dX9_removes_12 rfl (lv_at hl 0 rfl) ?_
      refine lv_iload_n hx hb dX9_removes_13 rfl (lv_at hl 3 rfl) ?_
      have hC1 := c_X9_n l g b0 n fL h Z M aa Pi 8 (8) hL0 hL1 hrg hat haa (by omega) (by omega)
      refine g_callVi (ci := 11) (C := RX9) (T := TX9) (N := 24) (As := [.int (zI 8)]) (rest := [.int (zI 3), .int (zI 51), .int (zI (↑i : Int))]) ⟨hx, hb, hml, hown, hts⟩ hK hM hC1 (cuV (n := 1) hts u_1249 u_1246 u_10 (by decide) u_1248 us_30 ⟨Nat.le_of_ble_eq_true rfl, Nat.le_of_ble_eq_true rfl⟩) ⟨by omega, by omega⟩ hL0 rfl rfl hl.1 rfl (Nat.le_of_ble_eq_true rfl) dX9_removes_14 ⟨Nat.zero_le _, Nat.zero_le _⟩ (fun r14 f2 H locs hM hp3 => ?_)
      obtain ⟨rfl, rfl⟩ := hp3
      rw [hPc]
      refine g_iconst hx hb dX9_removes_17 ?_
      refine g_isub hx hb dX9_removes_18 ?_
      refine g_imul hx hb dX9_removes_19 ?_
      refine g_iadd hx hb dX9_removes_20 ?_
      refine g_icmp_ge (tgt := 44) hx hb dX9_removes_21 (by decide) ⟨by omega, by omega⟩ ⟨by omega, by omega⟩ (fun c21 => ?_) (fun c21 => ?_)
      · skip
        refine lv_aload_n hx hb dX9_removes_44 rfl (lv_at hl 0 rfl) ?_
        refine lv_iload_n hx hb dX9_removes_45 rfl (lv_at hl 3 rfl) ?_
        refine g_ldc2 (z := -1) hx hb hown (hts _ u_1236) dX9_removes_46 (by decide) ?_
        have hC4 := c_X9_adds l g b0 n fL h Z M aa Pi 8 (8) (-1) hL0 hL1 hrg hat haa (by omega) (by omega)
        refine g_callVv (ci := 11) (C := RX9) (T := TX9) (N := 24) (As := [.int (zI 8), .long (zL (-1))]) (rest := []) ⟨hx, hb, hml, hown, hts⟩ hK hM hC4 (cuV (n := 2) hts u_1261 u_1258 u_10 (by decide) u_1260 us_33 ⟨Nat.le_of_ble_eq_true rfl, Nat.le_of_ble_eq_true rfl⟩) ⟨by omega, by omega⟩ hL0 rfl rfl hl.1 rfl (Nat.le_of_ble_eq_true rfl) dX9_removes_49 ⟨Nat.zero_le _, Nat.zero_le _⟩ (fun f5 H locs hM hp6 => ?_)
        obtain ⟨hn7, o8⟩ := hp6
        obtain ⟨Pz9, hPz9⟩ : ∃ Q : Nat → Int, Q = pu Pi (8) (Pi (8) + (-1)) := ⟨_, rfl⟩
        rw [← hPz9] at hn7
        have hpc9 : Pz9 8 = P 8 - 1 := by rw [hPz9, pu_s, hPc]; omega
        refine lv_aload_n hx hb dX9_removes_52 rfl (lv_at hl 0 rfl) ?_
        refine lv_iload_n hx hb dX9_removes_53 rfl (lv_at hl 3 rfl) ?_
        have hf10 : f5 (h) = .inr (11, [.int (zI (Z 0)), .ref (h + 1), .ref (h + 2), .ref (h + 3), .ref (h + 4), .ref (h + 5), .ref (h + 6), .ref (h + 7), .ref (h + 8), .int (zI (Z 9)), .int (zI (Z 10)), .int (zI (Z 11)), .int (zI (Z 12)), .int (zI (Z 13)), .int (zI (Z 14)), .int (zI (Z 15)), .int (zI (Z 16)), .ref (h + 9), .ref (h + 10), .ref (h + 11), .int (zI (Z 20)), .int (zI (Z 21)), .int (zI (Z 22)), .ref (h + 12)]) := (o8 (h) (by omega)).trans hL0
        have hC11 := c_X9_n l g b0 n f5 h Z M aa Pz9 8 (8) hf10 hn7 hrg hat haa (by omega) (by omega)
        refine g_callVi (ci := 11) (C := RX9) (T := TX9) (N := 24) (As := [.int (zI 8)]) (rest := []) ⟨hx, hb, hml, hown, hts⟩ hK hM hC11 (cuV (n := 1) hts u_1249 u_1246 u_10 (by decide) u_1248 us_30 ⟨Nat.le_of_ble_eq_true rfl, Nat.le_of_ble_eq_true rfl⟩) ⟨by omega, by omega⟩ hf10 rfl rfl hl.1 rfl (Nat.le_of_ble_eq_true rfl) dX9_removes_54 ⟨Nat.zero_le _, Nat.zero_le _⟩ (fun r54 f12 H locs hM hp13 => ?_)
        obtain ⟨rfl, rfl⟩ := hp13
        rw [hpc9]
        refine g_iret hx hb hr hlk hK hM dX9_removes_57 ?_
        refine ⟨rfl, hn7.cong (fun j hj => ?_), (fun q hq => ((o8 (q) (by omega)).trans (hfr (q) (by omega))))⟩
        rw [hPz9]
        simp only [sRem]
        exact (Classical.em (j = 8)).elim (fun hz => by subst hz; rw [if_pos rfl, pu_s, hPc]; omega) (fun hz => by rw [if_neg hz, pu_n hz, hPi]; exact if_cg (by omega) _ _)
      · skip
        refine lv_aload_n hx hb dX9_removes_24 rfl (lv_at hl 0 rfl) ?_
        refine lv_iload hx hb dX9_removes_25 (lv_at hl 5 rfl) ?_
        refine lv_aload_n hx hb dX9_removes_27 rfl (lv_at hl 0 rfl) ?_
        refine lv_iload hx hb dX9_removes_28 (lv_at hl 5 rfl) ?_
        refine lv_iload_n hx hb dX9_removes_30 rfl (lv_at hl 2 rfl) ?_
        refine g_iadd hx hb dX9_removes_31 ?_
        have hC14 := c_X9_p l g b0 n fL h Z M aa Pi ((↑i : Int) + 3) (3 + i) hL0 hL1 hrg hat haa (by omega) (by omega)
        refine g_callVl (ci := 11) (C := RX9) (T := TX9) (N := 24) (As := [.int (zI ((↑i : Int) + 3))]) (rest := [.int (zI (↑i : Int)), .ref h]) ⟨hx, hb, hml, hown, hts⟩ hK hM hC14 (cuV (n := 1) hts u_1283 u_1280 u_10 (by decide) u_1282 us_37 ⟨Nat.le_of_ble_eq_true rfl, Nat.le_of_ble_eq_true rfl⟩) ⟨by omega, by omega⟩ hL0 rfl rfl hl.1 rfl (Nat.le_of_ble_eq_true rfl) dX9_removes_32 ⟨Nat.zero_le _, Nat.zero_le _⟩ (fun r32 f15 H locs hM hp16 => ?_)
        obtain ⟨rfl, rfl⟩ := hp16
        have hC17 := c_X9_puts l g b0 n fL h Z M aa Pi (↑i : Int) (i) (Pi (3 + i)) hL0 hL1 hrg hat haa (by omega) (by omega)
        refine g_callVv (ci := 11) (C := RX9) (T := TX9) (N := 24) (As := [.int (zI (↑i : Int)), .long (zL (Pi (3 + i)))]) (rest := []) ⟨hx, hb, hml, hown, hts⟩ hK hM hC17 (cuV (n := 2) hts u_1257 u_1254 u_10 (by decide) u_1256 us_32 ⟨Nat.le_of_ble_eq_true rfl, Nat.le_of_ble_eq_true rfl⟩) ⟨by omega, by omega⟩ hL0 rfl rfl hl.1 rfl (Nat.le_of_ble_eq_true rfl) dX9_removes_35 ⟨Nat.zero_le _, Nat.zero_le _⟩ (fun f18 H locs hM hp19 => ?_)
        obtain ⟨hn20, o21⟩ := hp19
        obtain ⟨Pz22, hPz22⟩ : ∃ Q : Nat → Int, Q = pu Pi (i) (Pi (3 + i)) := ⟨_, rfl⟩
        rw [← hPz22] at hn20
        refine lv_iinc (v := zI ((↑i : Int) + 1)) (lv' := [(5, .int (zI ((↑i : Int) + 1))), (0, .ref h), (1, .int (zI 51)), (2, .int (zI 3)), (3, .int (zI 8)), (4, .int (zI (↑e : Int)))]) hx hb dX9_removes_38 hl (k := 5) rfl (zI_add _ _) (by decide) rfl (fun ls hl => ?_)
        refine lv_goto (tgt := 8) hx hb dX9_removes_41 (by decide) ?_
        have hf23 : f18 (h) = .inr (11, [.int (zI (Z 0)), .ref (h + 1), .ref (h + 2), .ref (h + 3), .ref (h + 4), .ref (h + 5), .ref (h + 6), .ref (h + 7), .ref (h + 8), .int (zI (Z 9)), .int (zI (Z 10)), .int (zI (Z 11)), .int (zI (Z 12)), .int (zI (Z 13)), .int (zI (Z 14)), .int (zI (Z 15)), .int (zI (Z 16)), .ref (h + 9), .ref (h + 10), .ref (h + 11), .int (zI (Z 20)), .int (zI (Z 21)), .int (zI (Z 22)), .ref (h + 12)]) := (o21 (h) (by omega)).trans hL0
        exact ih8 (i + 1) Pz22 f18 _ _ _ (by omega) (by omega) (by omega) (fun j => by rw [hPz22]; exact (Classical.em (j = i)).elim (fun hz => by rw [hz, pu_s, hPi, if_neg (by omega), if_pos (by omega), Nat.add_comm 3 i]) (fun hz => by rw [pu_n hz, hPi]; exact if_cg (by omega) _ _)) (fun q hq => ((o21 (q) (by omega)).trans (hfr (q) (by omega)))) hM hf23 hn20 (lv_sub hl [1, 2, 3, 4, 5, 0] rfl)
  exact lp8 (148) (51 + 3 * e) P f _ _ _ (by omega) (by omega) (by omega) (fun j => by rw [if_neg (by omega)]) (fun q hq => rfl) hM hO hP (lv_sub hl [1, 2, 3, 4, 5, 0] rfl)

def po_X9_removes5 (g : gE) (f : gF) (h : Nat) (Z M : Nat → Int) (aa : Nat) (P : Nat → Int) (e : Nat) : Int32 → gF → Prop := fun r f1 => r = zI (P 9 - 1) ∧ mpAt g f1 h M aa (sRem P 69 5 9 e) ∧ ∀ q, q ≠ h + 1 → f1 q = f q
set_option maxRecDepth 100000 in
set_option maxHeartbeats 1000000 in
/-- removes 5 -/
theorem c_X9_removes5 (l : Launch) (g : gE) (b0 n : Nat) (f : gF) (h : Nat) (Z M : Nat → Int) (aa : Nat) (P : Nat → Int) (e : Nat) (hO : mdO f h Z) (hP : mpAt g f h M aa P) (hrg : b0 ≤ h ∧ h + 13 ≤ b0 + n) (hat : Z 11 = ↑aa) (haa : aa + 147 ≤ 2058) (hcn : 0 ≤ P 9 ∧ P 9 ≤ 6) (he : (e : Int) < P 9) : cI l yX9_removes cX9_removes 6 (some .int) 1 23 [.ref h, .int (zI 69), .int (zI 5), .int (zI 9), .int (zI (↑e : Int))] g b0 n f (po_X9_removes5 g f h Z M aa P e) := by
  refine gs_i (cc := cX9_removes) (maxL := 6) (ret := (some .int)) (by decide) (Nat.le_of_ble_eq_true rfl) ?_
  intro p e0 s m args below meth c ls hx hb hr hml hown hts hlk hK hM hl
  have hl : lv_has ls 6 [(0, .ref h), (1, .int (zI 69)), (2, .int (zI 5)), (3, .int (zI 9)), (4, .int (zI (↑e : Int)))] := hl
  have hcn1 := hcn.1
  have hcn2 := hcn.2
  refine lv_iload_n hx hb dX9_removes_0 rfl (lv_at hl 1 rfl) ?_
  refine lv_iload_n hx hb dX9_removes_1 rfl (lv_at hl 2 rfl) ?_
  refine lv_iload hx hb dX9_removes_2 (lv_at hl 4 rfl) ?_
  refine g_imul hx hb dX9_removes_4 ?_
  refine g_iadd hx hb dX9_removes_5 ?_
  refine lv_istore (lv' := [(5, .int (zI (69 + (5 * (↑e : Int))))), (0, .ref h), (1, .int (zI 69)), (2, .int (zI 5)), (3, .int (zI 9)), (4, .int (zI (↑e : Int)))]) hx hb dX9_removes_6 hl (by decide) rfl (fun ls hl => ?_)
  have lp8 : ∀ (k : Nat), ∀ (i : Nat) (Pi : Nat → Int) (fL : gF) (H : Heap) (locs : List Loc) (ls : Array Slot), (147 - i < k) → (69 + 5 * e ≤ i) → ((i : Int) ≤ 69 + 5 * (P 9 - 1)) → (∀ j, Pi j = if 69 + 5 * e ≤ j ∧ j < i then P (j + 5) else P j) → (∀ q, q ≠ h + 1 → fL q = f q) → gH g b0 n fL s.heap H locs → (mdO fL h Z) → (mpAt g fL h M aa Pi) → lv_has ls 6 [(0, .ref h), (1, .int (zI 69)), (2, .int (zI 5)), (3, .int (zI 9)), (4, .int (zI (↑e : Int))), (5, .int (zI (↑i : Int)))] → W p l e0 { frames := 1, cells := 0, slots := 0, locals := 23 } s m args below meth c H locs 0 0 (MQ below (va_Qi (po_X9_removes5 g f h Z M aa P e) (gB g b0 n) (gA b0)) args s 0 0 (gA b0)) (F0 m 8 ls []) := by
    intro k
    induction k with
    | zero =>
      intro i Pi fL H locs ls hk hi1 hi2 hPi hfr hM hL0 hL1 hl
      exact absurd hk (Nat.not_lt_zero _)
    | succ k ih8 =>
      intro i Pi fL H locs ls hk hi1 hi2 hPi hfr hM hL0 hL1 hl
      have hPc : Pi 9 = P 9 := by rw [hPi, if_neg (by omega)]
      refine lv_iload hx hb dX9_removes_8 (lv_at hl 5 rfl) ?_
      refine lv_iload_n hx hb dX9_removes_10 rfl (lv_at hl 1 rfl) ?_
      refine lv_iload_n hx hb dX9_removes_11 rfl (lv_at hl 2 rfl) ?_
      refine lv_aload_n hx hb dX9_removes_12 rfl (lv_at hl 0 rfl) ?_
      refine lv_iload_n hx hb dX9_removes_13 rfl (lv_at hl 3 rfl) ?_
      have hC1 := c_X9_n l g b0 n fL h Z M aa Pi 9 (9) hL0 hL1 hrg hat haa (by omega) (by omega)
      refine g_callVi (ci := 11) (C := RX9) (T := TX9) (N := 24) (As := [.int (zI 9)]) (rest := [.int (zI 5), .int (zI 69), .int (zI (↑i : Int))]) ⟨hx, hb, hml, hown, hts⟩ hK hM hC1 (cuV (n := 1) hts u_1249 u_1246 u_10 (by decide) u_1248 us_30 ⟨Nat.le_of_ble_eq_true rfl, Nat.le_of_ble_eq_true rfl⟩) ⟨by omega, by omega⟩ hL0 rfl rfl hl.1 rfl (Nat.le_of_ble_eq_true rfl) dX9_removes_14 ⟨Nat.zero_le _, Nat.zero_le _⟩ (fun r14 f2 H locs hM hp3 => ?_)
      obtain ⟨rfl, rfl⟩ := hp3
      rw [hPc]
      refine g_iconst hx hb dX9_removes_17 ?_
      refine g_isub hx hb dX9_removes_18 ?_
      refine g_imul hx hb dX9_removes_19 ?_
      refine g_iadd hx hb dX9_removes_20 ?_
      refine g_icmp_ge (tgt := 44) hx hb dX9_removes_21 (by decide) ⟨by omega, by omega⟩ ⟨by omega, by omega⟩ (fun c21 => ?_) (fun c21 => ?_)
      · skip
        refine lv_aload_n hx hb dX9_removes_44 rfl (lv_at hl 0 rfl) ?_
        refine lv_iload_n hx hb dX9_removes_45 rfl (lv_at hl 3 rfl) ?_
        refine g_ldc2 (z := -1) hx hb hown (hts _ u_1236) dX9_removes_46 (by decide) ?_
        have hC4 := c_X9_adds l g b0 n fL h Z M aa Pi 9 (9) (-1) hL0 hL1 hrg hat haa (by omega) (by omega)
        refine g_callVv (ci := 11) (C := RX9) (T := TX9) (N := 24) (As := [.int (zI 9), .long (zL (-1))]) (rest := []) ⟨hx, hb, hml, hown, hts⟩ hK hM hC4 (cuV (n := 2) hts u_1261 u_1258 u_10 (by decide) u_1260 us_33 ⟨Nat.le_of_ble_eq_true rfl, Nat.le_of_ble_eq_true rfl⟩) ⟨by omega, by omega⟩ hL0 rfl rfl hl.1 rfl (Nat.le_of_ble_eq_true rfl) dX9_removes_49 ⟨Nat.zero_le _, Nat.zero_le _⟩ (fun f5 H locs hM hp6 => ?_)
        obtain ⟨hn7, o8⟩ := hp6
        obtain ⟨Pz9, hPz9⟩ : ∃ Q : Nat → Int, Q = pu Pi (9) (Pi (9) + (-1)) := ⟨_, rfl⟩
        rw [← hPz9] at hn7
        have hpc9 : Pz9 9 = P 9 - 1 := by rw [hPz9, pu_s, hPc]; omega
        refine lv_aload_n hx hb dX9_removes_52 rfl (lv_at hl 0 rfl) ?_
        refine lv_iload_n hx hb dX9_removes_53 rfl (lv_at hl 3 rfl) ?_
        have hf10 : f5 (h) = .inr (11, [.int (zI (Z 0)), .ref (h + 1), .ref (h + 2), .ref (h + 3), .ref (h + 4), .ref (h + 5), .ref (h + 6), .ref (h + 7), .ref (h + 8), .int (zI (Z 9)), .int (zI (Z 10)), .int (zI (Z 11)), .int (zI (Z 12)), .int (zI (Z 13)), .int (zI (Z 14)), .int (zI (Z 15)), .int (zI (Z 16)), .ref (h + 9), .ref (h + 10), .ref (h + 11), .int (zI (Z 20)), .int (zI (Z 21)), .int (zI (Z 22)), .ref (h + 12)]) := (o8 (h) (by omega)).trans hL0
        have hC11 := c_X9_n l g b0 n f5 h Z M aa Pz9 9 (9) hf10 hn7 hrg hat haa (by omega) (by omega)
        refine g_callVi (ci := 11) (C := RX9) (T := TX9) (N := 24) (As := [.int (zI 9)]) (rest := []) ⟨hx, hb, hml, hown, hts⟩ hK hM hC11 (cuV (n := 1) hts u_1249 u_1246 u_10 (by decide) u_1248 us_30 ⟨Nat.le_of_ble_eq_true rfl, Nat.le_of_ble_eq_true rfl⟩) ⟨by omega, by omega⟩ hf10 rfl rfl hl.1 rfl (Nat.le_of_ble_eq_true rfl) dX9_removes_54 ⟨Nat.zero_le _, Nat.zero_le _⟩ (fun r54 f12 H locs hM hp13 => ?_)
        obtain ⟨rfl, rfl⟩ := hp13
        rw [hpc9]
        refine g_iret hx hb hr hlk hK hM dX9_removes_57 ?_
        refine ⟨rfl, hn7.cong (fun j hj => ?_), (fun q hq => ((o8 (q) (by omega)).trans (hfr (q) (by omega))))⟩
        rw [hPz9]
        simp only [sRem]
        exact (Classical.em (j = 9)).elim (fun hz => by subst hz; rw [if_pos rfl, pu_s, hPc]; omega) (fun hz => by rw [if_neg hz, pu_n hz, hPi]; exact if_cg (by omega) _ _)
      · skip
        refine lv_aload_n hx hb dX9_removes_24 rfl (lv_at hl 0 rfl) ?_
        refine lv_iload hx hb dX9_removes_25 (lv_at hl 5 rfl) ?_
        refine lv_aload_n hx hb dX9_removes_27 rfl (lv_at hl 0 rfl) ?_
        refine lv_iload hx hb dX9_removes_28 (lv_at hl 5 rfl) ?_
        refine lv_iload_n hx hb dX9_removes_30 rfl (lv_at hl 2 rfl) ?_
        refine g_iadd hx hb dX9_removes_31 ?_
        have hC14 := c_X9_p l g b0 n fL h Z M aa Pi ((↑i : Int) + 5) (5 + i) hL0 hL1 hrg hat haa (by omega) (by omega)
        refine g_callVl (ci := 11) (C := RX9) (T := TX9) (N := 24) (As := [.int (zI ((↑i : Int) + 5))]) (rest := [.int (zI (↑i : Int)), .ref h]) ⟨hx, hb, hml, hown, hts⟩ hK hM hC14 (cuV (n := 1) hts u_1283 u_1280 u_10 (by decide) u_1282 us_37 ⟨Nat.le_of_ble_eq_true rfl, Nat.le_of_ble_eq_true rfl⟩) ⟨by omega, by omega⟩ hL0 rfl rfl hl.1 rfl (Nat.le_of_ble_eq_true rfl) dX9_removes_32 ⟨Nat.zero_le _, Nat.zero_le _⟩ (fun r32 f15 H locs hM hp16 => ?_)
        obtain ⟨rfl, rfl⟩ := hp16
        have hC17 := c_X9_puts l g b0 n fL h Z M aa Pi (↑i : Int) (i) (Pi (5 + i)) hL0 hL1 hrg hat haa (by omega) (by omega)
        refine g_callVv (ci := 11) (C := RX9) (T := TX9) (N := 24) (As := [.int (zI (↑i : Int)), .long (zL (Pi (5 + i)))]) (rest := []) ⟨hx, hb, hml, hown, hts⟩ hK hM hC17 (cuV (n := 2) hts u_1257 u_1254 u_10 (by decide) u_1256 us_32 ⟨Nat.le_of_ble_eq_true rfl, Nat.le_of_ble_eq_true rfl⟩) ⟨by omega, by omega⟩ hL0 rfl rfl hl.1 rfl (Nat.le_of_ble_eq_true rfl) dX9_removes_35 ⟨Nat.zero_le _, Nat.zero_le _⟩ (fun f18 H locs hM hp19 => ?_)
        obtain ⟨hn20, o21⟩ := hp19
        obtain ⟨Pz22, hPz22⟩ : ∃ Q : Nat → Int, Q = pu Pi (i) (Pi (5 + i)) := ⟨_, rfl⟩
        rw [← hPz22] at hn20
        refine lv_iinc (v := zI ((↑i : Int) + 1)) (lv' := [(5, .int (zI ((↑i : Int) + 1))), (0, .ref h), (1, .int (zI 69)), (2, .int (zI 5)), (3, .int (zI 9)), (4, .int (zI (↑e : Int)))]) hx hb dX9_removes_38 hl (k := 5) rfl (zI_add _ _) (by decide) rfl (fun ls hl => ?_)
        refine lv_goto (tgt := 8) hx hb dX9_removes_41 (by decide) ?_
        have hf23 : f18 (h) = .inr (11, [.int (zI (Z 0)), .ref (h + 1), .ref (h + 2), .ref (h + 3), .ref (h + 4), .ref (h + 5), .ref (h + 6), .ref (h + 7), .ref (h + 8), .int (zI (Z 9)), .int (zI (Z 10)), .int (zI (Z 11)), .int (zI (Z 12)), .int (zI (Z 13)), .int (zI (Z 14)), .int (zI (Z 15)), .int (zI (Z 16)), .ref (h + 9), .ref (h + 10), .ref (h + 11), .int (zI (Z 20)), .int (zI (Z 21)), .int (zI (Z 22)), .ref (h + 12)]) := (o21 (h) (by omega)).trans hL0
        exact ih8 (i + 1) Pz22 f18 _ _ _ (by omega) (by omega) (by omega) (fun j => by rw [hPz22]; exact (Classical.em (j = i)).elim (fun hz => by rw [hz, pu_s, hPi, if_neg (by omega), if_pos (by omega), Nat.add_comm 5 i]) (fun hz => by rw [pu_n hz, hPi]; exact if_cg (by omega) _ _)) (fun q hq => ((o21 (q) (by omega)).trans (hfr (q) (by omega)))) hM hf23 hn20 (lv_sub hl [1, 2, 3, 4, 5, 0] rfl)
  exact lp8 (148) (69 + 5 * e) P f _ _ _ (by omega) (by omega) (by omega) (fun j => by rw [if_neg (by omega)]) (fun q hq => rfl) hM hO hP (lv_sub hl [1, 2, 3, 4, 5, 0] rfl)

def po_X9_removes6 (g : gE) (f : gF) (h : Nat) (Z M : Nat → Int) (aa : Nat) (P : Nat → Int) (e : Nat) : Int32 → gF → Prop := fun r f1 => r = zI (P 10 - 1) ∧ mpAt g f1 h M aa (sRem P 99 6 10 e) ∧ ∀ q, q ≠ h + 1 → f1 q = f q
set_option maxRecDepth 100000 in
set_option maxHeartbeats 1000000 in
/-- removes 6 -/
theorem c_X9_removes6 (l : Launch) (g : gE) (b0 n : Nat) (f : gF) (h : Nat) (Z M : Nat → Int) (aa : Nat) (P : Nat → Int) (e : Nat) (hO : mdO f h Z) (hP : mpAt g f h M aa P) (hrg : b0 ≤ h ∧ h + 13 ≤ b0 + n) (hat : Z 11 = ↑aa) (haa : aa + 147 ≤ 2058) (hcn : 0 ≤ P 10 ∧ P 10 ≤ 8) (he : (e : Int) < P 10) : cI l yX9_removes cX9_removes 6 (some .int) 1 23 [.ref h, .int (zI 99), .int (zI 6), .int (zI 10), .int (zI (↑e : Int))] g b0 n f (po_X9_removes6 g f h Z M aa P e) := by
  refine gs_i (cc := cX9_removes) (maxL := 6) (ret := (some .int)) (by decide) (Nat.le_of_ble_eq_true rfl) ?_
  intro p e0 s m args below meth c ls hx hb hr hml hown hts hlk hK hM hl
  have hl : lv_has ls 6 [(0, .ref h), (1, .int (zI 99)), (2, .int (zI 6)), (3, .int (zI 10)), (4, .int (zI (↑e : Int)))] := hl
  have hcn1 := hcn.1
  have hcn2 := hcn.2
  refine lv_iload_n hx hb dX9_removes_0 rfl (lv_at hl 1 rfl) ?_
  refine lv_iload_n hx hb dX9_removes_1 rfl (lv_at hl 2 rfl) ?_
  refine lv_iload hx hb dX9_removes_2 (lv_at hl 4 rfl) ?_
  refine g_imul hx hb dX9_removes_4 ?_
  refine g_iadd hx hb dX9_removes_5 ?_
  refine lv_istore (lv' := [(5, .int (zI (99 + (6 * (↑e : Int))))), (0, .ref h), (1, .int (zI 99)), (2, .int (zI 6)), (3, .int (zI 10)), (4, .int (zI (↑e : Int)))]) hx hb dX9_removes_6 hl (by decide) rfl (fun ls hl => ?_)
  have lp8 : ∀ (k : Nat), ∀ (i : Nat) (Pi : Nat → Int) (fL : gF) (H : Heap) (locs : List Loc) (ls : Array Slot), (147 - i < k) → (99 + 6 * e ≤ i) → ((i : Int) ≤ 99 + 6 * (P 10 - 1)) → (∀ j, Pi j = if 99 + 6 * e ≤ j ∧ j < i then P (j + 6) else P j) → (∀ q, q ≠ h + 1 → fL q = f q) → gH g b0 n fL s.heap H locs → (mdO fL h Z) → (mpAt g fL h M aa Pi) → lv_has ls 6 [(0, .ref h), (1, .int (zI 99)), (2, .int (zI 6)), (3, .int (zI 10)), (4, .int (zI (↑e : Int))), (5, .int (zI (↑i : Int)))] → W p l e0 { frames := 1, cells := 0, slots := 0, locals := 23 } s m args below meth c H locs 0 0 (MQ below (va_Qi (po_X9_removes6 g f h Z M aa P e) (gB g b0 n) (gA b0)) args s 0 0 (gA b0)) (F0 m 8 ls []) := by
    intro k
    induction k with
    | zero =>
      intro i Pi fL H locs ls hk hi1 hi2 hPi hfr hM hL0 hL1 hl
      exact absurd hk (Nat.not_lt_zero _)
    | succ k ih8 =>
      intro i Pi fL H locs ls hk hi1 hi2 hPi hfr hM hL0 hL1 hl
      have hPc : Pi 10 = P 10 := by rw [hPi, if_neg (by omega)]
      refine lv_iload hx hb dX9_removes_8 (lv_at hl 5 rfl) ?_
      refine lv_iload_n hx hb dX9_removes_10 rfl (lv_at hl 1 rfl) ?_
      refine lv_iload_n hx hb dX9_removes_11 rfl (lv_at hl 2 rfl) ?_
      refine lv_aload_n hx hb dX9_removes_12 rfl (lv_at hl 0 rfl) ?_
      refine lv_iload_n hx hb dX9_removes_13 rfl (lv_at hl 3 rfl) ?_
      have hC1 := c_X9_n l g b0 n fL h Z M aa Pi 10 (10) hL0 hL1 hrg hat haa (by omega) (by omega)
      refine g_callVi (ci := 11) (C := RX9) (T := TX9) (N := 24) (As := [.int (zI 10)]) (rest := [.int (zI 6), .int (zI 99), .int (zI (↑i : Int))]) ⟨hx, hb, hml, hown, hts⟩ hK hM hC1 (cuV (n := 1) hts u_1249 u_1246 u_10 (by decide) u_1248 us_30 ⟨Nat.le_of_ble_eq_true rfl, Nat.le_of_ble_eq_true rfl⟩) ⟨by omega, by omega⟩ hL0 rfl rfl hl.1 rfl (Nat.le_of_ble_eq_true rfl) dX9_removes_14 ⟨Nat.zero_le _, Nat.zero_le _⟩ (fun r14 f2 H locs hM hp3 => ?_)
      obtain ⟨rfl, rfl⟩ := hp3
      rw [hPc]
      refine g_iconst hx hb dX9_removes_17 ?_
      refine g_isub hx hb dX9_removes_18 ?_
      refine g_imul hx hb dX9_removes_19 ?_
      refine g_iadd hx hb dX9_removes_20 ?_
      refine g_icmp_ge (tgt := 44) hx hb dX9_removes_21 (by decide) ⟨by omega, by omega⟩ ⟨by omega, by omega⟩ (fun c21 => ?_) (fun c21 => ?_)
      · skip
        refine lv_aload_n hx hb dX9_removes_44 rfl (lv_at hl 0 rfl) ?_
        refine lv_iload_n hx hb dX9_removes_45 rfl (lv_at hl 3 rfl) ?_
        refine g_ldc2 (z := -1) hx hb hown (hts _ u_1236) dX9_removes_46 (by decide) ?_
        have hC4 := c_X9_adds l g b0 n fL h Z M aa Pi 10 (10) (-1) hL0 hL1 hrg hat haa (by omega) (by omega)
        refine g_callVv (ci := 11) (C := RX9) (T := TX9) (N := 24) (As := [.int (zI 10), .long (zL (-1))]) (rest := []) ⟨hx, hb, hml, hown, hts⟩ hK hM hC4 (cuV (n := 2) hts u_1261 u_1258 u_10 (by decide) u_1260 us_33 ⟨Nat.le_of_ble_eq_true rfl, Nat.le_of_ble_eq_true rfl⟩) ⟨by omega, by omega⟩ hL0 rfl rfl hl.1 rfl (Nat.le_of_ble_eq_true rfl) dX9_removes_49 ⟨Nat.zero_le _, Nat.zero_le _⟩ (fun f5 H locs hM hp6 => ?_)
        obtain ⟨hn7, o8⟩ := hp6
        obtain ⟨Pz9, hPz9⟩ : ∃ Q : Nat → Int, Q = pu Pi (10) (Pi (10) + (-1)) := ⟨_, rfl⟩
        rw [← hPz9] at hn7
        have hpc9 : Pz9 10 = P 10 - 1 := by rw [hPz9, pu_s, hPc]; omega
        refine lv_aload_n hx hb dX9_removes_52 rfl (lv_at hl 0 rfl) ?_
        refine lv_iload_n hx hb dX9_removes_53 rfl (lv_at hl 3 rfl) ?_
        have hf10 : f5 (h) = .inr (11, [.int (zI (Z 0)), .ref (h + 1), .ref (h + 2), .ref (h + 3), .ref (h + 4), .ref (h + 5), .ref (h + 6), .ref (h + 7), .ref (h + 8), .int (zI (Z 9)), .int (zI (Z 10)), .int (zI (Z 11)), .int (zI (Z 12)), .int (zI (Z 13)), .int (zI (Z 14)), .int (zI (Z 15)), .int (zI (Z 16)), .ref (h + 9), .ref (h + 10), .ref (h + 11), .int (zI (Z 20)), .int (zI (Z 21)), .int (zI (Z 22)), .ref (h + 12)]) := (o8 (h) (by omega)).trans hL0
        have hC11 := c_X9_n l g b0 n f5 h Z M aa Pz9 10 (10) hf10 hn7 hrg hat haa (by omega) (by omega)
        refine g_callVi (ci := 11) (C := RX9) (T := TX9) (N := 24) (As := [.int (zI 10)]) (rest := []) ⟨hx, hb, hml, hown, hts⟩ hK hM hC11 (cuV (n := 1) hts u_1249 u_1246 u_10 (by decide) u_1248 us_30 ⟨Nat.le_of_ble_eq_true rfl, Nat.le_of_ble_eq_true rfl⟩) ⟨by omega, by omega⟩ hf10 rfl rfl hl.1 rfl (Nat.le_of_ble_eq_true rfl) dX9_removes_54 ⟨Nat.zero_le _, Nat.zero_le _⟩ (fun r54 f12 H locs hM hp13 => ?_)
        obtain ⟨rfl, rfl⟩ := hp13
        rw [hpc9]
        refine g_iret hx hb hr hlk hK hM dX9_removes_57 ?_
        refine ⟨rfl, hn7.cong (fun j hj => ?_), (fun q hq => ((o8 (q) (by omega)).trans (hfr (q) (by omega))))⟩
        rw [hPz9]
        simp only [sRem]
        exact (Classical.em (j = 10)).elim (fun hz => by subst hz; rw [if_pos rfl, pu_s, hPc]; omega) (fun hz => by rw [if_neg hz, pu_n hz, hPi]; exact if_cg (by omega) _ _)
      · skip
        refine lv_aload_n hx hb dX9_removes_24 rfl (lv_at hl 0 rfl) ?_
        refine lv_iload hx hb dX9_removes_25 (lv_at hl 5 rfl) ?_
        refine lv_aload_n hx hb dX9_removes_27 rfl (lv_at hl 0 rfl) ?_
        refine lv_iload hx hb dX9_removes_28 (lv_at hl 5 rfl) ?_
        refine lv_iload_n hx hb dX9_removes_30 rfl (lv_at hl 2 rfl) ?_
        refine g_iadd hx hb dX9_removes_31 ?_
        have hC14 := c_X9_p l g b0 n fL h Z M aa Pi ((↑i : Int) + 6) (6 + i) hL0 hL1 hrg hat haa (by omega) (by omega)
        refine g_callVl (ci := 11) (C := RX9) (T := TX9) (N := 24) (As := [.int (zI ((↑i : Int) + 6))]) (rest := [.int (zI (↑i : Int)), .ref h]) ⟨hx, hb, hml, hown, hts⟩ hK hM hC14 (cuV (n := 1) hts u_1283 u_1280 u_10 (by decide) u_1282 us_37 ⟨Nat.le_of_ble_eq_true rfl, Nat.le_of_ble_eq_true rfl⟩) ⟨by omega, by omega⟩ hL0 rfl rfl hl.1 rfl (Nat.le_of_ble_eq_true rfl) dX9_removes_32 ⟨Nat.zero_le _, Nat.zero_le _⟩ (fun r32 f15 H locs hM hp16 => ?_)
        obtain ⟨rfl, rfl⟩ := hp16
        have hC17 := c_X9_puts l g b0 n fL h Z M aa Pi (↑i : Int) (i) (Pi (6 + i)) hL0 hL1 hrg hat haa (by omega) (by omega)
        refine g_callVv (ci := 11) (C := RX9) (T := TX9) (N := 24) (As := [.int (zI (↑i : Int)), .long (zL (Pi (6 + i)))]) (rest := []) ⟨hx, hb, hml, hown, hts⟩ hK hM hC17 (cuV (n := 2) hts u_1257 u_1254 u_10 (by decide) u_1256 us_32 ⟨Nat.le_of_ble_eq_true rfl, Nat.le_of_ble_eq_true rfl⟩) ⟨by omega, by omega⟩ hL0 rfl rfl hl.1 rfl (Nat.le_of_ble_eq_true rfl) dX9_removes_35 ⟨Nat.zero_le _, Nat.zero_le _⟩ (fun f18 H locs hM hp19 => ?_)
        obtain ⟨hn20, o21⟩ := hp19
        obtain ⟨Pz22, hPz22⟩ : ∃ Q : Nat → Int, Q = pu Pi (i) (Pi (6 + i)) := ⟨_, rfl⟩
        rw [← hPz22] at hn20
        refine lv_iinc (v := zI ((↑i : Int) + 1)) (lv' := [(5, .int (zI ((↑i : Int) + 1))), (0, .ref h), (1, .int (zI 99)), (2, .int (zI 6)), (3, .int (zI 10)), (4, .int (zI (↑e : Int)))]) hx hb dX9_removes_38 hl (k := 5) rfl (zI_add _ _) (by decide) rfl (fun ls hl => ?_)
        refine lv_goto (tgt := 8) hx hb dX9_removes_41 (by decide) ?_
        have hf23 : f18 (h) = .inr (11, [.int (zI (Z 0)), .ref (h + 1), .ref (h + 2), .ref (h + 3), .ref (h + 4), .ref (h + 5), .ref (h + 6), .ref (h + 7), .ref (h + 8), .int (zI (Z 9)), .int (zI (Z 10)), .int (zI (Z 11)), .int (zI (Z 12)), .int (zI (Z 13)), .int (zI (Z 14)), .int (zI (Z 15)), .int (zI (Z 16)), .ref (h + 9), .ref (h + 10), .ref (h + 11), .int (zI (Z 20)), .int (zI (Z 21)), .int (zI (Z 22)), .ref (h + 12)]) := (o21 (h) (by omega)).trans hL0
        exact ih8 (i + 1) Pz22 f18 _ _ _ (by omega) (by omega) (by omega) (fun j => by rw [hPz22]; exact (Classical.em (j = i)).elim (fun hz => by rw [hz, pu_s, hPi, if_neg (by omega), if_pos (by omega), Nat.add_comm 6 i]) (fun hz => by rw [pu_n hz, hPi]; exact if_cg (by omega) _ _)) (fun q hq => ((o21 (q) (by omega)).trans (hfr (q) (by omega)))) hM hf23 hn20 (lv_sub hl [1, 2, 3, 4, 5, 0] rfl)
  exact lp8 (148) (99 + 6 * e) P f _ _ _ (by omega) (by omega) (by omega) (fun j => by rw [if_neg (by omega)]) (fun q hq => rfl) hM hO hP (lv_sub hl [1, 2, 3, 4, 5, 0] rfl)

def po_X9_isPlace (g : gE) (f : gF) (h : Nat) (Z M : Nat → Int) (aa : Nat) (P : Nat → Int) (x : Int) : Int32 → gF → Prop := fun r f1 => r = bI (x = -1 ∨ (0 ≤ x ∧ x < P 7)) ∧ f = f1
set_option maxRecDepth 100000 in
set_option maxHeartbeats 1000000 in
/-- isPlace -/
theorem c_X9_isPlace (l : Launch) (g : gE) (b0 n : Nat) (f : gF) (h : Nat) (Z M : Nat → Int) (aa : Nat) (P : Nat → Int) (x : Int) (hO : mdO f h Z) (hP : mpAt g f h M aa P) (hrg : b0 ≤ h ∧ h + 13 ≤ b0 + n) (hat : Z 11 = ↑aa) (haa : aa + 147 ≤ 2058) (hcn7 : 0 ≤ P 7 ∧ P 7 ≤ 10) (hrx : rI x) : cI l yX9_isPlace cX9_isPlace 2 (some .boolean) 2 46 [.ref h, .int (zI x)] g b0 n f (po_X9_isPlace g f h Z M aa P x) := by
  refine gs_i (cc := cX9_isPlace) (maxL := 2) (ret := (some .boolean)) (by decide) (Nat.le_of_ble_eq_true rfl) ?_
  intro p e0 s m args below meth c ls hx hb hr hml hown hts hlk hK hM hl
  have hl : lv_has ls 2 [(0, .ref h), (1, .int (zI x))] := hl
  refine lv_iload_n hx hb dX9_isPlace_0 rfl (lv_at hl 1 rfl) ?_
  refine g_iconst hx hb dX9_isPlace_1 ?_
  refine g_icmp_eq (tgt := 13) hx hb dX9_isPlace_2 (by decide) hrx (by decide) (fun c2 => ?_) (fun c2 => ?_)
  · skip
    refine g_iconst hx hb dX9_isPlace_13 ?_
    refine lv_goto (tgt := 18) hx hb dX9_isPlace_14 (by decide) ?_
    refine g_zret hx hb hr hlk hK hM dX9_isPlace_18 rfl ?_
    refine ⟨?_, rfl⟩
    show zI 1 = _
    first | exact (bI_t (by omega)).symm | exact (bI_f (by omega)).symm
  · skip
    refine lv_aload_n hx hb dX9_isPlace_5 rfl (lv_at hl 0 rfl) ?_
    refine lv_iload_n hx hb dX9_isPlace_6 rfl (lv_at hl 1 rfl) ?_
    have hC1 := c_X9_isEnvelope l g b0 n f h Z M aa P x hO hP hrg hat haa hcn7 hrx
    refine g_callVi (ci := 11) (C := RX9) (T := TX9) (N := 24) (As := [.int (zI x)]) (rest := []) ⟨hx, hb, hml, hown, hts⟩ hK hM hC1 (cuV (n := 1) hts u_1265 u_1262 u_10 (by decide) u_1264 us_34 ⟨Nat.le_of_ble_eq_true rfl, Nat.le_of_ble_eq_true rfl⟩) ⟨by omega, by omega⟩ hO rfl rfl hl.1 rfl (Nat.le_of_ble_eq_true rfl) dX9_isPlace_7 ⟨Nat.zero_le _, Nat.zero_le _⟩ (fun r7 f2 H locs hM hp3 => ?_)
    obtain ⟨rfl, rfl⟩ := hp3
    refine g_ifb_eq (tgt := 17) hx hb dX9_isPlace_10 (by decide) (fun c10 => ?_) (fun c10 => ?_)
    · skip
      refine g_iconst hx hb dX9_isPlace_17 ?_
      refine g_zret hx hb hr hlk hK hM dX9_isPlace_18 rfl ?_
      refine ⟨?_, rfl⟩
      show zI 0 = _
      first | exact (bI_t (by omega)).symm | exact (bI_f (by omega)).symm
    · skip
      refine g_iconst hx hb dX9_isPlace_13 ?_
      refine lv_goto (tgt := 18) hx hb dX9_isPlace_14 (by decide) ?_
      refine g_zret hx hb hr hlk hK hM dX9_isPlace_18 rfl ?_
      refine ⟨?_, rfl⟩
      show zI 1 = _
      first | exact (bI_t (by omega)).symm | exact (bI_f (by omega)).symm

def po_X9_moneyIn (g : gE) (f : gF) (h : Nat) (Z M : Nat → Int) (aa : Nat) (P : Nat → Int) (x : Int) : Int64 → gF → Prop := fun r f1 => r = zL (sMon P x) ∧ f = f1
set_option maxRecDepth 100000 in
set_option maxHeartbeats 1000000 in
/-- moneyIn -/
theorem c_X9_moneyIn (l : Launch) (g : gE) (b0 n : Nat) (f : gF) (h : Nat) (Z M : Nat → Int) (aa : Nat) (P : Nat → Int) (x : Int) (hO : mdO f h Z) (hP : mpAt g f h M aa P) (hrg : b0 ≤ h ∧ h + 13 ≤ b0 + n) (hat : Z 11 = ↑aa) (haa : aa + 147 ≤ 2058) (hcn7 : 0 ≤ P 7 ∧ P 7 ≤ 10) (hrx : rI x) (hx1 : x = -1 ∨ (0 ≤ x ∧ x < P 7)) : cL l yX9_moneyIn cX9_moneyIn 2 (some .long) 1 21 [.ref h, .int (zI x)] g b0 n f (po_X9_moneyIn g f h Z M aa P x) := by
  refine gs_l (cc := cX9_moneyIn) (maxL := 2) (ret := (some .long)) (by decide) (Nat.le_of_ble_eq_true rfl) ?_
  intro p e0 s m args below meth c ls hx hb hr hml hown hts hlk hK hM hl
  have hl : lv_has ls 2 [(0, .ref h), (1, .int (zI x))] := hl
  refine lv_iload_n hx hb dX9_moneyIn_0 rfl (lv_at hl 1 rfl) ?_
  refine g_iconst hx hb dX9_moneyIn_1 ?_
  refine g_icmp_ne (tgt := 13) hx hb dX9_moneyIn_2 (by decide) hrx (by decide) (fun c2 => ?_) (fun c2 => ?_)
  · skip
    refine lv_aload_n hx hb dX9_moneyIn_13 rfl (lv_at hl 0 rfl) ?_
    refine g_bipush hx hb dX9_moneyIn_14 (by decide) ?_
    refine g_iconst hx hb dX9_moneyIn_16 ?_
    refine lv_iload_n hx hb dX9_moneyIn_17 rfl (lv_at hl 1 rfl) ?_
    refine g_imul hx hb dX9_moneyIn_18 ?_
    refine g_iadd hx hb dX9_moneyIn_19 ?_
    have hC1 := c_X9_p l g b0 n f h Z M aa P (11 + (4 * x)) (11 + 4 * x.toNat) hO hP hrg hat haa (by omega) (by omega)
    refine g_callVl (ci := 11) (C := RX9) (T := TX9) (N := 24) (As := [.int (zI (11 + (4 * x)))]) (rest := []) ⟨hx, hb, hml, hown, hts⟩ hK hM hC1 (cuV (n := 1) hts u_1283 u_1280 u_10 (by decide) u_1282 us_37 ⟨Nat.le_of_ble_eq_true rfl, Nat.le_of_ble_eq_true rfl⟩) ⟨by omega, by omega⟩ hO rfl rfl hl.1 rfl (Nat.le_of_ble_eq_true rfl) dX9_moneyIn_20 ⟨Nat.zero_le _, Nat.zero_le _⟩ (fun r20 f2 H locs hM hp3 => ?_)
    obtain ⟨rfl, rfl⟩ := hp3
    refine g_lret hx hb hr hlk hK hM dX9_moneyIn_23 ?_
    refine ⟨?_, rfl⟩
    unfold sMon
    first | rw [if_pos (by omega)] | rw [if_neg (by omega)]
  · skip
    refine lv_aload_n hx hb dX9_moneyIn_5 rfl (lv_at hl 0 rfl) ?_
    refine g_iconst hx hb dX9_moneyIn_6 ?_
    have hC4 := c_X9_p l g b0 n f h Z M aa P 0 (0) hO hP hrg hat haa (by omega) (by omega)
    refine g_callVl (ci := 11) (C := RX9) (T := TX9) (N := 24) (As := [.int (zI 0)]) (rest := []) ⟨hx, hb, hml, hown, hts⟩ hK hM hC4 (cuV (n := 1) hts u_1283 u_1280 u_10 (by decide) u_1282 us_37 ⟨Nat.le_of_ble_eq_true rfl, Nat.le_of_ble_eq_true rfl⟩) ⟨by omega, by omega⟩ hO rfl rfl hl.1 rfl (Nat.le_of_ble_eq_true rfl) dX9_moneyIn_7 ⟨Nat.zero_le _, Nat.zero_le _⟩ (fun r7 f5 H locs hM hp6 => ?_)
    obtain ⟨rfl, rfl⟩ := hp6
    refine lv_goto (tgt := 23) hx hb dX9_moneyIn_10 (by decide) ?_
    refine g_lret hx hb hr hlk hK hM dX9_moneyIn_23 ?_
    refine ⟨?_, rfl⟩
    unfold sMon
    first | rw [if_pos (by omega)] | rw [if_neg (by omega)]

def po_X9_swaps (g : gE) (f : gF) (h : Nat) (Z M : Nat → Int) (aa : Nat) (P : Nat → Int) (z : Int) (i : Nat) (v : Int) : Int32 → gF → Prop := fun r f1 => r = zI (P i) ∧ mpAt g f1 h M aa (pu P i v) ∧ ∀ q, q ≠ h + 1 → f1 q = f q
set_option maxRecDepth 100000 in
set_option maxHeartbeats 1000000 in
/-- swaps -/
theorem c_X9_swaps (l : Launch) (g : gE) (b0 n : Nat) (f : gF) (h : Nat) (Z M : Nat → Int) (aa : Nat) (P : Nat → Int) (z : Int) (i : Nat) (v : Int) (hO : mdO f h Z) (hP : mpAt g f h M aa P) (hrg : b0 ≤ h ∧ h + 13 ≤ b0 + n) (hat : Z 11 = ↑aa) (haa : aa + 147 ≤ 2058) (hz : z = ↑i) (hi : i < 147) (hrv : rI v) : cI l yX9_swaps cX9_swaps 4 (some .int) 1 23 [.ref h, .int (zI z), .int (zI v)] g b0 n f (po_X9_swaps g f h Z M aa P z i v) := by
  refine gs_i (cc := cX9_swaps) (maxL := 4) (ret := (some .int)) (by decide) (Nat.le_of_ble_eq_true rfl) ?_
  intro p e0 s m args below meth c ls hx hb hr hml hown hts hlk hK hM hl
  have hl : lv_has ls 4 [(0, .ref h), (1, .int (zI z)), (2, .int (zI v))] := hl
  refine lv_aload_n hx hb dX9_swaps_0 rfl (lv_at hl 0 rfl) ?_
  refine lv_iload_n hx hb dX9_swaps_1 rfl (lv_at hl 1 rfl) ?_
  have hC1 := c_X9_n l g b0 n f h Z M aa P z i hO hP hrg hat haa hz hi
  refine g_callVi (ci := 11) (C := RX9) (T := TX9) (N := 24) (As := [.int (zI z)]) (rest := []) ⟨hx, hb, hml, hown, hts⟩ hK hM hC1 (cuV (n := 1) hts u_1249 u_1246 u_10 (by decide) u_1248 us_30 ⟨Nat.le_of_ble_eq_true rfl, Nat.le_of_ble_eq_true rfl⟩) ⟨by omega, by omega⟩ hO rfl rfl hl.1 rfl (Nat.le_of_ble_eq_true rfl) dX9_swaps_2 ⟨Nat.zero_le _, Nat.zero_le _⟩ (fun r2 f2 H locs hM hp3 => ?_)
  obtain ⟨rfl, rfl⟩ := hp3
  refine lv_istore_n (lv' := [(3, .int (zI (P i))), (0, .ref h), (1, .int (zI z)), (2, .int (zI v))]) hx hb dX9_swaps_5 rfl hl (by decide) rfl (fun ls hl => ?_)
  refine lv_aload_n hx hb dX9_swaps_6 rfl (lv_at hl 1 rfl) ?_
  refine lv_iload_n hx hb dX9_swaps_7 rfl (lv_at hl 2 rfl) ?_
  refine lv_iload_n hx hb dX9_swaps_8 rfl (lv_at hl 3 rfl) ?_
  refine g_i2l hx hb dX9_swaps_9 hrv ?_
  have hC4 := c_X9_puts l g b0 n f h Z M aa P z i v hO hP hrg hat haa hz hi
  refine g_callVv (ci := 11) (C := RX9) (T := TX9) (N := 24) (As := [.int (zI z), .long (zL v)]) (rest := []) ⟨hx, hb, hml, hown, hts⟩ hK hM hC4 (cuV (n := 2) hts u_1257 u_1254 u_10 (by decide) u_1256 us_32 ⟨Nat.le_of_ble_eq_true rfl, Nat.le_of_ble_eq_true rfl⟩) ⟨by omega, by omega⟩ hO rfl rfl hl.1 rfl (Nat.le_of_ble_eq_true rfl) dX9_swaps_10 ⟨Nat.zero_le _, Nat.zero_le _⟩ (fun f5 H locs hM hp6 => ?_)
  obtain ⟨hn7, o8⟩ := hp6
  obtain ⟨Pz10, hPz10⟩ : ∃ Q : Nat → Int, Q = pu P i v := ⟨_, rfl⟩
  rw [← hPz10] at hn7
  refine lv_iload_n hx hb dX9_swaps_13 rfl (lv_at hl 0 rfl) ?_
  refine g_iret hx hb hr hlk hK hM dX9_swaps_14 ?_
  exact ⟨rfl, by rw [← hPz10]; exact hn7, (fun q hq => (o8 (q) (by omega)))⟩

def po_X9_settled (g : gE) (f : gF) (h : Nat) (Z M : Nat → Int) (aa : Nat) (P : Nat → Int) (a : Int) : Int32 → gF → Prop := fun r f1 => r = zI a ∧ mpAt g f1 h M aa (sSet P) ∧ scrAt g f1 h ∧ ∀ q, (q < h + 1 ∨ (h + 2 ≤ q ∧ q < h + 9) ∨ h + 11 ≤ q) → f1 q = f q
set_option maxRecDepth 100000 in
set_option maxHeartbeats 1000000 in
/-- settled -/
theorem c_X9_settled (l : Launch) (g : gE) (b0 n : Nat) (f : gF) (h : Nat) (Z M : Nat → Int) (aa : Nat) (P : Nat → Int) (a : Int) (hO : mdO f h Z) (hP : mpAt g f h M aa P) (hrg : b0 ≤ h ∧ h + 13 ≤ b0 + n) (hat : Z 11 = ↑aa) (haa : aa + 147 ≤ 2058) (hsc : scrAt g f h) (hws : wfS P 1000000000000000) (hlo : lkOk P) : cI l yX9_settled cX9_settled 3 (some .int) 4 136 [.ref h, .long (zL a)] g b0 n f (po_X9_settled g f h Z M aa P a) := by
  refine gs_i (cc := cX9_settled) (maxL := 3) (ret := (some .int)) (by decide) (Nat.le_of_ble_eq_true rfl) ?_
  intro p e0 s m args below meth c ls hx hb hr hml hown hts hlk hK hM hl
  have hl : lv_has ls 3 [(0, .ref h), (1, .long (zL a))] := hl
  refine lv_aload_n hx hb dX9_settled_0 rfl (lv_at hl 0 rfl) ?_
  have hC1 := c_X9_settles l g b0 n f h Z M aa P  hO hP hrg hat haa hsc hws hlo
  refine g_callVv (ci := 11) (C := RX9) (T := TX9) (N := 24) (As := []) (rest := []) ⟨hx, hb, hml, hown, hts⟩ hK hM hC1 (cuV (n := 0) hts u_1315 u_1312 u_10 (by decide) u_1314 us_44 ⟨Nat.le_of_ble_eq_true rfl, Nat.le_of_ble_eq_true rfl⟩) ⟨by omega, by omega⟩ hO rfl rfl hl.1 rfl (Nat.le_of_ble_eq_true rfl) dX9_settled_1 ⟨Nat.zero_le _, Nat.zero_le _⟩ (fun f2 H locs hM hp3 => ?_)
  obtain ⟨hn4, hs6, o5⟩ := hp3
  obtain ⟨Pz7, hPz7⟩ : ∃ Q : Nat → Int, Q = sSet P := ⟨_, rfl⟩
  rw [← hPz7] at hn4
  refine lv_lload_n hx hb dX9_settled_4 rfl (lv_at hl 1 rfl) ?_
  refine g_l2i hx hb dX9_settled_5 ?_
  refine g_iret hx hb hr hlk hK hM dX9_settled_6 ?_
  exact ⟨rfl, by rw [← hPz7]; exact hn4, hs6, (fun q hq => (o5 (q) (by omega)))⟩

def po_X9_moves (g : gE) (f : gF) (h : Nat) (Z M : Nat → Int) (aa : Nat) (P : Nat → Int) (x y a : Int) : Int32 → gF → Prop := fun r f1 => r = zI (sMvN P y a) ∧ mpAt g f1 h M aa (sMv P x y a) ∧ ∀ q, q ≠ h + 1 → f1 q = f q
set_option maxRecDepth 100000 in
set_option maxHeartbeats 1000000 in
/-- moves -/
theorem c_X9_moves (l : Launch) (g : gE) (b0 n : Nat) (f : gF) (h : Nat) (Z M : Nat → Int) (aa : Nat) (P : Nat → Int) (x y a : Int) (hO : mdO f h Z) (hP : mpAt g f h M aa P) (hrg : b0 ≤ h ∧ h + 13 ≤ b0 + n) (hat : Z 11 = ↑aa) (haa : aa + 147 ≤ 2058) (hwe : wfE P 1000000000000000) (hrx : rI x) (hry : rI y) (hx1 : x = -1 ∨ (0 ≤ x ∧ x < P 7)) (hy1 : y = -1 ∨ (0 ≤ y ∧ y < P 7)) (hxy : x ≠ y) (har : 1 ≤ a ∧ a ≤ 1000000) : cI l yX9_moves cX9_moves 6 (some .int) 3 108 [.ref h, .int (zI x), .int (zI y), .int (zI a)] g b0 n f (po_X9_moves g f h Z M aa P x y a) := by
  refine gs_i (cc := cX9_moves) (maxL := 6) (ret := (some .int)) (by decide) (Nat.le_of_ble_eq_true rfl) ?_
  intro p e0 s m args below meth c ls hx hb hr hml hown hts hlk hK hM hl
  have hl : lv_has ls 6 [(0, .ref h), (1, .int (zI x)), (2, .int (zI y)), (3, .int (zI a))] := hl
  have hcn7 := hwe.1
  have har1 := har.1
  have har2 := har.2
  refine lv_iload_n hx hb dX9_moves_0 rfl (lv_at hl 2 rfl) ?_
  refine g_iconst hx hb dX9_moves_1 ?_
  refine g_icmp_ne (tgt := 10) hx hb dX9_moves_2 (by decide) hry (by decide) (fun c2 => ?_) (fun c2 => ?_)
  · skip
    obtain ⟨t0, hzt0⟩ : ∃ q : Nat, y = q := ⟨y.toNat, by omega⟩
    subst hzt0
    obtain ⟨⟨hz1, hz2⟩, ⟨hz3, hz4⟩, hz5⟩ := hwe.2 t0 (by omega)
    refine lv_aload_n hx hb dX9_moves_10 rfl (lv_at hl 0 rfl) ?_
    refine lv_iload_n hx hb dX9_moves_11 rfl (lv_at hl 2 rfl) ?_
    refine lv_iload_n hx hb dX9_moves_12 rfl (lv_at hl 3 rfl) ?_
    refine g_i2l hx hb dX9_moves_13 ⟨by omega, by omega⟩ ?_
    have hC1 := c_X9_put l g b0 n f h Z M aa P t0 a hO hP hrg hat haa (by omega) ⟨by omega, by omega⟩ ⟨by omega, by omega⟩ ⟨by omega, by omega⟩
    refine g_callVl (ci := 11) (C := RX9) (T := TX9) (N := 24) (As := [.int (zI (↑t0 : Int)), .long (zL a)]) (rest := []) ⟨hx, hb, hml, hown, hts⟩ hK hM hC1 (cuV (n := 2) hts u_1300 u_1297 u_10 (by decide) u_1299 us_41 ⟨Nat.le_of_ble_eq_true rfl, Nat.le_of_ble_eq_true rfl⟩) ⟨by omega, by omega⟩ hO rfl rfl hl.1 rfl (Nat.le_of_ble_eq_true rfl) dX9_moves_14 ⟨Nat.zero_le _, Nat.zero_le _⟩ (fun r14 f2 H locs hM hp3 => ?_)
    obtain ⟨rfl, hn4, o5⟩ := hp3
    obtain ⟨Pz6, hPz6⟩ : ∃ Q : Nat → Int, Q = sPut P t0 a := ⟨_, rfl⟩
    rw [← hPz6] at hn4
    refine lv_lstore (lv' := [(4, .long (zL (sIs P t0 a))), (0, .ref h), (1, .int (zI x)), (2, .int (zI (↑t0 : Int))), (3, .int (zI a))]) hx hb dX9_moves_17 hl (by decide) rfl (fun ls hl => ?_)
    refine lv_iload_n hx hb dX9_moves_19 rfl (lv_at hl 3 rfl) ?_
    refine g_iconst hx hb dX9_moves_20 ?_
    refine g_icmp_ne (tgt := 31) hx hb dX9_moves_21 (by decide) ⟨by omega, by omega⟩ (by decide) (fun c21 => ?_) (fun c21 => ?_)
    · skip
      refine lv_aload_n hx hb dX9_moves_31 rfl (lv_at hl 1 rfl) ?_
      refine lv_iload_n hx hb dX9_moves_32 rfl (lv_at hl 2 rfl) ?_
      refine g_iconst hx hb dX9_moves_33 ?_
      refine g_icmp_ne (tgt := 41) hx hb dX9_moves_34 (by decide) hrx (by decide) (fun c34 => ?_) (fun c34 => ?_)
      · skip
        obtain ⟨s0, hzs0⟩ : ∃ q : Nat, x = q := ⟨x.toNat, by omega⟩
        subst hzs0
        refine g_bipush hx hb dX9_moves_41 (by decide) ?_
        refine g_iconst hx hb dX9_moves_43 ?_
        refine lv_iload_n hx hb dX9_moves_44 rfl (lv_at hl 2 rfl) ?_
        refine g_imul hx hb dX9_moves_45 ?_
        refine g_iadd hx hb dX9_moves_46 ?_
        refine lv_lload hx hb dX9_moves_47 (lv_at hl 0 rfl) ?_
        refine g_lneg hx hb dX9_moves_49 ?_
        have hf7 : f2 (h) = .inr (11, [.int (zI (Z 0)), .ref (h + 1), .ref (h + 2), .ref (h + 3), .ref (h + 4), .ref (h + 5), .ref (h + 6), .ref (h + 7), .ref (h + 8), .int (zI (Z 9)), .int (zI (Z 10)), .int (zI (Z 11)), .int (zI (Z 12)), .int (zI (Z 13)), .int (zI (Z 14)), .int (zI (Z 15)), .int (zI (Z 16)), .ref (h + 9), .ref (h + 10), .ref (h + 11), .int (zI (Z 20)), .int (zI (Z 21)), .int (zI (Z 22)), .ref (h + 12)]) := (o5 (h) (by omega)).trans hO
        have hC8 := c_X9_adds l g b0 n f2 h Z M aa Pz6 (11 + (4 * (↑s0 : Int))) (11 + 4 * s0) (-(sIs P t0 a)) hf7 hn4 hrg hat haa (by omega) (by omega)
        refine g_callVv (ci := 11) (C := RX9) (T := TX9) (N := 24) (As := [.int (zI (11 + (4 * (↑s0 : Int)))), .long (zL (-(sIs P t0 a)))]) (rest := []) ⟨hx, hb, hml, hown, hts⟩ hK hM hC8 (cuV (n := 2) hts u_1261 u_1258 u_10 (by decide) u_1260 us_33 ⟨Nat.le_of_ble_eq_true rfl, Nat.le_of_ble_eq_true rfl⟩) ⟨by omega, by omega⟩ hf7 rfl rfl hl.1 rfl (Nat.le_of_ble_eq_true rfl) dX9_moves_50 ⟨Nat.zero_le _, Nat.zero_le _⟩ (fun f9 H locs hM hp10 => ?_)
        obtain ⟨hn11, o12⟩ := hp10
        obtain ⟨Pz13, hPz13⟩ : ∃ Q : Nat → Int, Q = pu Pz6 (11 + 4 * s0) (Pz6 (11 + 4 * s0) + (-(sIs P t0 a))) := ⟨_, rfl⟩
        rw [← hPz13] at hn11
        refine lv_lload hx hb dX9_moves_53 (lv_at hl 0 rfl) ?_
        refine g_l2i hx hb dX9_moves_55 ?_
        refine g_iret hx hb hr hlk hK hM dX9_moves_56 ?_
        have hN : sMvN P (↑t0 : Int) a = (sIs P t0 a) := by simp only [sMvN, ↓reduceIte, Int.toNat_natCast, show ¬ (((t0 : Nat) : Int) = -1) by omega]
        have hS : sMv P (↑s0 : Int) (↑t0 : Int) a = Pz13 := by
          simp only [sMv, sMvN, ↓reduceIte, Int.toNat_natCast, Int.sub_eq_add_neg, show ¬ (((s0 : Nat) : Int) = -1) by omega, show ¬ (((t0 : Nat) : Int) = -1) by omega]
          simp only [hPz13, hPz6]
        refine ⟨by rw [hN], ?_, (fun q hq => ((o12 (q) (by omega)).trans (o5 (q) (by omega))))⟩
        rw [hS]
        exact hn11
      · skip
        subst c34
        refine g_iconst hx hb dX9_moves_37 ?_
        refine lv_goto (tgt := 47) hx hb dX9_moves_38 (by decide) ?_
        refine lv_lload hx hb dX9_moves_47 (lv_at hl 0 rfl) ?_
        refine g_lneg hx hb dX9_moves_49 ?_
        have hf14 : f2 (h) = .inr (11, [.int (zI (Z 0)), .ref (h + 1), .ref (h + 2), .ref (h + 3), .ref (h + 4), .ref (h + 5), .ref (h + 6), .ref (h + 7), .ref (h + 8), .int (zI (Z 9)), .int (zI (Z 10)), .int (zI (Z 11)), .int (zI (Z 12)), .int (zI (Z 13)), .int (zI (Z 14)), .int (zI (Z 15)), .int (zI (Z 16)), .ref (h + 9), .ref (h + 10), .ref (h + 11), .int (zI (Z 20)), .int (zI (Z 21)), .int (zI (Z 22)), .ref (h + 12)]) := (o5 (h) (by omega)).trans hO
        have hC15 := c_X9_adds l g b0 n f2 h Z M aa Pz6 0 (0) (-(sIs P t0 a)) hf14 hn4 hrg hat haa (by omega) (by omega)
        refine g_callVv (ci := 11) (C := RX9) (T := TX9) (N := 24) (As := [.int (zI 0), .long (zL (-(sIs P t0 a)))]) (rest := []) ⟨hx, hb, hml, hown, hts⟩ hK hM hC15 (cuV (n := 2) hts u_1261 u_1258 u_10 (by decide) u_1260 us_33 ⟨Nat.le_of_ble_eq_true rfl, Nat.le_of_ble_eq_true rfl⟩) ⟨by omega, by omega⟩ hf14 rfl rfl hl.1 rfl (Nat.le_of_ble_eq_true rfl) dX9_moves_50 ⟨Nat.zero_le _, Nat.zero_le _⟩ (fun f16 H locs hM hp17 => ?_)
        obtain ⟨hn18, o19⟩ := hp17
        obtain ⟨Pz20, hPz20⟩ : ∃ Q : Nat → Int, Q = pu Pz6 (0) (Pz6 (0) + (-(sIs P t0 a))) := ⟨_, rfl⟩
        rw [← hPz20] at hn18
        refine lv_lload hx hb dX9_moves_53 (lv_at hl 0 rfl) ?_
        refine g_l2i hx hb dX9_moves_55 ?_
        refine g_iret hx hb hr hlk hK hM dX9_moves_56 ?_
        have hN : sMvN P (↑t0 : Int) a = (sIs P t0 a) := by simp only [sMvN, ↓reduceIte, Int.toNat_natCast, show ¬ (((t0 : Nat) : Int) = -1) by omega]
        have hS : sMv P (-1) (↑t0 : Int) a = Pz20 := by
          simp only [sMv, sMvN, ↓reduceIte, Int.toNat_natCast, Int.sub_eq_add_neg, show ¬ (((t0 : Nat) : Int) = -1) by omega]
          simp only [hPz20, hPz6]
        refine ⟨by rw [hN], ?_, (fun q hq => ((o19 (q) (by omega)).trans (o5 (q) (by omega))))⟩
        rw [hS]
        exact hn18
    · skip
      exfalso; omega
  · skip
    subst c2
    refine lv_iload_n hx hb dX9_moves_5 rfl (lv_at hl 3 rfl) ?_
    refine g_i2l hx hb dX9_moves_6 ⟨by omega, by omega⟩ ?_
    refine lv_goto (tgt := 17) hx hb dX9_moves_7 (by decide) ?_
    refine lv_lstore (lv' := [(4, .long (zL a)), (0, .ref h), (1, .int (zI x)), (2, .int (zI (-1))), (3, .int (zI a))]) hx hb dX9_moves_17 hl (by decide) rfl (fun ls hl => ?_)
    refine lv_iload_n hx hb dX9_moves_19 rfl (lv_at hl 3 rfl) ?_
    refine g_iconst hx hb dX9_moves_20 ?_
    refine g_icmp_ne (tgt := 31) hx hb dX9_moves_21 (by decide) (by decide) (by decide) (fun c21 => ?_) (fun c21 => ?_)
    · exact absurd c21 (by decide)
    · skip
      refine lv_aload_n hx hb dX9_moves_24 rfl (lv_at hl 1 rfl) ?_
      refine g_iconst hx hb dX9_moves_25 ?_
      refine lv_lload hx hb dX9_moves_26 (lv_at hl 0 rfl) ?_
      have hC21 := c_X9_adds l g b0 n f h Z M aa P 0 (0) a hO hP hrg hat haa (by omega) (by omega)
      refine g_callVv (ci := 11) (C := RX9) (T := TX9) (N := 24) (As := [.int (zI 0), .long (zL a)]) (rest := []) ⟨hx, hb, hml, hown, hts⟩ hK hM hC21 (cuV (n := 2) hts u_1261 u_1258 u_10 (by decide) u_1260 us_33 ⟨Nat.le_of_ble_eq_true rfl, Nat.le_of_ble_eq_true rfl⟩) ⟨by omega, by omega⟩ hO rfl rfl hl.1 rfl (Nat.le_of_ble_eq_true rfl) dX9_moves_28 ⟨Nat.zero_le _, Nat.zero_le _⟩ (fun f22 H locs hM hp23 => ?_)
      obtain ⟨hn24, o25⟩ := hp23
      obtain ⟨Pz26, hPz26⟩ : ∃ Q : Nat → Int, Q = pu P (0) (P (0) + a) := ⟨_, rfl⟩
      rw [← hPz26] at hn24
      refine lv_aload_n hx hb dX9_moves_31 rfl (lv_at hl 1 rfl) ?_
      refine lv_iload_n hx hb dX9_moves_32 rfl (lv_at hl 2 rfl) ?_
      refine g_iconst hx hb dX9_moves_33 ?_
      refine g_icmp_ne (tgt := 41) hx hb dX9_moves_34 (by decide) hrx (by decide) (fun c34 => ?_) (fun c34 => ?_)
      · skip
        obtain ⟨s0, hzs0⟩ : ∃ q : Nat, x = q := ⟨x.toNat, by omega⟩
        subst hzs0
        refine g_bipush hx hb dX9_moves_41 (by decide) ?_
        refine g_iconst hx hb dX9_moves_43 ?_
        refine lv_iload_n hx hb dX9_moves_44 rfl (lv_at hl 2 rfl) ?_
        refine g_imul hx hb dX9_moves_45 ?_
        refine g_iadd hx hb dX9_moves_46 ?_
        refine lv_lload hx hb dX9_moves_47 (lv_at hl 0 rfl) ?_
        refine g_lneg hx hb dX9_moves_49 ?_
        have hf27 : f22 (h) = .inr (11, [.int (zI (Z 0)), .ref (h + 1), .ref (h + 2), .ref (h + 3), .ref (h + 4), .ref (h + 5), .ref (h + 6), .ref (h + 7), .ref (h + 8), .int (zI (Z 9)), .int (zI (Z 10)), .int (zI (Z 11)), .int (zI (Z 12)), .int (zI (Z 13)), .int (zI (Z 14)), .int (zI (Z 15)), .int (zI (Z 16)), .ref (h + 9), .ref (h + 10), .ref (h + 11), .int (zI (Z 20)), .int (zI (Z 21)), .int (zI (Z 22)), .ref (h + 12)]) := (o25 (h) (by omega)).trans hO
        have hC28 := c_X9_adds l g b0 n f22 h Z M aa Pz26 (11 + (4 * (↑s0 : Int))) (11 + 4 * s0) (-a) hf27 hn24 hrg hat haa (by omega) (by omega)
        refine g_callVv (ci := 11) (C := RX9) (T := TX9) (N := 24) (As := [.int (zI (11 + (4 * (↑s0 : Int)))), .long (zL (-a))]) (rest := []) ⟨hx, hb, hml, hown, hts⟩ hK hM hC28 (cuV (n := 2) hts u_1261 u_1258 u_10 (by decide) u_1260 us_33 ⟨Nat.le_of_ble_eq_true rfl, Nat.le_of_ble_eq_true rfl⟩) ⟨by omega, by omega⟩ hf27 rfl rfl hl.1 rfl (Nat.le_of_ble_eq_true rfl) dX9_moves_50 ⟨Nat.zero_le _, Nat.zero_le _⟩ (fun f29 H locs hM hp30 => ?_)
        obtain ⟨hn31, o32⟩ := hp30
        obtain ⟨Pz33, hPz33⟩ : ∃ Q : Nat → Int, Q = pu Pz26 (11 + 4 * s0) (Pz26 (11 + 4 * s0) + (-a)) := ⟨_, rfl⟩
        rw [← hPz33] at hn31
        refine lv_lload hx hb dX9_moves_53 (lv_at hl 0 rfl) ?_
        refine g_l2i hx hb dX9_moves_55 ?_
        refine g_iret hx hb hr hlk hK hM dX9_moves_56 ?_
        have hN : sMvN P (-1) a = a := by simp only [sMvN, ↓reduceIte, Int.toNat_natCast]
        have hS : sMv P (↑s0 : Int) (-1) a = Pz33 := by
          simp only [sMv, sMvN, ↓reduceIte, Int.toNat_natCast, Int.sub_eq_add_neg, show ¬ (((s0 : Nat) : Int) = -1) by omega]
          simp only [hPz33, hPz26]
        refine ⟨by rw [hN], ?_, (fun q hq => ((o32 (q) (by omega)).trans (o25 (q) (by omega))))⟩
        rw [hS]
        exact hn31
      · skip
        exact absurd c34 hxy
