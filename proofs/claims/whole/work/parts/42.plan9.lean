def po_X8_isWithin (g : gE) (f : gF) (x lo hi : Int) : Int32 → gF → Prop := fun r f1 => r = bI (lo ≤ x ∧ x ≤ hi) ∧ f = f1
set_option maxRecDepth 100000 in
set_option maxHeartbeats 1000000 in
/-- isWithin -/
theorem c_X8_isWithin (l : Launch) (g : gE) (b0 n : Nat) (f : gF) (x lo hi : Int) (h1 : rI x) (h2 : rI lo) (h3 : rI hi) : cI l yX8_isWithin cX8_isWithin 3 (some .boolean) 0 0 [.int (zI x), .int (zI lo), .int (zI hi)] g b0 n f (po_X8_isWithin g f x lo hi) := by
  refine gs_i (cc := cX8_isWithin) (maxL := 3) (ret := (some .boolean)) (by decide) (Nat.le_of_ble_eq_true rfl) ?_
  intro p e0 s m args below meth c ls hx hb hr hml hown hts hlk hK hM hl
  have hl : lv_has ls 3 [(0, .int (zI x)), (1, .int (zI lo)), (2, .int (zI hi))] := hl
  refine lv_iload_n hx hb dX8_isWithin_0 rfl (lv_at hl 0 rfl) ?_
  refine lv_iload_n hx hb dX8_isWithin_1 rfl (lv_at hl 1 rfl) ?_
  refine g_icmp_lt (tgt := 14) hx hb dX8_isWithin_2 (by decide) h1 h2 (fun c2 => ?_) (fun c2 => ?_)
  · skip
    refine g_iconst hx hb dX8_isWithin_14 ?_
    refine g_zret hx hb hr hlk hK hM dX8_isWithin_15 rfl ?_
    refine ⟨?_, rfl⟩
    show zI 0 = _
    first | exact (bI_t (by omega)).symm | exact (bI_f (by omega)).symm
  · skip
    refine lv_iload_n hx hb dX8_isWithin_5 rfl (lv_at hl 0 rfl) ?_
    refine lv_iload_n hx hb dX8_isWithin_6 rfl (lv_at hl 2 rfl) ?_
    refine g_icmp_gt (tgt := 14) hx hb dX8_isWithin_7 (by decide) h1 h3 (fun c7 => ?_) (fun c7 => ?_)
    · skip
      refine g_iconst hx hb dX8_isWithin_14 ?_
      refine g_zret hx hb hr hlk hK hM dX8_isWithin_15 rfl ?_
      refine ⟨?_, rfl⟩
      show zI 0 = _
      first | exact (bI_t (by omega)).symm | exact (bI_f (by omega)).symm
    · skip
      refine g_iconst hx hb dX8_isWithin_10 ?_
      refine lv_goto (tgt := 15) hx hb dX8_isWithin_11 (by decide) ?_
      refine g_zret hx hb hr hlk hK hM dX8_isWithin_15 rfl ?_
      refine ⟨?_, rfl⟩
      show zI 1 = _
      first | exact (bI_t (by omega)).symm | exact (bI_f (by omega)).symm

def po_X5_isRuleNumber (g : gE) (f : gF) (h : Nat) (P : Nat → Int) (k x : Int) : Int32 → gF → Prop := fun r f1 => r = bI (rnP k x) ∧ f = f1
set_option maxRecDepth 100000 in
set_option maxHeartbeats 1000000 in
/-- isRuleNumber -/
theorem c_X5_isRuleNumber (l : Launch) (g : gE) (b0 n : Nat) (f : gF) (h : Nat) (P : Nat → Int) (k x : Int) (hE : planAt g f h P) (hrg : b0 ≤ h ∧ h + 23 ≤ b0 + n) (h1 : rI k) (h2 : rI x) : cI l yX5_isRuleNumber cX5_isRuleNumber 3 (some .boolean) 1 22 [.ref h, .int (zI k), .int (zI x)] g b0 n f (po_X5_isRuleNumber g f h P k x) := by
  refine gs_i (cc := cX5_isRuleNumber) (maxL := 3) (ret := (some .boolean)) (by decide) (Nat.le_of_ble_eq_true rfl) ?_
  intro p e0 s m args below meth c ls hx hb hr hml hown hts hlk hK hM hl
  have hl : lv_has ls 3 [(0, .ref h), (1, .int (zI k)), (2, .int (zI x))] := hl
  refine lv_iload_n hx hb dX5_isRuleNumber_0 rfl (lv_at hl 1 rfl) ?_
  have hz1 := zI_toInt (z := k) h1
  rcases g_sw (0) (4) k with c1 | c1
  · refine lv_tableOut (tgt := 70) hx hb dX5_isRuleNumber_1 (by rw [hz1]; exact c1) (by decide) ?_
    refine g_iconst hx hb dX5_isRuleNumber_70 ?_
    refine g_zret hx hb hr hlk hK hM dX5_isRuleNumber_71 rfl ?_
    refine ⟨?_, rfl⟩
    show zI 0 = _
    first | exact (bI_t (by omega)).symm | exact (bI_f (by omega)).symm
  · rcases (show k = 0 ∨ k = 1 ∨ k = 2 ∨ k = 3 ∨ k = 4 by omega) with c1 | c1 | c1 | c1 | c1
    · refine lv_tableIn (off := 35) (tgt := 36) hx hb dX5_isRuleNumber_1 (by rw [hz1, c1]; decide) (by rw [hz1, c1]; decide) (by rw [hz1, c1]; decide) (by decide) ?_
      refine lv_iload_n hx hb dX5_isRuleNumber_36 rfl (lv_at hl 2 rfl) ?_
      refine g_iconst hx hb dX5_isRuleNumber_37 ?_
      refine g_ldc (z := 1000000) hx hb hown (hts _ u_411) dX5_isRuleNumber_38 (by decide) ?_
      have hC1 := c_X8_isWithin l g b0 n f x 1 1000000 h2 (by decide) (by decide)
      refine g_callNi (As := [.int (zI x), .int (zI 1), .int (zI 1000000)]) (rest := []) ⟨hx, hb, hml, hown, hts⟩ hK hM hC1 (cuN (n := 3) hts u_406 u_404 u_1 (by decide) u_405 ⟨Nat.le_of_ble_eq_true rfl, Nat.le_of_ble_eq_true rfl⟩) rfl hl.1 rfl (Nat.le_of_ble_eq_true rfl) dX5_isRuleNumber_40 ⟨Nat.zero_le _, Nat.zero_le _⟩ (fun r40 f2 H locs hM hp3 => ?_)
      obtain ⟨rfl, rfl⟩ := hp3
      refine g_zret hx hb hr hlk hK hM dX5_isRuleNumber_43 (bI_nar _) ?_
      refine ⟨bI_iff ?_, rfl⟩
      omega
    · refine lv_tableIn (off := 43) (tgt := 44) hx hb dX5_isRuleNumber_1 (by rw [hz1, c1]; decide) (by rw [hz1, c1]; decide) (by rw [hz1, c1]; decide) (by decide) ?_
      refine lv_iload_n hx hb dX5_isRuleNumber_44 rfl (lv_at hl 2 rfl) ?_
      refine g_iconst hx hb dX5_isRuleNumber_45 ?_
      refine g_bipush hx hb dX5_isRuleNumber_46 (by decide) ?_
      have hC4 := c_X8_isWithin l g b0 n f x 1 100 h2 (by decide) (by decide)
      refine g_callNi (As := [.int (zI x), .int (zI 1), .int (zI 100)]) (rest := []) ⟨hx, hb, hml, hown, hts⟩ hK hM hC4 (cuN (n := 3) hts u_406 u_404 u_1 (by decide) u_405 ⟨Nat.le_of_ble_eq_true rfl, Nat.le_of_ble_eq_true rfl⟩) rfl hl.1 rfl (Nat.le_of_ble_eq_true rfl) dX5_isRuleNumber_48 ⟨Nat.zero_le _, Nat.zero_le _⟩ (fun r48 f5 H locs hM hp6 => ?_)
      obtain ⟨rfl, rfl⟩ := hp6
      refine g_zret hx hb hr hlk hK hM dX5_isRuleNumber_51 (bI_nar _) ?_
      refine ⟨bI_iff ?_, rfl⟩
      omega
    · refine lv_tableIn (off := 43) (tgt := 44) hx hb dX5_isRuleNumber_1 (by rw [hz1, c1]; decide) (by rw [hz1, c1]; decide) (by rw [hz1, c1]; decide) (by decide) ?_
      refine lv_iload_n hx hb dX5_isRuleNumber_44 rfl (lv_at hl 2 rfl) ?_
      refine g_iconst hx hb dX5_isRuleNumber_45 ?_
      refine g_bipush hx hb dX5_isRuleNumber_46 (by decide) ?_
      have hC7 := c_X8_isWithin l g b0 n f x 1 100 h2 (by decide) (by decide)
      refine g_callNi (As := [.int (zI x), .int (zI 1), .int (zI 100)]) (rest := []) ⟨hx, hb, hml, hown, hts⟩ hK hM hC7 (cuN (n := 3) hts u_406 u_404 u_1 (by decide) u_405 ⟨Nat.le_of_ble_eq_true rfl, Nat.le_of_ble_eq_true rfl⟩) rfl hl.1 rfl (Nat.le_of_ble_eq_true rfl) dX5_isRuleNumber_48 ⟨Nat.zero_le _, Nat.zero_le _⟩ (fun r48 f8 H locs hM hp9 => ?_)
      obtain ⟨rfl, rfl⟩ := hp9
      refine g_zret hx hb hr hlk hK hM dX5_isRuleNumber_51 (bI_nar _) ?_
      refine ⟨bI_iff ?_, rfl⟩
      omega
    · refine lv_tableIn (off := 51) (tgt := 52) hx hb dX5_isRuleNumber_1 (by rw [hz1, c1]; decide) (by rw [hz1, c1]; decide) (by rw [hz1, c1]; decide) (by decide) ?_
      refine lv_iload_n hx hb dX5_isRuleNumber_52 rfl (lv_at hl 2 rfl) ?_
      refine g_if_ne (tgt := 60) hx hb dX5_isRuleNumber_53 (by decide) h2 (fun c53 => ?_) (fun c53 => ?_)
      · skip
        refine g_iconst hx hb dX5_isRuleNumber_60 ?_
        refine g_zret hx hb hr hlk hK hM dX5_isRuleNumber_61 rfl ?_
        refine ⟨?_, rfl⟩
        show zI 0 = _
        first | exact (bI_t (by omega)).symm | exact (bI_f (by omega)).symm
      · skip
        refine g_iconst hx hb dX5_isRuleNumber_56 ?_
        refine lv_goto (tgt := 61) hx hb dX5_isRuleNumber_57 (by decide) ?_
        refine g_zret hx hb hr hlk hK hM dX5_isRuleNumber_61 rfl ?_
        refine ⟨?_, rfl⟩
        show zI 1 = _
        first | exact (bI_t (by omega)).symm | exact (bI_f (by omega)).symm
    · refine lv_tableIn (off := 61) (tgt := 62) hx hb dX5_isRuleNumber_1 (by rw [hz1, c1]; decide) (by rw [hz1, c1]; decide) (by rw [hz1, c1]; decide) (by decide) ?_
      refine lv_iload_n hx hb dX5_isRuleNumber_62 rfl (lv_at hl 2 rfl) ?_
      refine g_iconst hx hb dX5_isRuleNumber_63 ?_
      refine g_bipush hx hb dX5_isRuleNumber_64 (by decide) ?_
      have hC10 := c_X8_isWithin l g b0 n f x 1 99 h2 (by decide) (by decide)
      refine g_callNi (As := [.int (zI x), .int (zI 1), .int (zI 99)]) (rest := []) ⟨hx, hb, hml, hown, hts⟩ hK hM hC10 (cuN (n := 3) hts u_406 u_404 u_1 (by decide) u_405 ⟨Nat.le_of_ble_eq_true rfl, Nat.le_of_ble_eq_true rfl⟩) rfl hl.1 rfl (Nat.le_of_ble_eq_true rfl) dX5_isRuleNumber_66 ⟨Nat.zero_le _, Nat.zero_le _⟩ (fun r66 f11 H locs hM hp12 => ?_)
      obtain ⟨rfl, rfl⟩ := hp12
      refine g_zret hx hb hr hlk hK hM dX5_isRuleNumber_69 (bI_nar _) ?_
      refine ⟨bI_iff ?_, rfl⟩
      omega

def po_X5_isInRange (g : gE) (f : gF) (h : Nat) (P : Nat → Int) (kd a b x y : Int) : Int32 → gF → Prop := fun r f1 => r = bI (rgP kd a b x y) ∧ f = f1
set_option maxRecDepth 100000 in
set_option maxHeartbeats 1000000 in
/-- isInRange -/
theorem c_X5_isInRange (l : Launch) (g : gE) (b0 n : Nat) (f : gF) (h : Nat) (P : Nat → Int) (kd a b x y : Int) (hE : planAt g f h P) (hrg : b0 ≤ h ∧ h + 23 ≤ b0 + n) (hrk : rI kd) (hra : rI a) (hrb : rI b) (hrx : rI x) (hry : rI y) : cI l yX5_isInRange cX5_isInRange 6 (some .boolean) 2 44 [.ref h, .int (zI kd), .int (zI a), .int (zI b), .int (zI x), .int (zI y)] g b0 n f (po_X5_isInRange g f h P kd a b x y) := by
  refine gs_i (cc := cX5_isInRange) (maxL := 6) (ret := (some .boolean)) (by decide) (Nat.le_of_ble_eq_true rfl) ?_
  intro p e0 s m args below meth c ls hx hb hr hml hown hts hlk hK hM hl
  have hl : lv_has ls 6 [(0, .ref h), (1, .int (zI kd)), (2, .int (zI a)), (3, .int (zI b)), (4, .int (zI x)), (5, .int (zI y))] := hl
  refine lv_iload_n hx hb dX5_isInRange_0 rfl (lv_at hl 1 rfl) ?_
  have hz1 := zI_toInt (z := kd) hrk
  rcases g_sw (0) (12) kd with c1 | c1
  · refine lv_tableOut (tgt := 236) hx hb dX5_isInRange_1 (by rw [hz1]; exact c1) (by decide) ?_
    refine g_iconst hx hb dX5_isInRange_236 ?_
    refine g_zret hx hb hr hlk hK hM dX5_isInRange_237 rfl ?_
    refine ⟨?_, rfl⟩
    show zI 1 = _
    first | exact (bI_t (by rw [rgP_iff]; omega)).symm | exact (bI_f (by rw [rgP_iff]; omega)).symm
  · rcases (show kd = 0 ∨ kd = 1 ∨ kd = 2 ∨ kd = 3 ∨ kd = 4 ∨ kd = 5 ∨ kd = 6 ∨ kd = 7 ∨ kd = 8 ∨ kd = 9 ∨ kd = 10 ∨ kd = 11 ∨ kd = 12 by omega) with c1 | c1 | c1 | c1 | c1 | c1 | c1 | c1 | c1 | c1 | c1 | c1 | c1
    · refine lv_tableIn (off := 67) (tgt := 68) hx hb dX5_isInRange_1 (by rw [hz1, c1]; decide) (by rw [hz1, c1]; decide) (by rw [hz1, c1]; decide) (by decide) ?_
      subst c1
      refine lv_iload_n hx hb dX5_isInRange_68 rfl (lv_at hl 2 rfl) ?_
      refine g_iconst hx hb dX5_isInRange_69 ?_
      refine g_ldc (z := 9000000) hx hb hown (hts _ u_403) dX5_isInRange_70 (by decide) ?_
      have hC1 := c_X8_isWithin l g b0 n f a (-1) 9000000 hra (by decide) (by decide)
      refine g_callNi (As := [.int (zI a), .int (zI (-1)), .int (zI 9000000)]) (rest := []) ⟨hx, hb, hml, hown, hts⟩ hK hM hC1 (cuN (n := 3) hts u_406 u_404 u_1 (by decide) u_405 ⟨Nat.le_of_ble_eq_true rfl, Nat.le_of_ble_eq_true rfl⟩) rfl hl.1 rfl (Nat.le_of_ble_eq_true rfl) dX5_isInRange_72 ⟨Nat.zero_le _, Nat.zero_le _⟩ (fun r72 f2 H locs hM hp3 => ?_)
      obtain ⟨rfl, rfl⟩ := hp3
      refine g_ifb_eq (tgt := 91) hx hb dX5_isInRange_75 (by decide) (fun c75 => ?_) (fun c75 => ?_)
      · skip
        refine g_iconst hx hb dX5_isInRange_91 ?_
        refine g_zret hx hb hr hlk hK hM dX5_isInRange_92 rfl ?_
        refine ⟨?_, rfl⟩
        show zI 0 = _
        first | exact (bI_t (by rw [rg_0]; omega)).symm | exact (bI_f (by rw [rg_0]; omega)).symm
      · skip
        refine lv_iload_n hx hb dX5_isInRange_78 rfl (lv_at hl 3 rfl) ?_
        refine g_iconst hx hb dX5_isInRange_79 ?_
        refine g_iconst hx hb dX5_isInRange_80 ?_
        have hC4 := c_X8_isWithin l g b0 n f b 0 2 hrb (by decide) (by decide)
        refine g_callNi (As := [.int (zI b), .int (zI 0), .int (zI 2)]) (rest := []) ⟨hx, hb, hml, hown, hts⟩ hK hM hC4 (cuN (n := 3) hts u_406 u_404 u_1 (by decide) u_405 ⟨Nat.le_of_ble_eq_true rfl, Nat.le_of_ble_eq_true rfl⟩) rfl hl.1 rfl (Nat.le_of_ble_eq_true rfl) dX5_isInRange_81 ⟨Nat.zero_le _, Nat.zero_le _⟩ (fun r81 f5 H locs hM hp6 => ?_)
        obtain ⟨rfl, rfl⟩ := hp6
        refine g_ifb_eq (tgt := 91) hx hb dX5_isInRange_84 (by decide) (fun c84 => ?_) (fun c84 => ?_)
        · skip
          refine g_iconst hx hb dX5_isInRange_91 ?_
          refine g_zret hx hb hr hlk hK hM dX5_isInRange_92 rfl ?_
          refine ⟨?_, rfl⟩
          show zI 0 = _
          first | exact (bI_t (by rw [rg_0]; omega)).symm | exact (bI_f (by rw [rg_0]; omega)).symm
        · skip
          refine g_iconst hx hb dX5_isInRange_87 ?_
          refine lv_goto (tgt := 92) hx hb dX5_isInRange_88 (by decide) ?_
          refine g_zret hx hb hr hlk hK hM dX5_isInRange_92 rfl ?_
          refine ⟨?_, rfl⟩
          show zI 1 = _
          first | exact (bI_t (by rw [rg_0]; omega)).symm | exact (bI_f (by rw [rg_0]; omega)).symm
    · refine lv_tableIn (off := 92) (tgt := 93) hx hb dX5_isInRange_1 (by rw [hz1, c1]; decide) (by rw [hz1, c1]; decide) (by rw [hz1, c1]; decide) (by decide) ?_
      subst c1
      refine lv_iload_n hx hb dX5_isInRange_93 rfl (lv_at hl 3 rfl) ?_
      refine g_iconst hx hb dX5_isInRange_94 ?_
      refine g_ldc (z := 9000000) hx hb hown (hts _ u_403) dX5_isInRange_95 (by decide) ?_
      have hC7 := c_X8_isWithin l g b0 n f b (-1) 9000000 hrb (by decide) (by decide)
      refine g_callNi (As := [.int (zI b), .int (zI (-1)), .int (zI 9000000)]) (rest := []) ⟨hx, hb, hml, hown, hts⟩ hK hM hC7 (cuN (n := 3) hts u_406 u_404 u_1 (by decide) u_405 ⟨Nat.le_of_ble_eq_true rfl, Nat.le_of_ble_eq_true rfl⟩) rfl hl.1 rfl (Nat.le_of_ble_eq_true rfl) dX5_isInRange_97 ⟨Nat.zero_le _, Nat.zero_le _⟩ (fun r97 f8 H locs hM hp9 => ?_)
      obtain ⟨rfl, rfl⟩ := hp9
      refine g_zret hx hb hr hlk hK hM dX5_isInRange_100 (bI_nar _) ?_
      refine ⟨bI_iff ?_, rfl⟩
      rw [rg_1] <;> omega
    · refine lv_tableIn (off := 100) (tgt := 101) hx hb dX5_isInRange_1 (by rw [hz1, c1]; decide) (by rw [hz1, c1]; decide) (by rw [hz1, c1]; decide) (by decide) ?_
      subst c1
      refine lv_iload_n hx hb dX5_isInRange_101 rfl (lv_at hl 3 rfl) ?_
      refine g_iconst hx hb dX5_isInRange_102 ?_
      refine g_iconst hx hb dX5_isInRange_103 ?_
      have hC10 := c_X8_isWithin l g b0 n f b 0 2 hrb (by decide) (by decide)
      refine g_callNi (As := [.int (zI b), .int (zI 0), .int (zI 2)]) (rest := []) ⟨hx, hb, hml, hown, hts⟩ hK hM hC10 (cuN (n := 3) hts u_406 u_404 u_1 (by decide) u_405 ⟨Nat.le_of_ble_eq_true rfl, Nat.le_of_ble_eq_true rfl⟩) rfl hl.1 rfl (Nat.le_of_ble_eq_true rfl) dX5_isInRange_104 ⟨Nat.zero_le _, Nat.zero_le _⟩ (fun r104 f11 H locs hM hp12 => ?_)
      obtain ⟨rfl, rfl⟩ := hp12
      refine g_zret hx hb hr hlk hK hM dX5_isInRange_107 (bI_nar _) ?_
      refine ⟨bI_iff ?_, rfl⟩
      rw [rg_2] <;> omega
    · refine lv_tableIn (off := 107) (tgt := 108) hx hb dX5_isInRange_1 (by rw [hz1, c1]; decide) (by rw [hz1, c1]; decide) (by rw [hz1, c1]; decide) (by decide) ?_
      subst c1
      refine lv_aload_n hx hb dX5_isInRange_108 rfl (lv_at hl 0 rfl) ?_
      refine lv_iload_n hx hb dX5_isInRange_109 rfl (lv_at hl 2 rfl) ?_
      refine lv_iload hx hb dX5_isInRange_110 (lv_at hl 4 rfl) ?_
      have hC13 := c_X5_isRuleNumber l g b0 n f h P a x hE hrg hra hrx
      obtain ⟨ho16, ho17, ho18, ho19, ho20⟩ := id hE
      refine g_callVi (ci := 7) (C := RX5) (T := TX5) (N := 11) (As := [.int (zI a), .int (zI x)]) (rest := []) ⟨hx, hb, hml, hown, hts⟩ hK hM hC13 (cuV (n := 2) hts u_410 u_407 u_4 (by decide) u_409 us_13 ⟨Nat.le_of_ble_eq_true rfl, Nat.le_of_ble_eq_true rfl⟩) ⟨by omega, by omega⟩ ho16 rfl rfl hl.1 rfl (Nat.le_of_ble_eq_true rfl) dX5_isInRange_112 ⟨Nat.zero_le _, Nat.zero_le _⟩ (fun r112 f14 H locs hM hp15 => ?_)
      obtain ⟨rfl, rfl⟩ := hp15
      refine g_zret hx hb hr hlk hK hM dX5_isInRange_115 (bI_nar _) ?_
      refine ⟨bI_iff ?_, rfl⟩
      rw [rg_3] <;> omega
    · refine lv_tableIn (off := 235) (tgt := 236) hx hb dX5_isInRange_1 (by rw [hz1, c1]; decide) (by rw [hz1, c1]; decide) (by rw [hz1, c1]; decide) (by decide) ?_
      subst c1
      refine g_iconst hx hb dX5_isInRange_236 ?_
      refine g_zret hx hb hr hlk hK hM dX5_isInRange_237 rfl ?_
      refine ⟨?_, rfl⟩
      show zI 1 = _
      exact (bI_t (by rw [rg_4]; trivial)).symm
    · refine lv_tableIn (off := 115) (tgt := 116) hx hb dX5_isInRange_1 (by rw [hz1, c1]; decide) (by rw [hz1, c1]; decide) (by rw [hz1, c1]; decide) (by decide) ?_
      subst c1
      refine lv_iload_n hx hb dX5_isInRange_116 rfl (lv_at hl 2 rfl) ?_
      refine lv_iload_n hx hb dX5_isInRange_117 rfl (lv_at hl 3 rfl) ?_
      refine g_icmp_eq (tgt := 147) hx hb dX5_isInRange_118 (by decide) hra hrb (fun c118 => ?_) (fun c118 => ?_)
      · skip
        refine g_iconst hx hb dX5_isInRange_147 ?_
        refine g_zret hx hb hr hlk hK hM dX5_isInRange_148 rfl ?_
        refine ⟨?_, rfl⟩
        show zI 0 = _
        first | exact (bI_t (by rw [rg_5]; omega)).symm | exact (bI_f (by rw [rg_5]; omega)).symm
      · skip
        refine lv_iload hx hb dX5_isInRange_121 (lv_at hl 4 rfl) ?_
        refine g_iconst hx hb dX5_isInRange_123 ?_
        refine g_ldc (z := 9000000) hx hb hown (hts _ u_403) dX5_isInRange_124 (by decide) ?_
        have hC21 := c_X8_isWithin l g b0 n f x 0 9000000 hrx (by decide) (by decide)
        refine g_callNi (As := [.int (zI x), .int (zI 0), .int (zI 9000000)]) (rest := []) ⟨hx, hb, hml, hown, hts⟩ hK hM hC21 (cuN (n := 3) hts u_406 u_404 u_1 (by decide) u_405 ⟨Nat.le_of_ble_eq_true rfl, Nat.le_of_ble_eq_true rfl⟩) rfl hl.1 rfl (Nat.le_of_ble_eq_true rfl) dX5_isInRange_126 ⟨Nat.zero_le _, Nat.zero_le _⟩ (fun r126 f22 H locs hM hp23 => ?_)
        obtain ⟨rfl, rfl⟩ := hp23
        refine g_ifb_eq (tgt := 147) hx hb dX5_isInRange_129 (by decide) (fun c129 => ?_) (fun c129 => ?_)
        · skip
          refine g_iconst hx hb dX5_isInRange_147 ?_
          refine g_zret hx hb hr hlk hK hM dX5_isInRange_148 rfl ?_
          refine ⟨?_, rfl⟩
          show zI 0 = _
          first | exact (bI_t (by rw [rg_5]; omega)).symm | exact (bI_f (by rw [rg_5]; omega)).symm
        · skip
          refine lv_iload hx hb dX5_isInRange_132 (lv_at hl 5 rfl) ?_
          refine g_iconst hx hb dX5_isInRange_134 ?_
          refine g_bipush hx hb dX5_isInRange_135 (by decide) ?_
          have hC24 := c_X8_isWithin l g b0 n f y 1 100 hry (by decide) (by decide)
          refine g_callNi (As := [.int (zI y), .int (zI 1), .int (zI 100)]) (rest := []) ⟨hx, hb, hml, hown, hts⟩ hK hM hC24 (cuN (n := 3) hts u_406 u_404 u_1 (by decide) u_405 ⟨Nat.le_of_ble_eq_true rfl, Nat.le_of_ble_eq_true rfl⟩) rfl hl.1 rfl (Nat.le_of_ble_eq_true rfl) dX5_isInRange_137 ⟨Nat.zero_le _, Nat.zero_le _⟩ (fun r137 f25 H locs hM hp26 => ?_)
          obtain ⟨rfl, rfl⟩ := hp26
          refine g_ifb_eq (tgt := 147) hx hb dX5_isInRange_140 (by decide) (fun c140 => ?_) (fun c140 => ?_)
          · skip
            refine g_iconst hx hb dX5_isInRange_147 ?_
            refine g_zret hx hb hr hlk hK hM dX5_isInRange_148 rfl ?_
            refine ⟨?_, rfl⟩
            show zI 0 = _
            first | exact (bI_t (by rw [rg_5]; omega)).symm | exact (bI_f (by rw [rg_5]; omega)).symm
          · skip
            refine g_iconst hx hb dX5_isInRange_143 ?_
            refine lv_goto (tgt := 148) hx hb dX5_isInRange_144 (by decide) ?_
            refine g_zret hx hb hr hlk hK hM dX5_isInRange_148 rfl ?_
            refine ⟨?_, rfl⟩
            show zI 1 = _
            first | exact (bI_t (by rw [rg_5]; omega)).symm | exact (bI_f (by rw [rg_5]; omega)).symm
    · refine lv_tableIn (off := 235) (tgt := 236) hx hb dX5_isInRange_1 (by rw [hz1, c1]; decide) (by rw [hz1, c1]; decide) (by rw [hz1, c1]; decide) (by decide) ?_
      subst c1
      refine g_iconst hx hb dX5_isInRange_236 ?_
      refine g_zret hx hb hr hlk hK hM dX5_isInRange_237 rfl ?_
      refine ⟨?_, rfl⟩
      show zI 1 = _
      exact (bI_t (by rw [rg_6]; trivial)).symm
    · refine lv_tableIn (off := 148) (tgt := 149) hx hb dX5_isInRange_1 (by rw [hz1, c1]; decide) (by rw [hz1, c1]; decide) (by rw [hz1, c1]; decide) (by decide) ?_
      subst c1
      refine lv_iload_n hx hb dX5_isInRange_149 rfl (lv_at hl 2 rfl) ?_
      refine g_iconst hx hb dX5_isInRange_150 ?_
      refine g_icmp_eq (tgt := 162) hx hb dX5_isInRange_151 (by decide) hra (by decide) (fun c151 => ?_) (fun c151 => ?_)
      · skip
        refine lv_iload hx hb dX5_isInRange_162 (lv_at hl 4 rfl) ?_
        refine g_iconst hx hb dX5_isInRange_164 ?_
        refine g_ldc (z := 1000000) hx hb hown (hts _ u_411) dX5_isInRange_165 (by decide) ?_
        have hC27 := c_X8_isWithin l g b0 n f x 1 1000000 hrx (by decide) (by decide)
        refine g_callNi (As := [.int (zI x), .int (zI 1), .int (zI 1000000)]) (rest := []) ⟨hx, hb, hml, hown, hts⟩ hK hM hC27 (cuN (n := 3) hts u_406 u_404 u_1 (by decide) u_405 ⟨Nat.le_of_ble_eq_true rfl, Nat.le_of_ble_eq_true rfl⟩) rfl hl.1 rfl (Nat.le_of_ble_eq_true rfl) dX5_isInRange_167 ⟨Nat.zero_le _, Nat.zero_le _⟩ (fun r167 f28 H locs hM hp29 => ?_)
        obtain ⟨rfl, rfl⟩ := hp29
        refine g_ifb_eq (tgt := 188) hx hb dX5_isInRange_170 (by decide) (fun c170 => ?_) (fun c170 => ?_)
        · skip
          refine g_iconst hx hb dX5_isInRange_188 ?_
          refine g_zret hx hb hr hlk hK hM dX5_isInRange_189 rfl ?_
          refine ⟨?_, rfl⟩
          show zI 0 = _
          first | exact (bI_t (by rw [rg_7]; omega)).symm | exact (bI_f (by rw [rg_7]; omega)).symm
        · skip
          refine lv_iload hx hb dX5_isInRange_173 (lv_at hl 5 rfl) ?_
          refine g_iconst hx hb dX5_isInRange_175 ?_
          refine g_bipush hx hb dX5_isInRange_176 (by decide) ?_
          have hC30 := c_X8_isWithin l g b0 n f y 1 60 hry (by decide) (by decide)
          refine g_callNi (As := [.int (zI y), .int (zI 1), .int (zI 60)]) (rest := []) ⟨hx, hb, hml, hown, hts⟩ hK hM hC30 (cuN (n := 3) hts u_406 u_404 u_1 (by decide) u_405 ⟨Nat.le_of_ble_eq_true rfl, Nat.le_of_ble_eq_true rfl⟩) rfl hl.1 rfl (Nat.le_of_ble_eq_true rfl) dX5_isInRange_178 ⟨Nat.zero_le _, Nat.zero_le _⟩ (fun r178 f31 H locs hM hp32 => ?_)
          obtain ⟨rfl, rfl⟩ := hp32
          refine g_ifb_eq (tgt := 188) hx hb dX5_isInRange_181 (by decide) (fun c181 => ?_) (fun c181 => ?_)
          · skip
            refine g_iconst hx hb dX5_isInRange_188 ?_
            refine g_zret hx hb hr hlk hK hM dX5_isInRange_189 rfl ?_
            refine ⟨?_, rfl⟩
            show zI 0 = _
            first | exact (bI_t (by rw [rg_7]; omega)).symm | exact (bI_f (by rw [rg_7]; omega)).symm
          · skip
            refine g_iconst hx hb dX5_isInRange_184 ?_
            refine lv_goto (tgt := 189) hx hb dX5_isInRange_185 (by decide) ?_
            refine g_zret hx hb hr hlk hK hM dX5_isInRange_189 rfl ?_
            refine ⟨?_, rfl⟩
            show zI 1 = _
            first | exact (bI_t (by rw [rg_7]; omega)).symm | exact (bI_f (by rw [rg_7]; omega)).symm
      · skip
        refine lv_iload_n hx hb dX5_isInRange_154 rfl (lv_at hl 2 rfl) ?_
        refine g_if_ne (tgt := 188) hx hb dX5_isInRange_155 (by decide) hra (fun c155 => ?_) (fun c155 => ?_)
        · skip
          refine g_iconst hx hb dX5_isInRange_188 ?_
          refine g_zret hx hb hr hlk hK hM dX5_isInRange_189 rfl ?_
          refine ⟨?_, rfl⟩
          show zI 0 = _
          first | exact (bI_t (by rw [rg_7]; omega)).symm | exact (bI_f (by rw [rg_7]; omega)).symm
        · skip
          refine lv_iload_n hx hb dX5_isInRange_158 rfl (lv_at hl 3 rfl) ?_
          refine g_if_ne (tgt := 188) hx hb dX5_isInRange_159 (by decide) hrb (fun c159 => ?_) (fun c159 => ?_)
          · skip
            refine g_iconst hx hb dX5_isInRange_188 ?_
            refine g_zret hx hb hr hlk hK hM dX5_isInRange_189 rfl ?_
            refine ⟨?_, rfl⟩
            show zI 0 = _
            first | exact (bI_t (by rw [rg_7]; omega)).symm | exact (bI_f (by rw [rg_7]; omega)).symm
          · skip
            refine lv_iload hx hb dX5_isInRange_162 (lv_at hl 4 rfl) ?_
            refine g_iconst hx hb dX5_isInRange_164 ?_
            refine g_ldc (z := 1000000) hx hb hown (hts _ u_411) dX5_isInRange_165 (by decide) ?_
            have hC33 := c_X8_isWithin l g b0 n f x 1 1000000 hrx (by decide) (by decide)
            refine g_callNi (As := [.int (zI x), .int (zI 1), .int (zI 1000000)]) (rest := []) ⟨hx, hb, hml, hown, hts⟩ hK hM hC33 (cuN (n := 3) hts u_406 u_404 u_1 (by decide) u_405 ⟨Nat.le_of_ble_eq_true rfl, Nat.le_of_ble_eq_true rfl⟩) rfl hl.1 rfl (Nat.le_of_ble_eq_true rfl) dX5_isInRange_167 ⟨Nat.zero_le _, Nat.zero_le _⟩ (fun r167 f34 H locs hM hp35 => ?_)
            obtain ⟨rfl, rfl⟩ := hp35
            refine g_ifb_eq (tgt := 188) hx hb dX5_isInRange_170 (by decide) (fun c170 => ?_) (fun c170 => ?_)
            · skip
              refine g_iconst hx hb dX5_isInRange_188 ?_
              refine g_zret hx hb hr hlk hK hM dX5_isInRange_189 rfl ?_
              refine ⟨?_, rfl⟩
              show zI 0 = _
              first | exact (bI_t (by rw [rg_7]; omega)).symm | exact (bI_f (by rw [rg_7]; omega)).symm
            · skip
              refine lv_iload hx hb dX5_isInRange_173 (lv_at hl 5 rfl) ?_
              refine g_iconst hx hb dX5_isInRange_175 ?_
              refine g_bipush hx hb dX5_isInRange_176 (by decide) ?_
              have hC36 := c_X8_isWithin l g b0 n f y 1 60 hry (by decide) (by decide)
              refine g_callNi (As := [.int (zI y), .int (zI 1), .int (zI 60)]) (rest := []) ⟨hx, hb, hml, hown, hts⟩ hK hM hC36 (cuN (n := 3) hts u_406 u_404 u_1 (by decide) u_405 ⟨Nat.le_of_ble_eq_true rfl, Nat.le_of_ble_eq_true rfl⟩) rfl hl.1 rfl (Nat.le_of_ble_eq_true rfl) dX5_isInRange_178 ⟨Nat.zero_le _, Nat.zero_le _⟩ (fun r178 f37 H locs hM hp38 => ?_)
              obtain ⟨rfl, rfl⟩ := hp38
              refine g_ifb_eq (tgt := 188) hx hb dX5_isInRange_181 (by decide) (fun c181 => ?_) (fun c181 => ?_)
              · skip
                refine g_iconst hx hb dX5_isInRange_188 ?_
                refine g_zret hx hb hr hlk hK hM dX5_isInRange_189 rfl ?_
                refine ⟨?_, rfl⟩
                show zI 0 = _
                first | exact (bI_t (by rw [rg_7]; omega)).symm | exact (bI_f (by rw [rg_7]; omega)).symm
              · skip
                refine g_iconst hx hb dX5_isInRange_184 ?_
                refine lv_goto (tgt := 189) hx hb dX5_isInRange_185 (by decide) ?_
                refine g_zret hx hb hr hlk hK hM dX5_isInRange_189 rfl ?_
                refine ⟨?_, rfl⟩
                show zI 1 = _
                first | exact (bI_t (by rw [rg_7]; omega)).symm | exact (bI_f (by rw [rg_7]; omega)).symm
    · refine lv_tableIn (off := 235) (tgt := 236) hx hb dX5_isInRange_1 (by rw [hz1, c1]; decide) (by rw [hz1, c1]; decide) (by rw [hz1, c1]; decide) (by decide) ?_
      subst c1
      refine g_iconst hx hb dX5_isInRange_236 ?_
      refine g_zret hx hb hr hlk hK hM dX5_isInRange_237 rfl ?_
      refine ⟨?_, rfl⟩
      show zI 1 = _
      exact (bI_t (by rw [rg_8]; trivial)).symm
    · refine lv_tableIn (off := 189) (tgt := 190) hx hb dX5_isInRange_1 (by rw [hz1, c1]; decide) (by rw [hz1, c1]; decide) (by rw [hz1, c1]; decide) (by decide) ?_
      subst c1
      refine lv_iload_n hx hb dX5_isInRange_190 rfl (lv_at hl 2 rfl) ?_
      refine g_iconst hx hb dX5_isInRange_191 ?_
      refine g_ldc (z := 1000000) hx hb hown (hts _ u_411) dX5_isInRange_192 (by decide) ?_
      have hC39 := c_X8_isWithin l g b0 n f a 1 1000000 hra (by decide) (by decide)
      refine g_callNi (As := [.int (zI a), .int (zI 1), .int (zI 1000000)]) (rest := []) ⟨hx, hb, hml, hown, hts⟩ hK hM hC39 (cuN (n := 3) hts u_406 u_404 u_1 (by decide) u_405 ⟨Nat.le_of_ble_eq_true rfl, Nat.le_of_ble_eq_true rfl⟩) rfl hl.1 rfl (Nat.le_of_ble_eq_true rfl) dX5_isInRange_194 ⟨Nat.zero_le _, Nat.zero_le _⟩ (fun r194 f40 H locs hM hp41 => ?_)
      obtain ⟨rfl, rfl⟩ := hp41
      refine g_zret hx hb hr hlk hK hM dX5_isInRange_197 (bI_nar _) ?_
      refine ⟨bI_iff ?_, rfl⟩
      rw [rg_9] <;> omega
    · refine lv_tableIn (off := 197) (tgt := 198) hx hb dX5_isInRange_1 (by rw [hz1, c1]; decide) (by rw [hz1, c1]; decide) (by rw [hz1, c1]; decide) (by decide) ?_
      subst c1
      refine lv_iload_n hx hb dX5_isInRange_198 rfl (lv_at hl 3 rfl) ?_
      refine g_iconst hx hb dX5_isInRange_199 ?_
      refine g_ldc (z := 1000000) hx hb hown (hts _ u_411) dX5_isInRange_200 (by decide) ?_
      have hC42 := c_X8_isWithin l g b0 n f b 1 1000000 hrb (by decide) (by decide)
      refine g_callNi (As := [.int (zI b), .int (zI 1), .int (zI 1000000)]) (rest := []) ⟨hx, hb, hml, hown, hts⟩ hK hM hC42 (cuN (n := 3) hts u_406 u_404 u_1 (by decide) u_405 ⟨Nat.le_of_ble_eq_true rfl, Nat.le_of_ble_eq_true rfl⟩) rfl hl.1 rfl (Nat.le_of_ble_eq_true rfl) dX5_isInRange_202 ⟨Nat.zero_le _, Nat.zero_le _⟩ (fun r202 f43 H locs hM hp44 => ?_)
      obtain ⟨rfl, rfl⟩ := hp44
      refine g_zret hx hb hr hlk hK hM dX5_isInRange_205 (bI_nar _) ?_
      refine ⟨bI_iff ?_, rfl⟩
      rw [rg_10] <;> omega
    · refine lv_tableIn (off := 205) (tgt := 206) hx hb dX5_isInRange_1 (by rw [hz1, c1]; decide) (by rw [hz1, c1]; decide) (by rw [hz1, c1]; decide) (by decide) ?_
      subst c1
      refine lv_iload_n hx hb dX5_isInRange_206 rfl (lv_at hl 2 rfl) ?_
      refine lv_iload_n hx hb dX5_isInRange_207 rfl (lv_at hl 3 rfl) ?_
      refine g_icmp_eq (tgt := 226) hx hb dX5_isInRange_208 (by decide) hra hrb (fun c208 => ?_) (fun c208 => ?_)
      · skip
        refine g_iconst hx hb dX5_isInRange_226 ?_
        refine g_zret hx hb hr hlk hK hM dX5_isInRange_227 rfl ?_
        refine ⟨?_, rfl⟩
        show zI 0 = _
        first | exact (bI_t (by rw [rg_11]; omega)).symm | exact (bI_f (by rw [rg_11]; omega)).symm
      · skip
        refine lv_iload hx hb dX5_isInRange_211 (lv_at hl 4 rfl) ?_
        refine g_iconst hx hb dX5_isInRange_213 ?_
        refine g_ldc (z := 1000000) hx hb hown (hts _ u_411) dX5_isInRange_214 (by decide) ?_
        have hC45 := c_X8_isWithin l g b0 n f x 1 1000000 hrx (by decide) (by decide)
        refine g_callNi (As := [.int (zI x), .int (zI 1), .int (zI 1000000)]) (rest := []) ⟨hx, hb, hml, hown, hts⟩ hK hM hC45 (cuN (n := 3) hts u_406 u_404 u_1 (by decide) u_405 ⟨Nat.le_of_ble_eq_true rfl, Nat.le_of_ble_eq_true rfl⟩) rfl hl.1 rfl (Nat.le_of_ble_eq_true rfl) dX5_isInRange_216 ⟨Nat.zero_le _, Nat.zero_le _⟩ (fun r216 f46 H locs hM hp47 => ?_)
        obtain ⟨rfl, rfl⟩ := hp47
        refine g_ifb_eq (tgt := 226) hx hb dX5_isInRange_219 (by decide) (fun c219 => ?_) (fun c219 => ?_)
        · skip
          refine g_iconst hx hb dX5_isInRange_226 ?_
          refine g_zret hx hb hr hlk hK hM dX5_isInRange_227 rfl ?_
          refine ⟨?_, rfl⟩
          show zI 0 = _
          first | exact (bI_t (by rw [rg_11]; omega)).symm | exact (bI_f (by rw [rg_11]; omega)).symm
        · skip
          refine g_iconst hx hb dX5_isInRange_222 ?_
          refine lv_goto (tgt := 227) hx hb dX5_isInRange_223 (by decide) ?_
          refine g_zret hx hb hr hlk hK hM dX5_isInRange_227 rfl ?_
          refine ⟨?_, rfl⟩
          show zI 1 = _
          first | exact (bI_t (by rw [rg_11]; omega)).symm | exact (bI_f (by rw [rg_11]; omega)).symm
    · refine lv_tableIn (off := 227) (tgt := 228) hx hb dX5_isInRange_1 (by rw [hz1, c1]; decide) (by rw [hz1, c1]; decide) (by rw [hz1, c1]; decide) (by decide) ?_
      subst c1
      refine lv_iload_n hx hb dX5_isInRange_228 rfl (lv_at hl 2 rfl) ?_
      refine g_iconst hx hb dX5_isInRange_229 ?_
      refine g_bipush hx hb dX5_isInRange_230 (by decide) ?_
      have hC48 := c_X8_isWithin l g b0 n f a 1 60 hra (by decide) (by decide)
      refine g_callNi (As := [.int (zI a), .int (zI 1), .int (zI 60)]) (rest := []) ⟨hx, hb, hml, hown, hts⟩ hK hM hC48 (cuN (n := 3) hts u_406 u_404 u_1 (by decide) u_405 ⟨Nat.le_of_ble_eq_true rfl, Nat.le_of_ble_eq_true rfl⟩) rfl hl.1 rfl (Nat.le_of_ble_eq_true rfl) dX5_isInRange_232 ⟨Nat.zero_le _, Nat.zero_le _⟩ (fun r232 f49 H locs hM hp50 => ?_)
      obtain ⟨rfl, rfl⟩ := hp50
      refine g_zret hx hb hr hlk hK hM dX5_isInRange_235 (bI_nar _) ?_
      refine ⟨bI_iff ?_, rfl⟩
      rw [rg_12] <;> omega

def po_X5_namesParts (g : gE) (f : gF) (h : Nat) (P : Nat → Int) (kd a b : Int) : Int32 → gF → Prop := fun r f1 => r = bI (nmP P kd a b) ∧ f = f1
set_option maxRecDepth 100000 in
set_option maxHeartbeats 1000000 in
/-- namesParts -/
theorem c_X5_namesParts (l : Launch) (g : gE) (b0 n : Nat) (f : gF) (h : Nat) (P : Nat → Int) (kd a b : Int) (hE : planAt g f h P) (hrg : b0 ≤ h ∧ h + 23 ≤ b0 + n) (hcn7 : 0 ≤ P 7 ∧ P 7 ≤ 10) (hcn8 : 0 ≤ P 8 ∧ P 8 ≤ 6) (hcn9 : 0 ≤ P 9 ∧ P 9 ≤ 6) (hcn10 : 0 ≤ P 10 ∧ P 10 ≤ 8) (hrk : rI kd) (hra : rI a) (hrb : rI b) : cI l yX5_namesParts cX5_namesParts 4 (some .boolean) 2 42 [.ref h, .int (zI kd), .int (zI a), .int (zI b)] g b0 n f (po_X5_namesParts g f h P kd a b) := by
  refine gs_i (cc := cX5_namesParts) (maxL := 4) (ret := (some .boolean)) (by decide) (Nat.le_of_ble_eq_true rfl) ?_
  intro p e0 s m args below meth c ls hx hb hr hml hown hts hlk hK hM hl
  have hl : lv_has ls 4 [(0, .ref h), (1, .int (zI kd)), (2, .int (zI a)), (3, .int (zI b))] := hl
  refine lv_iload_n hx hb dX5_namesParts_0 rfl (lv_at hl 1 rfl) ?_
  have hz1 := zI_toInt (z := kd) hrk
  rcases g_sw (1) (11) kd with c1 | c1
  · refine lv_tableOut (tgt := 177) hx hb dX5_namesParts_1 (by rw [hz1]; exact c1) (by decide) ?_
    refine g_iconst hx hb dX5_namesParts_177 ?_
    refine g_zret hx hb hr hlk hK hM dX5_namesParts_178 rfl ?_
    refine ⟨?_, rfl⟩
    show zI 1 = _
    first | exact (bI_t (by omega)).symm | exact (bI_f (by omega)).symm
  · rcases (show kd = 1 ∨ kd = 2 ∨ kd = 3 ∨ kd = 4 ∨ kd = 5 ∨ kd = 6 ∨ kd = 7 ∨ kd = 8 ∨ kd = 9 ∨ kd = 10 ∨ kd = 11 by omega) with c1 | c1 | c1 | c1 | c1 | c1 | c1 | c1 | c1 | c1 | c1
    · refine lv_tableIn (off := 59) (tgt := 60) hx hb dX5_namesParts_1 (by rw [hz1, c1]; decide) (by rw [hz1, c1]; decide) (by rw [hz1, c1]; decide) (by decide) ?_
      refine lv_aload_n hx hb dX5_namesParts_60 rfl (lv_at hl 0 rfl) ?_
      obtain ⟨ho1, ho2, ho3, ho4, ho5⟩ := id hE
      refine g_get (ci := 7) (v := .ref (h + 1)) (C := RX5) (T := TX5) (N := 11) hx hb hts iU_X5 hown hK hM ⟨by omega, by omega⟩ ho1 rfl 0 (by decide) (hts _ u_164) (fun _ h9 => h9) rfl dX5_namesParts_61 ?_
      refine lv_iload_n hx hb dX5_namesParts_64 rfl (lv_at hl 2 rfl) ?_
      have hC6 := c_X2_has l g b0 n f (h + 1) P a ho2 ⟨by omega, by omega⟩ hcn7 hra
      obtain ⟨ho9, ho10, ho11, ho12, ho13⟩ := id ho2
      refine g_callVi (ci := 4) (C := RX2) (T := TX2) (N := 5) (As := [.int (zI a)]) (rest := []) ⟨hx, hb, hml, hown, hts⟩ hK hM hC6 (cuV (n := 1) hts u_382 u_379 u_5 (by decide) u_380 u_381 ⟨Nat.le_of_ble_eq_true rfl, Nat.le_of_ble_eq_true rfl⟩) ⟨by omega, by omega⟩ ho9 rfl rfl hl.1 rfl (Nat.le_of_ble_eq_true rfl) dX5_namesParts_65 ⟨Nat.zero_le _, Nat.zero_le _⟩ (fun r65 f7 H locs hM hp8 => ?_)
      obtain ⟨rfl, rfl⟩ := hp8
      refine g_zret hx hb hr hlk hK hM dX5_namesParts_68 (bI_nar _) ?_
      refine ⟨bI_iff ?_, rfl⟩
      omega
    · refine lv_tableIn (off := 59) (tgt := 60) hx hb dX5_namesParts_1 (by rw [hz1, c1]; decide) (by rw [hz1, c1]; decide) (by rw [hz1, c1]; decide) (by decide) ?_
      refine lv_aload_n hx hb dX5_namesParts_60 rfl (lv_at hl 0 rfl) ?_
      obtain ⟨ho14, ho15, ho16, ho17, ho18⟩ := id hE
      refine g_get (ci := 7) (v := .ref (h + 1)) (C := RX5) (T := TX5) (N := 11) hx hb hts iU_X5 hown hK hM ⟨by omega, by omega⟩ ho14 rfl 0 (by decide) (hts _ u_164) (fun _ h9 => h9) rfl dX5_namesParts_61 ?_
      refine lv_iload_n hx hb dX5_namesParts_64 rfl (lv_at hl 2 rfl) ?_
      have hC19 := c_X2_has l g b0 n f (h + 1) P a ho15 ⟨by omega, by omega⟩ hcn7 hra
      obtain ⟨ho22, ho23, ho24, ho25, ho26⟩ := id ho15
      refine g_callVi (ci := 4) (C := RX2) (T := TX2) (N := 5) (As := [.int (zI a)]) (rest := []) ⟨hx, hb, hml, hown, hts⟩ hK hM hC19 (cuV (n := 1) hts u_382 u_379 u_5 (by decide) u_380 u_381 ⟨Nat.le_of_ble_eq_true rfl, Nat.le_of_ble_eq_true rfl⟩) ⟨by omega, by omega⟩ ho22 rfl rfl hl.1 rfl (Nat.le_of_ble_eq_true rfl) dX5_namesParts_65 ⟨Nat.zero_le _, Nat.zero_le _⟩ (fun r65 f20 H locs hM hp21 => ?_)
      obtain ⟨rfl, rfl⟩ := hp21
      refine g_zret hx hb hr hlk hK hM dX5_namesParts_68 (bI_nar _) ?_
      refine ⟨bI_iff ?_, rfl⟩
      omega
    · refine lv_tableIn (off := 68) (tgt := 69) hx hb dX5_namesParts_1 (by rw [hz1, c1]; decide) (by rw [hz1, c1]; decide) (by rw [hz1, c1]; decide) (by decide) ?_
      refine lv_aload_n hx hb dX5_namesParts_69 rfl (lv_at hl 0 rfl) ?_
      obtain ⟨ho27, ho28, ho29, ho30, ho31⟩ := id hE
      refine g_get (ci := 7) (v := .ref (h + 1)) (C := RX5) (T := TX5) (N := 11) hx hb hts iU_X5 hown hK hM ⟨by omega, by omega⟩ ho27 rfl 0 (by decide) (hts _ u_164) (fun _ h9 => h9) rfl dX5_namesParts_70 ?_
      refine lv_iload_n hx hb dX5_namesParts_73 rfl (lv_at hl 3 rfl) ?_
      have hC32 := c_X2_has l g b0 n f (h + 1) P b ho28 ⟨by omega, by omega⟩ hcn7 hrb
      obtain ⟨ho35, ho36, ho37, ho38, ho39⟩ := id ho28
      refine g_callVi (ci := 4) (C := RX2) (T := TX2) (N := 5) (As := [.int (zI b)]) (rest := []) ⟨hx, hb, hml, hown, hts⟩ hK hM hC32 (cuV (n := 1) hts u_382 u_379 u_5 (by decide) u_380 u_381 ⟨Nat.le_of_ble_eq_true rfl, Nat.le_of_ble_eq_true rfl⟩) ⟨by omega, by omega⟩ ho35 rfl rfl hl.1 rfl (Nat.le_of_ble_eq_true rfl) dX5_namesParts_74 ⟨Nat.zero_le _, Nat.zero_le _⟩ (fun r74 f33 H locs hM hp34 => ?_)
      obtain ⟨rfl, rfl⟩ := hp34
      refine g_zret hx hb hr hlk hK hM dX5_namesParts_77 (bI_nar _) ?_
      refine ⟨bI_iff ?_, rfl⟩
      omega
    · refine lv_tableIn (off := 77) (tgt := 78) hx hb dX5_namesParts_1 (by rw [hz1, c1]; decide) (by rw [hz1, c1]; decide) (by rw [hz1, c1]; decide) (by decide) ?_
      refine lv_aload_n hx hb dX5_namesParts_78 rfl (lv_at hl 0 rfl) ?_
      obtain ⟨ho40, ho41, ho42, ho43, ho44⟩ := id hE
      refine g_get (ci := 7) (v := .ref (h + 6)) (C := RX5) (T := TX5) (N := 11) hx hb hts iU_X5 hown hK hM ⟨by omega, by omega⟩ ho40 rfl 1 (by decide) (hts _ u_166) (fun _ h9 => h9) rfl dX5_namesParts_79 ?_
      refine lv_iload_n hx hb dX5_namesParts_82 rfl (lv_at hl 2 rfl) ?_
      have hC45 := c_X7_has l g b0 n f (h + 6) P a ho42 ⟨by omega, by omega⟩ hcn8 hra
      obtain ⟨ho48, ho49, ho50, ho51⟩ := id ho42
      refine g_callVi (ci := 9) (C := RX7) (T := TX7) (N := 4) (As := [.int (zI a)]) (rest := []) ⟨hx, hb, hml, hown, hts⟩ hK hM hC45 (cuV (n := 1) hts u_386 u_383 u_6 (by decide) u_384 u_385 ⟨Nat.le_of_ble_eq_true rfl, Nat.le_of_ble_eq_true rfl⟩) ⟨by omega, by omega⟩ ho48 rfl rfl hl.1 rfl (Nat.le_of_ble_eq_true rfl) dX5_namesParts_83 ⟨Nat.zero_le _, Nat.zero_le _⟩ (fun r83 f46 H locs hM hp47 => ?_)
      obtain ⟨rfl, rfl⟩ := hp47
      refine g_zret hx hb hr hlk hK hM dX5_namesParts_86 (bI_nar _) ?_
      refine ⟨bI_iff ?_, rfl⟩
      omega
    · refine lv_tableIn (off := 86) (tgt := 87) hx hb dX5_namesParts_1 (by rw [hz1, c1]; decide) (by rw [hz1, c1]; decide) (by rw [hz1, c1]; decide) (by decide) ?_
      refine lv_aload_n hx hb dX5_namesParts_87 rfl (lv_at hl 0 rfl) ?_
      obtain ⟨ho52, ho53, ho54, ho55, ho56⟩ := id hE
      refine g_get (ci := 7) (v := .ref (h + 1)) (C := RX5) (T := TX5) (N := 11) hx hb hts iU_X5 hown hK hM ⟨by omega, by omega⟩ ho52 rfl 0 (by decide) (hts _ u_164) (fun _ h9 => h9) rfl dX5_namesParts_88 ?_
      refine lv_iload_n hx hb dX5_namesParts_91 rfl (lv_at hl 2 rfl) ?_
      have hC57 := c_X2_has l g b0 n f (h + 1) P a ho53 ⟨by omega, by omega⟩ hcn7 hra
      obtain ⟨ho60, ho61, ho62, ho63, ho64⟩ := id ho53
      refine g_callVi (ci := 4) (C := RX2) (T := TX2) (N := 5) (As := [.int (zI a)]) (rest := []) ⟨hx, hb, hml, hown, hts⟩ hK hM hC57 (cuV (n := 1) hts u_382 u_379 u_5 (by decide) u_380 u_381 ⟨Nat.le_of_ble_eq_true rfl, Nat.le_of_ble_eq_true rfl⟩) ⟨by omega, by omega⟩ ho60 rfl rfl hl.1 rfl (Nat.le_of_ble_eq_true rfl) dX5_namesParts_92 ⟨Nat.zero_le _, Nat.zero_le _⟩ (fun r92 f58 H locs hM hp59 => ?_)
      obtain ⟨rfl, rfl⟩ := hp59
      refine g_ifb_eq (tgt := 113) hx hb dX5_namesParts_95 (by decide) (fun c95 => ?_) (fun c95 => ?_)
      · skip
        refine g_iconst hx hb dX5_namesParts_113 ?_
        refine g_zret hx hb hr hlk hK hM dX5_namesParts_114 rfl ?_
        refine ⟨?_, rfl⟩
        show zI 0 = _
        first | exact (bI_t (by omega)).symm | exact (bI_f (by omega)).symm
      · skip
        refine lv_aload_n hx hb dX5_namesParts_98 rfl (lv_at hl 0 rfl) ?_
        refine g_get (ci := 7) (v := .ref (h + 1)) (C := RX5) (T := TX5) (N := 11) hx hb hts iU_X5 hown hK hM ⟨by omega, by omega⟩ ho52 rfl 0 (by decide) (hts _ u_164) (fun _ h9 => h9) rfl dX5_namesParts_99 ?_
        refine lv_iload_n hx hb dX5_namesParts_102 rfl (lv_at hl 3 rfl) ?_
        have hC65 := c_X2_has l g b0 n f (h + 1) P b ho53 ⟨by omega, by omega⟩ hcn7 hrb
        refine g_callVi (ci := 4) (C := RX2) (T := TX2) (N := 5) (As := [.int (zI b)]) (rest := []) ⟨hx, hb, hml, hown, hts⟩ hK hM hC65 (cuV (n := 1) hts u_382 u_379 u_5 (by decide) u_380 u_381 ⟨Nat.le_of_ble_eq_true rfl, Nat.le_of_ble_eq_true rfl⟩) ⟨by omega, by omega⟩ ho60 rfl rfl hl.1 rfl (Nat.le_of_ble_eq_true rfl) dX5_namesParts_103 ⟨Nat.zero_le _, Nat.zero_le _⟩ (fun r103 f66 H locs hM hp67 => ?_)
        obtain ⟨rfl, rfl⟩ := hp67
        refine g_ifb_eq (tgt := 113) hx hb dX5_namesParts_106 (by decide) (fun c106 => ?_) (fun c106 => ?_)
        · skip
          refine g_iconst hx hb dX5_namesParts_113 ?_
          refine g_zret hx hb hr hlk hK hM dX5_namesParts_114 rfl ?_
          refine ⟨?_, rfl⟩
          show zI 0 = _
          first | exact (bI_t (by omega)).symm | exact (bI_f (by omega)).symm
        · skip
          refine g_iconst hx hb dX5_namesParts_109 ?_
          refine lv_goto (tgt := 114) hx hb dX5_namesParts_110 (by decide) ?_
          refine g_zret hx hb hr hlk hK hM dX5_namesParts_114 rfl ?_
          refine ⟨?_, rfl⟩
          show zI 1 = _
          first | exact (bI_t (by omega)).symm | exact (bI_f (by omega)).symm
    · refine lv_tableIn (off := 114) (tgt := 115) hx hb dX5_namesParts_1 (by rw [hz1, c1]; decide) (by rw [hz1, c1]; decide) (by rw [hz1, c1]; decide) (by decide) ?_
      refine lv_aload_n hx hb dX5_namesParts_115 rfl (lv_at hl 0 rfl) ?_
      obtain ⟨ho68, ho69, ho70, ho71, ho72⟩ := id hE
      refine g_get (ci := 7) (v := .ref (h + 10)) (C := RX5) (T := TX5) (N := 11) hx hb hts iU_X5 hown hK hM ⟨by omega, by omega⟩ ho68 rfl 2 (by decide) (hts _ u_168) (fun _ h9 => h9) rfl dX5_namesParts_116 ?_
      refine lv_iload_n hx hb dX5_namesParts_119 rfl (lv_at hl 2 rfl) ?_
      have hC73 := c_X4_has l g b0 n f (h + 10) P a ho71 ⟨by omega, by omega⟩ hcn9 hra
      obtain ⟨ho76, ho77, ho78, ho79, ho80, ho81⟩ := id ho71
      refine g_callVi (ci := 6) (C := RX4) (T := TX4) (N := 6) (As := [.int (zI a)]) (rest := []) ⟨hx, hb, hml, hown, hts⟩ hK hM hC73 (cuV (n := 1) hts u_390 u_387 u_7 (by decide) u_388 u_389 ⟨Nat.le_of_ble_eq_true rfl, Nat.le_of_ble_eq_true rfl⟩) ⟨by omega, by omega⟩ ho76 rfl rfl hl.1 rfl (Nat.le_of_ble_eq_true rfl) dX5_namesParts_120 ⟨Nat.zero_le _, Nat.zero_le _⟩ (fun r120 f74 H locs hM hp75 => ?_)
      obtain ⟨rfl, rfl⟩ := hp75
      refine g_zret hx hb hr hlk hK hM dX5_namesParts_123 (bI_nar _) ?_
      refine ⟨bI_iff ?_, rfl⟩
      omega
    · refine lv_tableIn (off := 123) (tgt := 124) hx hb dX5_namesParts_1 (by rw [hz1, c1]; decide) (by rw [hz1, c1]; decide) (by rw [hz1, c1]; decide) (by decide) ?_
      refine lv_iload_n hx hb dX5_namesParts_124 rfl (lv_at hl 2 rfl) ?_
      refine g_iconst hx hb dX5_namesParts_125 ?_
      refine g_icmp_ne (tgt := 140) hx hb dX5_namesParts_126 (by decide) hra (by decide) (fun c126 => ?_) (fun c126 => ?_)
      · skip
        refine g_iconst hx hb dX5_namesParts_140 ?_
        refine lv_goto (tgt := 145) hx hb dX5_namesParts_141 (by decide) ?_
        refine g_zret hx hb hr hlk hK hM dX5_namesParts_145 rfl ?_
        refine ⟨?_, rfl⟩
        show zI 1 = _
        first | exact (bI_t (by omega)).symm | exact (bI_f (by omega)).symm
      · skip
        refine lv_aload_n hx hb dX5_namesParts_129 rfl (lv_at hl 0 rfl) ?_
        obtain ⟨ho82, ho83, ho84, ho85, ho86⟩ := id hE
        refine g_get (ci := 7) (v := .ref (h + 1)) (C := RX5) (T := TX5) (N := 11) hx hb hts iU_X5 hown hK hM ⟨by omega, by omega⟩ ho82 rfl 0 (by decide) (hts _ u_164) (fun _ h9 => h9) rfl dX5_namesParts_130 ?_
        refine lv_iload_n hx hb dX5_namesParts_133 rfl (lv_at hl 3 rfl) ?_
        have hC87 := c_X2_has l g b0 n f (h + 1) P b ho83 ⟨by omega, by omega⟩ hcn7 hrb
        obtain ⟨ho90, ho91, ho92, ho93, ho94⟩ := id ho83
        refine g_callVi (ci := 4) (C := RX2) (T := TX2) (N := 5) (As := [.int (zI b)]) (rest := []) ⟨hx, hb, hml, hown, hts⟩ hK hM hC87 (cuV (n := 1) hts u_382 u_379 u_5 (by decide) u_380 u_381 ⟨Nat.le_of_ble_eq_true rfl, Nat.le_of_ble_eq_true rfl⟩) ⟨by omega, by omega⟩ ho90 rfl rfl hl.1 rfl (Nat.le_of_ble_eq_true rfl) dX5_namesParts_134 ⟨Nat.zero_le _, Nat.zero_le _⟩ (fun r134 f88 H locs hM hp89 => ?_)
        obtain ⟨rfl, rfl⟩ := hp89
        refine g_ifb_eq (tgt := 144) hx hb dX5_namesParts_137 (by decide) (fun c137 => ?_) (fun c137 => ?_)
        · skip
          refine g_iconst hx hb dX5_namesParts_144 ?_
          refine g_zret hx hb hr hlk hK hM dX5_namesParts_145 rfl ?_
          refine ⟨?_, rfl⟩
          show zI 0 = _
          first | exact (bI_t (by omega)).symm | exact (bI_f (by omega)).symm
        · skip
          refine g_iconst hx hb dX5_namesParts_140 ?_
          refine lv_goto (tgt := 145) hx hb dX5_namesParts_141 (by decide) ?_
          refine g_zret hx hb hr hlk hK hM dX5_namesParts_145 rfl ?_
          refine ⟨?_, rfl⟩
          show zI 1 = _
          first | exact (bI_t (by omega)).symm | exact (bI_f (by omega)).symm
    · refine lv_tableIn (off := 145) (tgt := 146) hx hb dX5_namesParts_1 (by rw [hz1, c1]; decide) (by rw [hz1, c1]; decide) (by rw [hz1, c1]; decide) (by decide) ?_
      refine lv_aload_n hx hb dX5_namesParts_146 rfl (lv_at hl 0 rfl) ?_
      obtain ⟨ho95, ho96, ho97, ho98, ho99⟩ := id hE
      refine g_get (ci := 7) (v := .ref (h + 16)) (C := RX5) (T := TX5) (N := 11) hx hb hts iU_X5 hown hK hM ⟨by omega, by omega⟩ ho95 rfl 3 (by decide) (hts _ u_170) (fun _ h9 => h9) rfl dX5_namesParts_147 ?_
      refine lv_iload_n hx hb dX5_namesParts_150 rfl (lv_at hl 2 rfl) ?_
      have hC100 := c_X3_has l g b0 n f (h + 16) P a ho99 ⟨by omega, by omega⟩ hcn10 hra
      obtain ⟨ho103, ho104, ho105, ho106, ho107, ho108, ho109⟩ := id ho99
      refine g_callVi (ci := 5) (C := RX3) (T := TX3) (N := 7) (As := [.int (zI a)]) (rest := []) ⟨hx, hb, hml, hown, hts⟩ hK hM hC100 (cuV (n := 1) hts u_394 u_391 u_8 (by decide) u_392 u_393 ⟨Nat.le_of_ble_eq_true rfl, Nat.le_of_ble_eq_true rfl⟩) ⟨by omega, by omega⟩ ho103 rfl rfl hl.1 rfl (Nat.le_of_ble_eq_true rfl) dX5_namesParts_151 ⟨Nat.zero_le _, Nat.zero_le _⟩ (fun r151 f101 H locs hM hp102 => ?_)
      obtain ⟨rfl, rfl⟩ := hp102
      refine g_zret hx hb hr hlk hK hM dX5_namesParts_154 (bI_nar _) ?_
      refine ⟨bI_iff ?_, rfl⟩
      omega
    · refine lv_tableIn (off := 176) (tgt := 177) hx hb dX5_namesParts_1 (by rw [hz1, c1]; decide) (by rw [hz1, c1]; decide) (by rw [hz1, c1]; decide) (by decide) ?_
      refine g_iconst hx hb dX5_namesParts_177 ?_
      refine g_zret hx hb hr hlk hK hM dX5_namesParts_178 rfl ?_
      refine ⟨?_, rfl⟩
      show zI 1 = _
      first | exact (bI_t (by omega)).symm | exact (bI_f (by omega)).symm
    · refine lv_tableIn (off := 59) (tgt := 60) hx hb dX5_namesParts_1 (by rw [hz1, c1]; decide) (by rw [hz1, c1]; decide) (by rw [hz1, c1]; decide) (by decide) ?_
      refine lv_aload_n hx hb dX5_namesParts_60 rfl (lv_at hl 0 rfl) ?_
      obtain ⟨ho110, ho111, ho112, ho113, ho114⟩ := id hE
      refine g_get (ci := 7) (v := .ref (h + 1)) (C := RX5) (T := TX5) (N := 11) hx hb hts iU_X5 hown hK hM ⟨by omega, by omega⟩ ho110 rfl 0 (by decide) (hts _ u_164) (fun _ h9 => h9) rfl dX5_namesParts_61 ?_
      refine lv_iload_n hx hb dX5_namesParts_64 rfl (lv_at hl 2 rfl) ?_
      have hC115 := c_X2_has l g b0 n f (h + 1) P a ho111 ⟨by omega, by omega⟩ hcn7 hra
      obtain ⟨ho118, ho119, ho120, ho121, ho122⟩ := id ho111
      refine g_callVi (ci := 4) (C := RX2) (T := TX2) (N := 5) (As := [.int (zI a)]) (rest := []) ⟨hx, hb, hml, hown, hts⟩ hK hM hC115 (cuV (n := 1) hts u_382 u_379 u_5 (by decide) u_380 u_381 ⟨Nat.le_of_ble_eq_true rfl, Nat.le_of_ble_eq_true rfl⟩) ⟨by omega, by omega⟩ ho118 rfl rfl hl.1 rfl (Nat.le_of_ble_eq_true rfl) dX5_namesParts_65 ⟨Nat.zero_le _, Nat.zero_le _⟩ (fun r65 f116 H locs hM hp117 => ?_)
      obtain ⟨rfl, rfl⟩ := hp117
      refine g_zret hx hb hr hlk hK hM dX5_namesParts_68 (bI_nar _) ?_
      refine ⟨bI_iff ?_, rfl⟩
      omega
    · refine lv_tableIn (off := 154) (tgt := 155) hx hb dX5_namesParts_1 (by rw [hz1, c1]; decide) (by rw [hz1, c1]; decide) (by rw [hz1, c1]; decide) (by decide) ?_
      refine lv_aload_n hx hb dX5_namesParts_155 rfl (lv_at hl 0 rfl) ?_
      refine lv_iload_n hx hb dX5_namesParts_156 rfl (lv_at hl 2 rfl) ?_
      have hC123 := c_X5_isPlace l g b0 n f h P a hE hrg hcn7 hra
      obtain ⟨ho126, ho127, ho128, ho129, ho130⟩ := id hE
      refine g_callVi (ci := 7) (C := RX5) (T := TX5) (N := 11) (As := [.int (zI a)]) (rest := []) ⟨hx, hb, hml, hown, hts⟩ hK hM hC123 (cuV (n := 1) hts u_398 u_395 u_4 (by decide) u_396 u_397 ⟨Nat.le_of_ble_eq_true rfl, Nat.le_of_ble_eq_true rfl⟩) ⟨by omega, by omega⟩ ho126 rfl rfl hl.1 rfl (Nat.le_of_ble_eq_true rfl) dX5_namesParts_157 ⟨Nat.zero_le _, Nat.zero_le _⟩ (fun r157 f124 H locs hM hp125 => ?_)
      obtain ⟨rfl, rfl⟩ := hp125
      refine g_ifb_eq (tgt := 175) hx hb dX5_namesParts_160 (by decide) (fun c160 => ?_) (fun c160 => ?_)
      · skip
        refine g_iconst hx hb dX5_namesParts_175 ?_
        refine g_zret hx hb hr hlk hK hM dX5_namesParts_176 rfl ?_
        refine ⟨?_, rfl⟩
        show zI 0 = _
        first | exact (bI_t (by omega)).symm | exact (bI_f (by omega)).symm
      · skip
        refine lv_aload_n hx hb dX5_namesParts_163 rfl (lv_at hl 0 rfl) ?_
        refine lv_iload_n hx hb dX5_namesParts_164 rfl (lv_at hl 3 rfl) ?_
        have hC131 := c_X5_isPlace l g b0 n f h P b hE hrg hcn7 hrb
        refine g_callVi (ci := 7) (C := RX5) (T := TX5) (N := 11) (As := [.int (zI b)]) (rest := []) ⟨hx, hb, hml, hown, hts⟩ hK hM hC131 (cuV (n := 1) hts u_398 u_395 u_4 (by decide) u_396 u_397 ⟨Nat.le_of_ble_eq_true rfl, Nat.le_of_ble_eq_true rfl⟩) ⟨by omega, by omega⟩ ho126 rfl rfl hl.1 rfl (Nat.le_of_ble_eq_true rfl) dX5_namesParts_165 ⟨Nat.zero_le _, Nat.zero_le _⟩ (fun r165 f132 H locs hM hp133 => ?_)
        obtain ⟨rfl, rfl⟩ := hp133
        refine g_ifb_eq (tgt := 175) hx hb dX5_namesParts_168 (by decide) (fun c168 => ?_) (fun c168 => ?_)
        · skip
          refine g_iconst hx hb dX5_namesParts_175 ?_
          refine g_zret hx hb hr hlk hK hM dX5_namesParts_176 rfl ?_
          refine ⟨?_, rfl⟩
          show zI 0 = _
          first | exact (bI_t (by omega)).symm | exact (bI_f (by omega)).symm
        · skip
          refine g_iconst hx hb dX5_namesParts_171 ?_
          refine lv_goto (tgt := 176) hx hb dX5_namesParts_172 (by decide) ?_
          refine g_zret hx hb hr hlk hK hM dX5_namesParts_176 rfl ?_
          refine ⟨?_, rfl⟩
          show zI 1 = _
          first | exact (bI_t (by omega)).symm | exact (bI_f (by omega)).symm

def po_X5_hasRoom (g : gE) (f : gF) (h : Nat) (P : Nat → Int) (kd : Int) : Int32 → gF → Prop := fun r f1 => r = bI (rmP P kd) ∧ f = f1
set_option maxRecDepth 100000 in
set_option maxHeartbeats 1000000 in
/-- hasRoom -/
theorem c_X5_hasRoom (l : Launch) (g : gE) (b0 n : Nat) (f : gF) (h : Nat) (P : Nat → Int) (kd : Int) (hE : planAt g f h P) (hrg : b0 ≤ h ∧ h + 23 ≤ b0 + n) (hcn7 : 0 ≤ P 7 ∧ P 7 ≤ 10) (hcn8 : 0 ≤ P 8 ∧ P 8 ≤ 6) (hcn9 : 0 ≤ P 9 ∧ P 9 ≤ 6) (hcn10 : 0 ≤ P 10 ∧ P 10 ≤ 8) (hrk : rI kd) : cI l yX5_hasRoom cX5_hasRoom 2 (some .boolean) 0 0 [.ref h, .int (zI kd)] g b0 n f (po_X5_hasRoom g f h P kd) := by
  refine gs_i (cc := cX5_hasRoom) (maxL := 2) (ret := (some .boolean)) (by decide) (Nat.le_of_ble_eq_true rfl) ?_
  intro p e0 s m args below meth c ls hx hb hr hml hown hts hlk hK hM hl
  have hl : lv_has ls 2 [(0, .ref h), (1, .int (zI kd))] := hl
  refine lv_iload_n hx hb dX5_hasRoom_0 rfl (lv_at hl 1 rfl) ?_
  have hz1 := zI_toInt (z := kd) hrk
  rcases g_sw (0) (7) kd with c1 | c1
  · refine lv_tableOut (tgt := 120) hx hb dX5_hasRoom_1 (by rw [hz1]; exact c1) (by decide) ?_
    refine g_iconst hx hb dX5_hasRoom_120 ?_
    refine g_zret hx hb hr hlk hK hM dX5_hasRoom_121 rfl ?_
    refine ⟨?_, rfl⟩
    show zI 1 = _
    first | exact (bI_t (by omega)).symm | exact (bI_f (by omega)).symm
  · rcases (show kd = 0 ∨ kd = 1 ∨ kd = 2 ∨ kd = 3 ∨ kd = 4 ∨ kd = 5 ∨ kd = 6 ∨ kd = 7 by omega) with c1 | c1 | c1 | c1 | c1 | c1 | c1 | c1
    · refine lv_tableIn (off := 47) (tgt := 48) hx hb dX5_hasRoom_1 (by rw [hz1, c1]; decide) (by rw [hz1, c1]; decide) (by rw [hz1, c1]; decide) (by decide) ?_
      refine lv_aload_n hx hb dX5_hasRoom_48 rfl (lv_at hl 0 rfl) ?_
      obtain ⟨ho1, ho2, ho3, ho4, ho5⟩ := id hE
      refine g_get (ci := 7) (v := .ref (h + 1)) (C := RX5) (T := TX5) (N := 11) hx hb hts iU_X5 hown hK hM ⟨by omega, by omega⟩ ho1 rfl 0 (by decide) (hts _ u_164) (fun _ h9 => h9) rfl dX5_hasRoom_49 ?_
      obtain ⟨ho6, ho7, ho8, ho9, ho10⟩ := id ho2
      refine g_getN (ci := 4) (v := .int (zI (P 7))) (C := RX2) (T := TX2) (N := 5) hx hb hts iU_X2 hown hK hM ⟨by omega, by omega⟩ ho6 rfl 4 (by decide) (hts _ u_61) (fun _ h9 => h9) rfl dX5_hasRoom_52 ?_
      refine g_bipush hx hb dX5_hasRoom_55 (by decide) ?_
      refine g_icmp_ge (tgt := 64) hx hb dX5_hasRoom_57 (by decide) ⟨by omega, by omega⟩ (by decide) (fun c57 => ?_) (fun c57 => ?_)
      · skip
        refine g_iconst hx hb dX5_hasRoom_64 ?_
        refine g_zret hx hb hr hlk hK hM dX5_hasRoom_65 rfl ?_
        refine ⟨?_, rfl⟩
        show zI 0 = _
        first | exact (bI_t (by omega)).symm | exact (bI_f (by omega)).symm
      · skip
        refine g_iconst hx hb dX5_hasRoom_60 ?_
        refine lv_goto (tgt := 65) hx hb dX5_hasRoom_61 (by decide) ?_
        refine g_zret hx hb hr hlk hK hM dX5_hasRoom_65 rfl ?_
        refine ⟨?_, rfl⟩
        show zI 1 = _
        first | exact (bI_t (by omega)).symm | exact (bI_f (by omega)).symm
    · refine lv_tableIn (off := 119) (tgt := 120) hx hb dX5_hasRoom_1 (by rw [hz1, c1]; decide) (by rw [hz1, c1]; decide) (by rw [hz1, c1]; decide) (by decide) ?_
      refine g_iconst hx hb dX5_hasRoom_120 ?_
      refine g_zret hx hb hr hlk hK hM dX5_hasRoom_121 rfl ?_
      refine ⟨?_, rfl⟩
      show zI 1 = _
      first | exact (bI_t (by omega)).symm | exact (bI_f (by omega)).symm
    · refine lv_tableIn (off := 119) (tgt := 120) hx hb dX5_hasRoom_1 (by rw [hz1, c1]; decide) (by rw [hz1, c1]; decide) (by rw [hz1, c1]; decide) (by decide) ?_
      refine g_iconst hx hb dX5_hasRoom_120 ?_
      refine g_zret hx hb hr hlk hK hM dX5_hasRoom_121 rfl ?_
      refine ⟨?_, rfl⟩
      show zI 1 = _
      first | exact (bI_t (by omega)).symm | exact (bI_f (by omega)).symm
    · refine lv_tableIn (off := 65) (tgt := 66) hx hb dX5_hasRoom_1 (by rw [hz1, c1]; decide) (by rw [hz1, c1]; decide) (by rw [hz1, c1]; decide) (by decide) ?_
      refine lv_aload_n hx hb dX5_hasRoom_66 rfl (lv_at hl 0 rfl) ?_
      obtain ⟨ho11, ho12, ho13, ho14, ho15⟩ := id hE
      refine g_get (ci := 7) (v := .ref (h + 6)) (C := RX5) (T := TX5) (N := 11) hx hb hts iU_X5 hown hK hM ⟨by omega, by omega⟩ ho11 rfl 1 (by decide) (hts _ u_166) (fun _ h9 => h9) rfl dX5_hasRoom_67 ?_
      obtain ⟨ho16, ho17, ho18, ho19⟩ := id ho13
      refine g_getN (ci := 9) (v := .int (zI (P 8))) (C := RX7) (T := TX7) (N := 4) hx hb hts iU_X7 hown hK hM ⟨by omega, by omega⟩ ho16 rfl 3 (by decide) (hts _ u_88) (fun _ h9 => h9) rfl dX5_hasRoom_70 ?_
      refine g_bipush hx hb dX5_hasRoom_73 (by decide) ?_
      refine g_icmp_ge (tgt := 82) hx hb dX5_hasRoom_75 (by decide) ⟨by omega, by omega⟩ (by decide) (fun c75 => ?_) (fun c75 => ?_)
      · skip
        refine g_iconst hx hb dX5_hasRoom_82 ?_
        refine g_zret hx hb hr hlk hK hM dX5_hasRoom_83 rfl ?_
        refine ⟨?_, rfl⟩
        show zI 0 = _
        first | exact (bI_t (by omega)).symm | exact (bI_f (by omega)).symm
      · skip
        refine g_iconst hx hb dX5_hasRoom_78 ?_
        refine lv_goto (tgt := 83) hx hb dX5_hasRoom_79 (by decide) ?_
        refine g_zret hx hb hr hlk hK hM dX5_hasRoom_83 rfl ?_
        refine ⟨?_, rfl⟩
        show zI 1 = _
        first | exact (bI_t (by omega)).symm | exact (bI_f (by omega)).symm
    · refine lv_tableIn (off := 119) (tgt := 120) hx hb dX5_hasRoom_1 (by rw [hz1, c1]; decide) (by rw [hz1, c1]; decide) (by rw [hz1, c1]; decide) (by decide) ?_
      refine g_iconst hx hb dX5_hasRoom_120 ?_
      refine g_zret hx hb hr hlk hK hM dX5_hasRoom_121 rfl ?_
      refine ⟨?_, rfl⟩
      show zI 1 = _
      first | exact (bI_t (by omega)).symm | exact (bI_f (by omega)).symm
    · refine lv_tableIn (off := 83) (tgt := 84) hx hb dX5_hasRoom_1 (by rw [hz1, c1]; decide) (by rw [hz1, c1]; decide) (by rw [hz1, c1]; decide) (by decide) ?_
      refine lv_aload_n hx hb dX5_hasRoom_84 rfl (lv_at hl 0 rfl) ?_
      obtain ⟨ho20, ho21, ho22, ho23, ho24⟩ := id hE
      refine g_get (ci := 7) (v := .ref (h + 10)) (C := RX5) (T := TX5) (N := 11) hx hb hts iU_X5 hown hK hM ⟨by omega, by omega⟩ ho20 rfl 2 (by decide) (hts _ u_168) (fun _ h9 => h9) rfl dX5_hasRoom_85 ?_
      obtain ⟨ho25, ho26, ho27, ho28, ho29, ho30⟩ := id ho23
      refine g_getN (ci := 6) (v := .int (zI (P 9))) (C := RX4) (T := TX4) (N := 6) hx hb hts iU_X4 hown hK hM ⟨by omega, by omega⟩ ho25 rfl 5 (by decide) (hts _ u_115) (fun _ h9 => h9) rfl dX5_hasRoom_88 ?_
      refine g_bipush hx hb dX5_hasRoom_91 (by decide) ?_
      refine g_icmp_ge (tgt := 100) hx hb dX5_hasRoom_93 (by decide) ⟨by omega, by omega⟩ (by decide) (fun c93 => ?_) (fun c93 => ?_)
      · skip
        refine g_iconst hx hb dX5_hasRoom_100 ?_
        refine g_zret hx hb hr hlk hK hM dX5_hasRoom_101 rfl ?_
        refine ⟨?_, rfl⟩
        show zI 0 = _
        first | exact (bI_t (by omega)).symm | exact (bI_f (by omega)).symm
      · skip
        refine g_iconst hx hb dX5_hasRoom_96 ?_
        refine lv_goto (tgt := 101) hx hb dX5_hasRoom_97 (by decide) ?_
        refine g_zret hx hb hr hlk hK hM dX5_hasRoom_101 rfl ?_
        refine ⟨?_, rfl⟩
        show zI 1 = _
        first | exact (bI_t (by omega)).symm | exact (bI_f (by omega)).symm
    · refine lv_tableIn (off := 119) (tgt := 120) hx hb dX5_hasRoom_1 (by rw [hz1, c1]; decide) (by rw [hz1, c1]; decide) (by rw [hz1, c1]; decide) (by decide) ?_
      refine g_iconst hx hb dX5_hasRoom_120 ?_
      refine g_zret hx hb hr hlk hK hM dX5_hasRoom_121 rfl ?_
      refine ⟨?_, rfl⟩
      show zI 1 = _
      first | exact (bI_t (by omega)).symm | exact (bI_f (by omega)).symm
    · refine lv_tableIn (off := 101) (tgt := 102) hx hb dX5_hasRoom_1 (by rw [hz1, c1]; decide) (by rw [hz1, c1]; decide) (by rw [hz1, c1]; decide) (by decide) ?_
      refine lv_aload_n hx hb dX5_hasRoom_102 rfl (lv_at hl 0 rfl) ?_
      obtain ⟨ho31, ho32, ho33, ho34, ho35⟩ := id hE
      refine g_get (ci := 7) (v := .ref (h + 16)) (C := RX5) (T := TX5) (N := 11) hx hb hts iU_X5 hown hK hM ⟨by omega, by omega⟩ ho31 rfl 3 (by decide) (hts _ u_170) (fun _ h9 => h9) rfl dX5_hasRoom_103 ?_
      obtain ⟨ho36, ho37, ho38, ho39, ho40, ho41, ho42⟩ := id ho35
      refine g_getN (ci := 5) (v := .int (zI (P 10))) (C := RX3) (T := TX3) (N := 7) hx hb hts iU_X3 hown hK hM ⟨by omega, by omega⟩ ho36 rfl 6 (by decide) (hts _ u_148) (fun _ h9 => h9) rfl dX5_hasRoom_106 ?_
      refine g_bipush hx hb dX5_hasRoom_109 (by decide) ?_
      refine g_icmp_ge (tgt := 118) hx hb dX5_hasRoom_111 (by decide) ⟨by omega, by omega⟩ (by decide) (fun c111 => ?_) (fun c111 => ?_)
      · skip
        refine g_iconst hx hb dX5_hasRoom_118 ?_
        refine g_zret hx hb hr hlk hK hM dX5_hasRoom_119 rfl ?_
        refine ⟨?_, rfl⟩
        show zI 0 = _
        first | exact (bI_t (by omega)).symm | exact (bI_f (by omega)).symm
      · skip
        refine g_iconst hx hb dX5_hasRoom_114 ?_
        refine lv_goto (tgt := 119) hx hb dX5_hasRoom_115 (by decide) ?_
        refine g_zret hx hb hr hlk hK hM dX5_hasRoom_119 rfl ?_
        refine ⟨?_, rfl⟩
        show zI 1 = _
        first | exact (bI_t (by omega)).symm | exact (bI_f (by omega)).symm

def po_X5_hasMoney (g : gE) (f : gF) (h : Nat) (P : Nat → Int) (kd a b x v0 : Int) : Int32 → gF → Prop := fun r f1 => r = bI (mnP P kd a b x) ∧ f = f1
set_option maxRecDepth 100000 in
set_option maxHeartbeats 1000000 in
/-- hasMoney, of named parts -/
theorem c_X5_hasMoney (l : Launch) (g : gE) (b0 n : Nat) (f : gF) (h : Nat) (P : Nat → Int) (kd a b x v0 : Int) (hE : planAt g f h P) (hrg : b0 ≤ h ∧ h + 23 ≤ b0 + n) (hrk : rI kd) (hra : rI a) (hrb : rI b) (hrx : rI x) (hok : pOk P v0) (hv0 : v0 ≤ 800000000) (hnm : nmP P kd a b) (hrr : kd = 10 → 1 ≤ b ∧ b ≤ 1000000) : cI l yX5_hasMoney cX5_hasMoney 5 (some .boolean) 2 43 [.ref h, .int (zI kd), .int (zI a), .int (zI b), .int (zI x)] g b0 n f (po_X5_hasMoney g f h P kd a b x v0) := by
  refine gs_i (cc := cX5_hasMoney) (maxL := 5) (ret := (some .boolean)) (by decide) (Nat.le_of_ble_eq_true rfl) ?_
  intro p e0 s m args below meth c ls hx hb hr hml hown hts hlk hK hM hl
  have hl : lv_has ls 5 [(0, .ref h), (1, .int (zI kd)), (2, .int (zI a)), (3, .int (zI b)), (4, .int (zI x))] := hl
  have hcn7 := hok.1.1
  have hpl := pOk_pool hok hv0
  have hws := (pOkL_wfS hok hv0).E
  refine lv_iload_n hx hb dX5_hasMoney_0 rfl (lv_at hl 1 rfl) ?_
  have hz1 := zI_toInt (z := kd) hrk
  rcases (show kd = 10 ∨ kd = 11 ∨ (kd ≠ 10 ∧ kd ≠ 11) by omega) with c1 | c1 | c1
  · refine lv_lookup (off := 27) (tgt := 28) hx hb dX5_hasMoney_1 (by decide) (by rw [hz1, c1]; decide) (by decide) ?_
    have hnm1 := hnm.1 (by omega)
    have hrr1 := hrr (by omega)
    obtain ⟨a0, ha0⟩ : ∃ q : Nat, a = q := ⟨a.toNat, by omega⟩
    subst ha0
    have hb0 := (hws.2 a0 (by omega)).1
    refine lv_aload_n hx hb dX5_hasMoney_28 rfl (lv_at hl 0 rfl) ?_
    refine lv_iload_n hx hb dX5_hasMoney_29 rfl (lv_at hl 2 rfl) ?_
    refine lv_iload_n hx hb dX5_hasMoney_30 rfl (lv_at hl 3 rfl) ?_
    have hC1 := c_X5_canPay l g b0 n f h P a0 b hE hrg hcn7 (by omega) ⟨by omega, by omega⟩ ⟨by omega, by omega⟩ ⟨by omega, by omega⟩
    obtain ⟨ho4, ho5, ho6, ho7, ho8⟩ := id hE
    refine g_callVi (ci := 7) (C := RX5) (T := TX5) (N := 11) (As := [.int (zI (↑a0 : Int)), .int (zI b)]) (rest := []) ⟨hx, hb, hml, hown, hts⟩ hK hM hC1 (cuV (n := 2) hts u_423 u_420 u_4 (by decide) u_421 u_422 ⟨Nat.le_of_ble_eq_true rfl, Nat.le_of_ble_eq_true rfl⟩) ⟨by omega, by omega⟩ ho4 rfl rfl hl.1 rfl (Nat.le_of_ble_eq_true rfl) dX5_hasMoney_31 ⟨Nat.zero_le _, Nat.zero_le _⟩ (fun r31 f2 H locs hM hp3 => ?_)
    obtain ⟨rfl, rfl⟩ := hp3
    refine g_zret hx hb hr hlk hK hM dX5_hasMoney_34 (bI_nar _) ?_
    refine ⟨bI_iff ?_, rfl⟩
    try simp only [mnP, Int.toNat_natCast]
    omega
  · refine lv_lookup (off := 34) (tgt := 35) hx hb dX5_hasMoney_1 (by decide) (by rw [hz1, c1]; decide) (by decide) ?_
    have hnm1 := hnm.2.2.2.2.2.2.2 (by omega)
    have hmr : rL (sMon P a) := by
      unfold sMon
      split
      · exact ⟨by omega, by omega⟩
      · have hb0 := (hws.2 a.toNat (by omega)).1
        exact ⟨by omega, by omega⟩
    refine lv_aload_n hx hb dX5_hasMoney_35 rfl (lv_at hl 0 rfl) ?_
    refine lv_iload_n hx hb dX5_hasMoney_36 rfl (lv_at hl 2 rfl) ?_
    have hC9 := c_X5_moneyIn l g b0 n f h P a hE hrg hcn7 hra (by have := hnm.2.2.2.2.2.2.2 (by omega); omega)
    obtain ⟨ho12, ho13, ho14, ho15, ho16⟩ := id hE
    refine g_callVl (ci := 7) (C := RX5) (T := TX5) (N := 11) (As := [.int (zI a)]) (rest := []) ⟨hx, hb, hml, hown, hts⟩ hK hM hC9 (cuV (n := 1) hts u_431 u_428 u_4 (by decide) u_429 u_430 ⟨Nat.le_of_ble_eq_true rfl, Nat.le_of_ble_eq_true rfl⟩) ⟨by omega, by omega⟩ ho12 rfl rfl hl.1 rfl (Nat.le_of_ble_eq_true rfl) dX5_hasMoney_37 ⟨Nat.zero_le _, Nat.zero_le _⟩ (fun r37 f10 H locs hM hp11 => ?_)
    obtain ⟨rfl, rfl⟩ := hp11
    refine lv_iload hx hb dX5_hasMoney_40 (lv_at hl 4 rfl) ?_
    refine g_i2l hx hb dX5_hasMoney_42 hrx ?_
    refine g_lcmp_lt (tgt := 51) hx hb dX5_hasMoney_43 dX5_hasMoney_44 (by decide) hmr (rI_L hrx) (fun c43 => ?_) (fun c43 => ?_)
    · skip
      refine g_iconst hx hb dX5_hasMoney_51 ?_
      refine g_zret hx hb hr hlk hK hM dX5_hasMoney_52 rfl ?_
      refine ⟨?_, rfl⟩
      show zI 0 = _
      first | exact (bI_t (by omega)).symm | exact (bI_f (by omega)).symm
    · skip
      refine g_iconst hx hb dX5_hasMoney_47 ?_
      refine lv_goto (tgt := 52) hx hb dX5_hasMoney_48 (by decide) ?_
      refine g_zret hx hb hr hlk hK hM dX5_hasMoney_52 rfl ?_
      refine ⟨?_, rfl⟩
      show zI 1 = _
      first | exact (bI_t (by omega)).symm | exact (bI_f (by omega)).symm
  · skip
    refine lv_lookup (off := 52) (tgt := 53) hx hb dX5_hasMoney_1 (by decide) ((lv_osw (k := zI 10) (by rw [zI_eq hrk (by decide)]; omega) (by decide)).trans ((lv_osw (k := zI 11) (by rw [zI_eq hrk (by decide)]; omega) (by decide)).trans rfl)) (by decide) ?_
    refine g_iconst hx hb dX5_hasMoney_53 ?_
    refine g_zret hx hb hr hlk hK hM dX5_hasMoney_54 rfl ?_
    refine ⟨?_, rfl⟩
    show zI 1 = _
    first | exact (bI_t (by omega)).symm | exact (bI_f (by omega)).symm
