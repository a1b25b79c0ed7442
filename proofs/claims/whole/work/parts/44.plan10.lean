def po_X5_moveMoney (g : gE) (f : gF) (h : Nat) (P : Nat → Int) (kd a b x v0 : Int) : Int32 → gF → Prop := fun r f1 => r = zI (sMm P kd a b x).1 ∧ planAt g f1 h (sMm P kd a b x).2 ∧ ∀ q, (q < h ∨ h + 23 ≤ q) → f1 q = f q
set_option maxRecDepth 100000 in
set_option maxHeartbeats 1000000 in
/-- moveMoney -/
theorem c_X5_moveMoney (l : Launch) (g : gE) (b0 n : Nat) (f : gF) (h : Nat) (P : Nat → Int) (kd a b x v0 : Int) (hE : planAt g f h P) (hrg : b0 ≤ h ∧ h + 23 ≤ b0 + n) (hrk : rI kd) (hra : rI a) (hrb : rI b) (hrx : rI x) (hok : pOk P v0) (hv0 : v0 + 1 ≤ 800000000) (hkd : kd = 9 ∨ kd = 10 ∨ kd = 11) (hnm : nmO P kd a b) (hrr : rgP kd a b x 0) (hmm : mnO P kd a b x) : cI l yX5_moveMoney cX5_moveMoney 7 (some .int) 3 83 [.ref h, .int (zI kd), .int (zI a), .int (zI b), .int (zI x)] g b0 n f (po_X5_moveMoney g f h P kd a b x v0) := by
  refine gs_i (cc := cX5_moveMoney) (maxL := 7) (ret := (some .int)) (by decide) (Nat.le_of_ble_eq_true rfl) ?_
  intro p e0 s m args below meth c ls hx hb hr hml hown hts hlk hK hM hl
  have hl : lv_has ls 7 [(0, .ref h), (1, .int (zI kd)), (2, .int (zI a)), (3, .int (zI b)), (4, .int (zI x))] := hl
  have hcn7 := hok.1.1
  have hpl := pOk_pool hok (by omega)
  have hws := pOkL_wfS hok (by omega)
  refine lv_iload_n hx hb dX5_moveMoney_0 rfl (lv_at hl 1 rfl) ?_
  have hz1 := zI_toInt (z := kd) hrk
  rcases (show kd = 9 ∨ kd = 10 ∨ (kd ≠ 9 ∧ kd ≠ 10) by omega) with c1 | c1 | c1
  · refine lv_lookup (off := 27) (tgt := 28) hx hb dX5_moveMoney_1 (by decide) (by rw [hz1, c1]; decide) (by decide) ?_
    subst c1
    rw [rg_9] at hrr
    refine lv_aload_n hx hb dX5_moveMoney_28 rfl (lv_at hl 0 rfl) ?_
    refine lv_iload_n hx hb dX5_moveMoney_29 rfl (lv_at hl 2 rfl) ?_
    have hC1 := c_X5_takeIncome l g b0 n f h P a hE hrg (wfE_mono hws.E (by omega)) hok.2.1 ⟨by omega, by omega⟩
    obtain ⟨ho4, ho5, ho6, ho7, ho8⟩ := id hE
    refine g_callVl (ci := 7) (C := RX5) (T := TX5) (N := 11) (As := [.int (zI a)]) (rest := []) ⟨hx, hb, hml, hown, hts⟩ hK hM hC1 (cuV (n := 1) hts u_483 u_480 u_4 (by decide) u_481 u_482 ⟨Nat.le_of_ble_eq_true rfl, Nat.le_of_ble_eq_true rfl⟩) ⟨by omega, by omega⟩ ho4 rfl rfl hl.1 rfl (Nat.le_of_ble_eq_true rfl) dX5_moveMoney_30 ⟨Nat.zero_le _, Nat.zero_le _⟩ (fun r30 f2 H locs hM hp3 => ?_)
    obtain ⟨rfl, hn9, o10⟩ := hp3
    obtain ⟨P1, hP1⟩ : ∃ Q : Nat → Int, Q = (sInc P a).2 := ⟨_, rfl⟩
    rw [← hP1] at hn9
    refine lv_lstore (lv' := [(5, .long (zL ((sInc P a).1))), (0, .ref h), (1, .int (zI 9)), (2, .int (zI a)), (3, .int (zI b)), (4, .int (zI x))]) hx hb dX5_moveMoney_33 hl (by decide) rfl (fun ls hl => ?_)
    refine lv_goto (tgt := 59) hx hb dX5_moveMoney_35 (by decide) ?_
    have hd2 : pOkL P1 (v0 + 1) 8 := by rw [hP1]; exact pOkL_inc hok (by omega) (by omega)
    refine lv_aload_n hx hb dX5_moveMoney_59 rfl (lv_at hl 1 rfl) ?_
    have hC11 := c_X5_settle l g b0 n f2 h P1 hn9 hrg (wfS_mono (pOkL_wfS hd2 (by omega)) (by omega)) hd2.2.2.1
    obtain ⟨ho14, ho15, ho16, ho17, ho18⟩ := id hn9
    refine g_callVv (ci := 7) (C := RX5) (T := TX5) (N := 11) (As := []) (rest := []) ⟨hx, hb, hml, hown, hts⟩ hK hM hC11 (cuV (n := 0) hts u_516 u_513 u_4 (by decide) u_514 u_515 ⟨Nat.le_of_ble_eq_true rfl, Nat.le_of_ble_eq_true rfl⟩) ⟨by omega, by omega⟩ ho14 rfl rfl hl.1 rfl (Nat.le_of_ble_eq_true rfl) dX5_moveMoney_60 ⟨Nat.zero_le _, Nat.zero_le _⟩ (fun f12 H locs hM hp13 => ?_)
    obtain ⟨hn19, o20⟩ := hp13
    obtain ⟨P2, hP2⟩ : ∃ Q : Nat → Int, Q = sSet P1 := ⟨_, rfl⟩
    rw [← hP2] at hn19
    refine lv_lload hx hb dX5_moveMoney_63 (lv_at hl 0 rfl) ?_
    refine g_l2i hx hb dX5_moveMoney_65 ?_
    refine g_iret hx hb hr hlk hK hM dX5_moveMoney_66 ?_
    have hS : sMm P 9 a b x = ((sInc P a).1, P2) := by
      unfold sMm
      rw [if_pos rfl, ← hP1, ← hP2]
    refine ⟨by rw [hS], ?_, (fun q hq => ((o20 (q) (by omega)).trans (o10 (q) (by omega))))⟩
    rw [hS]
    exact hn19
  · refine lv_lookup (off := 37) (tgt := 38) hx hb dX5_moveMoney_1 (by decide) (by rw [hz1, c1]; decide) (by decide) ?_
    subst c1
    rw [rg_10] at hrr
    have hnm1 := hnm.sp rfl
    have hmn0 := hmm.sp rfl
    obtain ⟨a0, ha0⟩ : ∃ q : Nat, a = q := ⟨a.toNat, by omega⟩
    subst ha0
    have hb0 := (hws.E.2 a0 (by omega)).1
    have hmn1 : b ≤ P (11 + 4 * a0) + P 0 := hmn0
    refine lv_aload_n hx hb dX5_moveMoney_38 rfl (lv_at hl 0 rfl) ?_
    refine lv_iload_n hx hb dX5_moveMoney_39 rfl (lv_at hl 2 rfl) ?_
    refine lv_iload_n hx hb dX5_moveMoney_40 rfl (lv_at hl 3 rfl) ?_
    have hC21 := c_X5_pay l g b0 n f h P a0 b hE hrg hcn7 (by omega) ⟨by omega, by omega⟩ ⟨by omega, by omega⟩ ⟨by omega, by omega⟩
    obtain ⟨ho24, ho25, ho26, ho27, ho28⟩ := id hE
    refine g_callVl (ci := 7) (C := RX5) (T := TX5) (N := 11) (As := [.int (zI (↑a0 : Int)), .int (zI b)]) (rest := []) ⟨hx, hb, hml, hown, hts⟩ hK hM hC21 (cuV (n := 2) hts u_508 u_505 u_4 (by decide) u_506 u_507 ⟨Nat.le_of_ble_eq_true rfl, Nat.le_of_ble_eq_true rfl⟩) ⟨by omega, by omega⟩ ho24 rfl rfl hl.1 rfl (Nat.le_of_ble_eq_true rfl) dX5_moveMoney_41 ⟨Nat.zero_le _, Nat.zero_le _⟩ (fun r41 f22 H locs hM hp23 => ?_)
    obtain ⟨rfl, hn29, o30⟩ := hp23
    obtain ⟨P1, hP1⟩ : ∃ Q : Nat → Int, Q = sPay P a0 b := ⟨_, rfl⟩
    rw [← hP1] at hn29
    refine lv_lstore (lv' := [(5, .long (zL (b - min (P (11 + 4 * a0)) b))), (0, .ref h), (1, .int (zI 10)), (2, .int (zI (↑a0 : Int))), (3, .int (zI b)), (4, .int (zI x))]) hx hb dX5_moveMoney_44 hl (by decide) rfl (fun ls hl => ?_)
    refine lv_goto (tgt := 59) hx hb dX5_moveMoney_46 (by decide) ?_
    have hd2 : pOkL P1 (v0 + 1) 8 := by rw [hP1]; exact pOkL_mono (pOkL_pay hok (by omega) (by omega) hmn1) (by omega)
    refine lv_aload_n hx hb dX5_moveMoney_59 rfl (lv_at hl 1 rfl) ?_
    have hC31 := c_X5_settle l g b0 n f22 h P1 hn29 hrg (wfS_mono (pOkL_wfS hd2 (by omega)) (by omega)) hd2.2.2.1
    obtain ⟨ho34, ho35, ho36, ho37, ho38⟩ := id hn29
    refine g_callVv (ci := 7) (C := RX5) (T := TX5) (N := 11) (As := []) (rest := []) ⟨hx, hb, hml, hown, hts⟩ hK hM hC31 (cuV (n := 0) hts u_516 u_513 u_4 (by decide) u_514 u_515 ⟨Nat.le_of_ble_eq_true rfl, Nat.le_of_ble_eq_true rfl⟩) ⟨by omega, by omega⟩ ho34 rfl rfl hl.1 rfl (Nat.le_of_ble_eq_true rfl) dX5_moveMoney_60 ⟨Nat.zero_le _, Nat.zero_le _⟩ (fun f32 H locs hM hp33 => ?_)
    obtain ⟨hn39, o40⟩ := hp33
    obtain ⟨P2, hP2⟩ : ∃ Q : Nat → Int, Q = sSet P1 := ⟨_, rfl⟩
    rw [← hP2] at hn39
    refine lv_lload hx hb dX5_moveMoney_63 (lv_at hl 0 rfl) ?_
    refine g_l2i hx hb dX5_moveMoney_65 ?_
    refine g_iret hx hb hr hlk hK hM dX5_moveMoney_66 ?_
    have hS : sMm P 10 (↑a0 : Int) b x = ((b - min (P (11 + 4 * a0)) b), P2) := by
      unfold sMm
      rw [if_neg (by omega), if_pos rfl, Int.toNat_natCast, ← hP1, ← hP2]
    refine ⟨by rw [hS], ?_, (fun q hq => ((o40 (q) (by omega)).trans (o30 (q) (by omega))))⟩
    rw [hS]
    exact hn39
  · skip
    refine lv_lookup (off := 48) (tgt := 49) hx hb dX5_moveMoney_1 (by decide) ((lv_osw (k := zI 9) (by rw [zI_eq hrk (by decide)]; omega) (by decide)).trans ((lv_osw (k := zI 10) (by rw [zI_eq hrk (by decide)]; omega) (by decide)).trans rfl)) (by decide) ?_
    have hkd11 : kd = 11 := by omega
    have hnm1 := hnm.mv hkd11
    have hmn1 := hmm.mv hkd11
    have hrg1 : a ≠ b ∧ 1 ≤ x ∧ x ≤ 1000000 := by have h9 := hrr; rw [hkd11, rg_11] at h9; exact h9
    refine lv_aload_n hx hb dX5_moveMoney_49 rfl (lv_at hl 0 rfl) ?_
    refine lv_iload_n hx hb dX5_moveMoney_50 rfl (lv_at hl 2 rfl) ?_
    refine lv_iload_n hx hb dX5_moveMoney_51 rfl (lv_at hl 3 rfl) ?_
    refine lv_iload hx hb dX5_moveMoney_52 (lv_at hl 4 rfl) ?_
    have hC41 := c_X5_carry l g b0 n f h P a b x hE hrg (wfE_mono hws.E (by omega)) hra hrb hnm1.1 hnm1.2 hrg1.1 ⟨by omega, by omega⟩
    obtain ⟨ho44, ho45, ho46, ho47, ho48⟩ := id hE
    refine g_callVl (ci := 7) (C := RX5) (T := TX5) (N := 11) (As := [.int (zI a), .int (zI b), .int (zI x)]) (rest := []) ⟨hx, hb, hml, hown, hts⟩ hK hM hC41 (cuV (n := 3) hts u_541 u_538 u_4 (by decide) u_540 us_21 ⟨Nat.le_of_ble_eq_true rfl, Nat.le_of_ble_eq_true rfl⟩) ⟨by omega, by omega⟩ ho44 rfl rfl hl.1 rfl (Nat.le_of_ble_eq_true rfl) dX5_moveMoney_54 ⟨Nat.zero_le _, Nat.zero_le _⟩ (fun r54 f42 H locs hM hp43 => ?_)
    obtain ⟨rfl, hn49, o50⟩ := hp43
    obtain ⟨P1, hP1⟩ : ∃ Q : Nat → Int, Q = sMv P a b x := ⟨_, rfl⟩
    rw [← hP1] at hn49
    refine lv_lstore (lv' := [(5, .long (zL (sMvN P b x))), (0, .ref h), (1, .int (zI kd)), (2, .int (zI a)), (3, .int (zI b)), (4, .int (zI x))]) hx hb dX5_moveMoney_57 hl (by decide) rfl (fun ls hl => ?_)
    have hd2 : pOkL P1 (v0 + 1) 8 := by rw [hP1]; exact pOkL_mono (pOkL_mv hok hnm1.1 hnm1.2 hrg1.1 (by omega) hmn1) (by omega)
    refine lv_aload_n hx hb dX5_moveMoney_59 rfl (lv_at hl 1 rfl) ?_
    have hC51 := c_X5_settle l g b0 n f42 h P1 hn49 hrg (wfS_mono (pOkL_wfS hd2 (by omega)) (by omega)) hd2.2.2.1
    obtain ⟨ho54, ho55, ho56, ho57, ho58⟩ := id hn49
    refine g_callVv (ci := 7) (C := RX5) (T := TX5) (N := 11) (As := []) (rest := []) ⟨hx, hb, hml, hown, hts⟩ hK hM hC51 (cuV (n := 0) hts u_516 u_513 u_4 (by decide) u_514 u_515 ⟨Nat.le_of_ble_eq_true rfl, Nat.le_of_ble_eq_true rfl⟩) ⟨by omega, by omega⟩ ho54 rfl rfl hl.1 rfl (Nat.le_of_ble_eq_true rfl) dX5_moveMoney_60 ⟨Nat.zero_le _, Nat.zero_le _⟩ (fun f52 H locs hM hp53 => ?_)
    obtain ⟨hn59, o60⟩ := hp53
    obtain ⟨P2, hP2⟩ : ∃ Q : Nat → Int, Q = sSet P1 := ⟨_, rfl⟩
    rw [← hP2] at hn59
    refine lv_lload hx hb dX5_moveMoney_63 (lv_at hl 0 rfl) ?_
    refine g_l2i hx hb dX5_moveMoney_65 ?_
    refine g_iret hx hb hr hlk hK hM dX5_moveMoney_66 ?_
    have hS : sMm P kd a b x = ((sMvN P b x), P2) := by
      unfold sMm
      rw [if_neg (by omega), if_neg (by omega), ← hP1, ← hP2]
    refine ⟨by rw [hS], ?_, (fun q hq => ((o60 (q) (by omega)).trans (o50 (q) (by omega))))⟩
    rw [hS]
    exact hn59
