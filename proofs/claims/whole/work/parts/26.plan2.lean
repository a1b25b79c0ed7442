def po_X5_canPay (g : gE) (f : gF) (h : Nat) (P : Nat → Int) (e : Nat) (a : Int) : Int32 → gF → Prop := fun r f1 => r = bI (a ≤ P (11 + 4 * e) + P 0) ∧ f = f1
set_option maxRecDepth 100000 in
set_option maxHeartbeats 1000000 in
/-- canPay(e, a) -/
theorem c_X5_canPay (l : Launch) (g : gE) (b0 n : Nat) (f : gF) (h : Nat) (P : Nat → Int) (e : Nat) (a : Int) (hE : planAt g f h P) (hrg : b0 ≤ h ∧ h + 23 ≤ b0 + n) (hcn7 : 0 ≤ P 7 ∧ P 7 ≤ 10) (he : (e : Int) < P 7) (hbr : 0 ≤ P (11 + 4 * e) ∧ P (11 + 4 * e) ≤ 1000000000000000000) (hpl : 0 ≤ P 0 ∧ P 0 ≤ 1000000000000000000) (har : 0 ≤ a ∧ a ≤ 1000000) : cI l yX5_canPay cX5_canPay 3 (some .boolean) 1 21 [.ref h, .int (zI (↑e : Int)), .int (zI a)] g b0 n f (po_X5_canPay g f h P e a) := by
  refine gs_i (cc := cX5_canPay) (maxL := 3) (ret := (some .boolean)) (by decide) (Nat.le_of_ble_eq_true rfl) ?_
  intro p e0 s m args below meth c ls hx hb hr hml hown hts hlk hK hM hl
  have hl : lv_has ls 3 [(0, .ref h), (1, .int (zI (↑e : Int))), (2, .int (zI a))] := hl
  have hzn7 := hcn7.1
  have hzm7 := hcn7.2
  have hbr1 := hbr.1
  have hbr2 := hbr.2
  have hpl1 := hpl.1
  have hpl2 := hpl.2
  have hen : e < 10 := by omega
  have har1 := har.1
  have har2 := har.2
  refine lv_aload_n hx hb dX5_canPay_0 rfl (lv_at hl 0 rfl) ?_
  obtain ⟨ho1, ho2, ho3, ho4, ho5⟩ := id hE
  refine g_get (ci := 7) (v := .ref (h + 1)) (C := RX5) (T := TX5) (N := 11) hx hb hts iU_X5 hown hK hM ⟨by omega, by omega⟩ ho1 rfl 0 (by decide) (hts _ u_164) (fun _ h9 => h9) rfl dX5_canPay_1 ?_
  refine lv_iload_n hx hb dX5_canPay_4 rfl (lv_at hl 1 rfl) ?_
  have hC6 := c_X2_balanceOf l g b0 n f (h + 1) P e ho2 ⟨by omega, by omega⟩ hcn7 (by omega)
  obtain ⟨ho9, ho10, ho11, ho12, ho13⟩ := id ho2
  refine g_callVl (ci := 4) (C := RX2) (T := TX2) (N := 5) (As := [.int (zI (↑e : Int))]) (rest := []) ⟨hx, hb, hml, hown, hts⟩ hK hM hC6 (cuV (n := 1) hts u_427 u_424 u_5 (by decide) u_425 u_426 ⟨Nat.le_of_ble_eq_true rfl, Nat.le_of_ble_eq_true rfl⟩) ⟨by omega, by omega⟩ ho9 rfl rfl hl.1 rfl (Nat.le_of_ble_eq_true rfl) dX5_canPay_5 ⟨Nat.zero_le _, Nat.zero_le _⟩ (fun r5 f7 H locs hM hp8 => ?_)
  obtain ⟨rfl, rfl⟩ := hp8
  refine lv_aload_n hx hb dX5_canPay_8 rfl (lv_at hl 0 rfl) ?_
  refine g_get (ci := 7) (v := .long (zL (P 0))) (C := RX5) (T := TX5) (N := 11) hx hb hts iU_X5 hown hK hM ⟨by omega, by omega⟩ ho1 rfl 4 (by decide) (hts _ u_172) (fun _ h9 => h9) rfl dX5_canPay_9 ?_
  refine g_ladd hx hb dX5_canPay_12 ?_
  refine lv_iload_n hx hb dX5_canPay_13 rfl (lv_at hl 2 rfl) ?_
  refine g_i2l hx hb dX5_canPay_14 ⟨by omega, by omega⟩ ?_
  refine g_lcmp_lt (tgt := 23) hx hb dX5_canPay_15 dX5_canPay_16 (by decide) ⟨by omega, by omega⟩ ⟨by omega, by omega⟩ (fun c15 => ?_) (fun c15 => ?_)
  · skip
    refine g_iconst hx hb dX5_canPay_23 ?_
    refine g_zret hx hb hr hlk hK hM dX5_canPay_24 rfl ?_
    refine ⟨?_, rfl⟩
    show zI 0 = _
    first | exact (bI_t (by omega)).symm | exact (bI_f (by omega)).symm
  · skip
    refine g_iconst hx hb dX5_canPay_19 ?_
    refine lv_goto (tgt := 24) hx hb dX5_canPay_20 (by decide) ?_
    refine g_zret hx hb hr hlk hK hM dX5_canPay_24 rfl ?_
    refine ⟨?_, rfl⟩
    show zI 1 = _
    first | exact (bI_t (by omega)).symm | exact (bI_f (by omega)).symm

def po_X5_pay (g : gE) (f : gF) (h : Nat) (P : Nat → Int) (e : Nat) (a : Int) : Int64 → gF → Prop := fun r f1 => r = zL (a - min (P (11 + 4 * e)) a) ∧ planAt g f1 h (sPay P e a) ∧ ∀ q, (q < h ∨ h + 23 ≤ q) → f1 q = f q
set_option maxRecDepth 100000 in
set_option maxHeartbeats 1000000 in
/-- pay(e, a) -/
theorem c_X5_pay (l : Launch) (g : gE) (b0 n : Nat) (f : gF) (h : Nat) (P : Nat → Int) (e : Nat) (a : Int) (hE : planAt g f h P) (hrg : b0 ≤ h ∧ h + 23 ≤ b0 + n) (hcn7 : 0 ≤ P 7 ∧ P 7 ≤ 10) (he : (e : Int) < P 7) (hbr : 0 ≤ P (11 + 4 * e) ∧ P (11 + 4 * e) ≤ 1000000000000000000) (hpl : 0 ≤ P 0 ∧ P 0 ≤ 1000000000000000000) (har : 0 ≤ a ∧ a ≤ 1000000) : cL l yX5_pay cX5_pay 5 (some .long) 1 25 [.ref h, .int (zI (↑e : Int)), .int (zI a)] g b0 n f (po_X5_pay g f h P e a) := by
  refine gs_l (cc := cX5_pay) (maxL := 5) (ret := (some .long)) (by decide) (Nat.le_of_ble_eq_true rfl) ?_
  intro p e0 s m args below meth c ls hx hb hr hml hown hts hlk hK hM hl
  have hl : lv_has ls 5 [(0, .ref h), (1, .int (zI (↑e : Int))), (2, .int (zI a))] := hl
  have hzn7 := hcn7.1
  have hzm7 := hcn7.2
  have hbr1 := hbr.1
  have hbr2 := hbr.2
  have hpl1 := hpl.1
  have hpl2 := hpl.2
  have hen : e < 10 := by omega
  have har1 := har.1
  have har2 := har.2
  refine lv_iload_n hx hb dX5_pay_0 rfl (lv_at hl 2 rfl) ?_
  refine g_i2l hx hb dX5_pay_1 ⟨by omega, by omega⟩ ?_
  refine lv_aload_n hx hb dX5_pay_2 rfl (lv_at hl 0 rfl) ?_
  obtain ⟨ho1, ho2, ho3, ho4, ho5⟩ := id hE
  refine g_get (ci := 7) (v := .ref (h + 1)) (C := RX5) (T := TX5) (N := 11) hx hb hts iU_X5 hown hK hM ⟨by omega, by omega⟩ ho1 rfl 0 (by decide) (hts _ u_164) (fun _ h9 => h9) rfl dX5_pay_3 ?_
  refine lv_iload_n hx hb dX5_pay_6 rfl (lv_at hl 1 rfl) ?_
  refine lv_iload_n hx hb dX5_pay_7 rfl (lv_at hl 2 rfl) ?_
  refine g_i2l hx hb dX5_pay_8 ⟨by omega, by omega⟩ ?_
  have hC8 := c_X2_spendWhatIsThere l g b0 n f (h + 1) P e a ho2 ⟨by omega, by omega⟩ hcn7 he hbr ⟨by omega, by omega⟩
  obtain ⟨ho11, ho12, ho13, ho14, ho15⟩ := id ho2
  refine g_callVl (ci := 4) (C := RX2) (T := TX2) (N := 5) (As := [.int (zI (↑e : Int)), .long (zL a)]) (rest := [.long (zL a)]) ⟨hx, hb, hml, hown, hts⟩ hK hM hC8 (cuV (n := 2) hts u_512 u_509 u_5 (by decide) u_510 u_511 ⟨Nat.le_of_ble_eq_true rfl, Nat.le_of_ble_eq_true rfl⟩) ⟨by omega, by omega⟩ ho11 rfl rfl hl.1 rfl (Nat.le_of_ble_eq_true rfl) dX5_pay_9 ⟨Nat.zero_le _, Nat.zero_le _⟩ (fun r9 f9 H locs hM hp10 => ?_)
  obtain ⟨rfl, hn7, o6⟩ := hp10
  obtain ⟨P1, hP1⟩ : ∃ Q : Nat → Int, Q = sDrain P e a := ⟨_, rfl⟩
  rw [← hP1] at hn7
  have hp16 := planAt.env (P' := P1) hE hn7 o6 (fun i hi => by rw [hP1]; unfold sDrain; (repeat (first | rw [pu_s] | rw [pu_n (by omega)] | rw [Int.toNat_natCast])))
  refine g_lsub hx hb dX5_pay_12 ?_
  refine lv_lstore_n (lv' := [(3, .long (zL (a - (min (P (11 + 4 * e)) a)))), (0, .ref h), (1, .int (zI (↑e : Int))), (2, .int (zI a))]) hx hb dX5_pay_13 rfl hl (by decide) rfl (fun ls hl => ?_)
  refine lv_aload_n hx hb dX5_pay_14 rfl (lv_at hl 1 rfl) ?_
  refine lv_dup hx hb dX5_pay_15 rfl ?_
  obtain ⟨ho17, ho18, ho19, ho20, ho21⟩ := id hp16
  refine g_get (ci := 7) (v := .long (zL (P1 0))) (C := RX5) (T := TX5) (N := 11) hx hb hts iU_X5 hown hK hM ⟨by omega, by omega⟩ ho17 rfl 4 (by decide) (hts _ u_172) (fun _ h9 => h9) rfl dX5_pay_16 ?_
  refine lv_lload_n hx hb dX5_pay_19 rfl (lv_at hl 0 rfl) ?_
  refine g_lsub hx hb dX5_pay_20 ?_
  refine g_put (ci := 7) (v := .long (zL ((P1 0) - (a - (min (P (11 + 4 * e)) a))))) (ty := .long) (C := RX5) (T := TX5) (N := 11) hx hb hts iU_X5 tyX5 tyX5_ok nmX5 hown hK hM ⟨by omega, by omega⟩ ho17 rfl 4 (by decide) (hts _ u_172) (fun _ h9 => h9) rfl (by decide +kernel) rfl rfl (Nat.le_of_ble_eq_true rfl) dX5_pay_21 (fun f22 H locs hM hf24 o23 => ?_)
  have hf24 : f22 (h) = .inr (7, [.ref (h + 1), .ref (h + 6), .ref (h + 10), .ref (h + 16), .long (zL ((P1 0) - (a - (min (P (11 + 4 * e)) a)))), .int (zI (P1 1)), .long (zL (P1 2)), .long (zL (P1 3)), .int (zI (P1 4)), .long (zL (P1 5)), .long (zL (P1 6))]) := hf24
  refine lv_aload_n hx hb dX5_pay_24 rfl (lv_at hl 1 rfl) ?_
  refine lv_dup hx hb dX5_pay_25 rfl ?_
  refine g_get (ci := 7) (v := .long (zL (P1 3))) (C := RX5) (T := TX5) (N := 11) hx hb hts iU_X5 hown hK hM ⟨by omega, by omega⟩ hf24 rfl 7 (by decide) (hts _ u_178) (fun _ h9 => h9) rfl dX5_pay_26 ?_
  refine lv_iload_n hx hb dX5_pay_29 rfl (lv_at hl 3 rfl) ?_
  refine g_i2l hx hb dX5_pay_30 ⟨by omega, by omega⟩ ?_
  refine g_ladd hx hb dX5_pay_31 ?_
  refine g_put (ci := 7) (v := .long (zL ((P1 3) + a))) (ty := .long) (C := RX5) (T := TX5) (N := 11) hx hb hts iU_X5 tyX5 tyX5_ok nmX5 hown hK hM ⟨by omega, by omega⟩ hf24 rfl 7 (by decide) (hts _ u_178) (fun _ h9 => h9) rfl (by decide +kernel) rfl rfl (Nat.le_of_ble_eq_true rfl) dX5_pay_32 (fun f25 H locs hM hf27 o26 => ?_)
  have hf27 : f25 (h) = .inr (7, [.ref (h + 1), .ref (h + 6), .ref (h + 10), .ref (h + 16), .long (zL ((P1 0) - (a - (min (P (11 + 4 * e)) a)))), .int (zI (P1 1)), .long (zL (P1 2)), .long (zL ((P1 3) + a)), .int (zI (P1 4)), .long (zL (P1 5)), .long (zL (P1 6))]) := hf27
  refine lv_lload_n hx hb dX5_pay_35 rfl (lv_at hl 0 rfl) ?_
  have hf28 := ho18.kept (fun q h1 h2 => ((o26 (q) (by omega)).trans (o23 (q) (by omega))))
  have hf29 := ho19.kept (fun q h1 h2 => ((o26 (q) (by omega)).trans (o23 (q) (by omega))))
  have hf30 := ho20.kept (fun q h1 h2 => ((o26 (q) (by omega)).trans (o23 (q) (by omega))))
  have hf31 := ho21.kept (fun q h1 h2 => ((o26 (q) (by omega)).trans (o23 (q) (by omega))))
  refine g_lret hx hb hr hlk hK hM dX5_pay_36 ?_
  exact ⟨rfl, ⟨hf27.trans (by simp only [sPay, ← hP1]; (repeat (first | rw [pu_s] | rw [pu_n (by omega)] | rw [Int.toNat_natCast]))), hf28.cong (fun i hi => by simp only [sPay, ← hP1]; (repeat (first | rw [pu_s] | rw [pu_n (by omega)] | rw [Int.toNat_natCast]))), hf29.cong (fun i hi => by simp only [sPay, ← hP1]; (repeat (first | rw [pu_s] | rw [pu_n (by omega)] | rw [Int.toNat_natCast]))), hf30.cong (fun i hi => by simp only [sPay, ← hP1]; (repeat (first | rw [pu_s] | rw [pu_n (by omega)] | rw [Int.toNat_natCast]))), hf31.cong (fun i hi => by simp only [sPay, ← hP1]; (repeat (first | rw [pu_s] | rw [pu_n (by omega)] | rw [Int.toNat_natCast])))⟩, (fun q hq => ((o26 (q) (by omega)).trans ((o23 (q) (by omega)).trans (o6 (q) (by omega)))))⟩

def po_X5_passOn (g : gE) (f : gF) (h : Nat) (P : Nat → Int) (k : Nat) : Int32 → gF → Prop := fun r f1 => r = bI (0 < sOver P k ∧ 0 < sPass P k) ∧ planAt g f1 h (if 0 < sOver P k then sLnk P k else P) ∧ ∀ q, (q < h ∨ h + 23 ≤ q) → f1 q = f q
set_option maxRecDepth 100000 in
set_option maxHeartbeats 1000000 in
/-- passOn(k) -/
theorem c_X5_passOn (l : Launch) (g : gE) (b0 n : Nat) (f : gF) (h : Nat) (P : Nat → Int) (k : Nat) (hE : planAt g f h P) (hrg : b0 ≤ h ∧ h + 23 ≤ b0 + n) (hcn7 : 0 ≤ P 7 ∧ P 7 ≤ 10) (hk9 : (k : Int) < P 9) (hcn9 : 0 ≤ P 9 ∧ P 9 ≤ 6) (hlk2 : 0 ≤ P (69 + 5 * k) ∧ P (69 + 5 * k) < P 7 ∧ 0 ≤ P (70 + 5 * k) ∧ P (70 + 5 * k) < P 7 ∧ P (69 + 5 * k) ≠ P (70 + 5 * k) ∧ 0 ≤ P (71 + 5 * k) ∧ P (71 + 5 * k) ≤ 9000000 ∧ 1 ≤ P (72 + 5 * k) ∧ P (72 + 5 * k) ≤ 100) (hbe : ∀ e, e < 10 → 0 ≤ P (11 + 4 * e) ∧ P (11 + 4 * e) ≤ 1000000000000000) (hce : ∀ e, e < 10 → -1 ≤ P (12 + 4 * e) ∧ P (12 + 4 * e) ≤ 9000000) : cI l yX5_passOn cX5_passOn 6 (some .boolean) 1 25 [.ref h, .int (zI (↑k : Int))] g b0 n f (po_X5_passOn g f h P k) := by
  refine gs_i (cc := cX5_passOn) (maxL := 6) (ret := (some .boolean)) (by decide) (Nat.le_of_ble_eq_true rfl) ?_
  intro p e0 s m args below meth c ls hx hb hr hml hown hts hlk hK hM hl
  have hl : lv_has ls 6 [(0, .ref h), (1, .int (zI (↑k : Int)))] := hl
  have hk6 : k < 6 := by omega
  have hzn7 := hcn7.1
  have hzm7 := hcn7.2
  obtain ⟨hl1, hl2, hl3, hl4, hl5, hl6, hl7, hl8, hl9⟩ := hlk2
  obtain ⟨s0, hs0⟩ : ∃ q : Nat, P (69 + 5 * k) = q := ⟨(P (69 + 5 * k)).toNat, by omega⟩
  obtain ⟨t0, ht0⟩ : ∃ q : Nat, P (70 + 5 * k) = q := ⟨(P (70 + 5 * k)).toNat, by omega⟩
  obtain ⟨hbs1, hbs2⟩ := hbe s0 (by omega)
  obtain ⟨hbt1, hbt2⟩ := hbe t0 (by omega)
  obtain ⟨hct1, hct2⟩ := hce t0 (by omega)
  refine lv_iload_n hx hb dX5_passOn_0 rfl (lv_at hl 1 rfl) ?_
  refine g_if_lt (tgt := 10) hx hb dX5_passOn_1 (by decide) ⟨by omega, by omega⟩ (fun c1 => ?_) (fun c1 => ?_)
  · skip
    refine g_iconst hx hb dX5_passOn_10 ?_
    refine g_zret hx hb hr hlk hK hM dX5_passOn_11 rfl ?_
    have hov : ¬ 0 < sOver P k := by unfold sOver; rw [hs0]; show ¬ 0 < P (11 + 4 * s0) - _; omega
    refine ⟨(bI_f (fun h9 => hov h9.1)).symm, ?_, fun q hq => rfl⟩
    rw [if_neg hov]
    exact hE
  · skip
    refine lv_iload_n hx hb dX5_passOn_4 rfl (lv_at hl 1 rfl) ?_
    refine g_bipush hx hb dX5_passOn_5 (by decide) ?_
    refine g_icmp_lt (tgt := 12) hx hb dX5_passOn_7 (by decide) ⟨by omega, by omega⟩ (by decide) (fun c7 => ?_) (fun c7 => ?_)
    · skip
      refine lv_aload_n hx hb dX5_passOn_12 rfl (lv_at hl 0 rfl) ?_
      obtain ⟨ho1, ho2, ho3, ho4, ho5⟩ := id hE
      refine g_get (ci := 7) (v := .ref (h + 1)) (C := RX5) (T := TX5) (N := 11) hx hb hts iU_X5 hown hK hM ⟨by omega, by omega⟩ ho1 rfl 0 (by decide) (hts _ u_164) (fun _ h9 => h9) rfl dX5_passOn_13 ?_
      refine lv_aload_n hx hb dX5_passOn_16 rfl (lv_at hl 0 rfl) ?_
      refine g_get (ci := 7) (v := .ref (h + 10)) (C := RX5) (T := TX5) (N := 11) hx hb hts iU_X5 hown hK hM ⟨by omega, by omega⟩ ho1 rfl 2 (by decide) (hts _ u_168) (fun _ h9 => h9) rfl dX5_passOn_17 ?_
      obtain ⟨ho6, ho7, ho8, ho9, ho10, ho11⟩ := id ho4
      refine g_getN (ci := 6) (v := .ref (h + 10 + 1)) (C := RX4) (T := TX4) (N := 6) hx hb hts iU_X4 hown hK hM ⟨by omega, by omega⟩ ho6 rfl 0 (by decide) (hts _ u_105) (fun _ h9 => h9) rfl dX5_passOn_20 ?_
      refine lv_iload_n hx hb dX5_passOn_23 rfl (lv_at hl 1 rfl) ?_
      refine g_iald hx hb hK hM ⟨by omega, by omega⟩ ho7 (by omega) (by omega) (by decide) dX5_passOn_24 ?_
      show W _ _ _ _ _ _ _ _ _ _ _ _ _ _ _ (F0 _ _ _ (.int (zI (P (69 + 5 * k))) :: _))
      rw [hs0]
      have hC12 := c_X2_balanceOf l g b0 n f (h + 1) P s0 ho2 ⟨by omega, by omega⟩ hcn7 (by omega)
      obtain ⟨ho15, ho16, ho17, ho18, ho19⟩ := id ho2
      refine g_callVl (ci := 4) (C := RX2) (T := TX2) (N := 5) (As := [.int (zI (↑s0 : Int))]) (rest := []) ⟨hx, hb, hml, hown, hts⟩ hK hM hC12 (cuV (n := 1) hts u_427 u_424 u_5 (by decide) u_425 u_426 ⟨Nat.le_of_ble_eq_true rfl, Nat.le_of_ble_eq_true rfl⟩) ⟨by omega, by omega⟩ ho15 rfl rfl hl.1 rfl (Nat.le_of_ble_eq_true rfl) dX5_passOn_25 ⟨Nat.zero_le _, Nat.zero_le _⟩ (fun r25 f13 H locs hM hp14 => ?_)
      obtain ⟨rfl, rfl⟩ := hp14
      refine lv_aload_n hx hb dX5_passOn_28 rfl (lv_at hl 0 rfl) ?_
      refine g_get (ci := 7) (v := .ref (h + 10)) (C := RX5) (T := TX5) (N := 11) hx hb hts iU_X5 hown hK hM ⟨by omega, by omega⟩ ho1 rfl 2 (by decide) (hts _ u_168) (fun _ h9 => h9) rfl dX5_passOn_29 ?_
      refine g_getN (ci := 6) (v := .ref (h + 10 + 3)) (C := RX4) (T := TX4) (N := 6) hx hb hts iU_X4 hown hK hM ⟨by omega, by omega⟩ ho6 rfl 2 (by decide) (hts _ u_109) (fun _ h9 => h9) rfl dX5_passOn_32 ?_
      refine lv_iload_n hx hb dX5_passOn_35 rfl (lv_at hl 1 rfl) ?_
      refine g_iald hx hb hK hM ⟨by omega, by omega⟩ ho9 (by omega) (by omega) (by decide) dX5_passOn_36 ?_
      show W _ _ _ _ _ _ _ _ _ _ _ _ _ _ _ (F0 _ _ _ (.int (zI (P (71 + 5 * k))) :: _))
      refine g_i2l hx hb dX5_passOn_37 ⟨by omega, by omega⟩ ?_
      refine g_lsub hx hb dX5_passOn_38 ?_
      refine lv_lstore_n (lv' := [(2, .long (zL ((P (11 + 4 * s0)) - (P (71 + 5 * k))))), (0, .ref h), (1, .int (zI (↑k : Int)))]) hx hb dX5_passOn_39 rfl hl (by decide) rfl (fun ls hl => ?_)
      refine lv_lload_n hx hb dX5_passOn_40 rfl (lv_at hl 0 rfl) ?_
      refine g_lconst (z := 0) hx hb dX5_passOn_41 (by decide) ?_
      refine g_lcmp_gt (tgt := 48) hx hb dX5_passOn_42 dX5_passOn_43 (by decide) ⟨by omega, by omega⟩ (by decide) (fun c42 => ?_) (fun c42 => ?_)
      · skip
        have hmu := pct_ok (o := P (11 + 4 * s0) - P (71 + 5 * k)) (q := P (72 + 5 * k)) (by omega) (by omega) (by omega) (by omega)
        obtain ⟨x, hx0⟩ : ∃ x : Int, (Int.tdiv ((P (11 + 4 * s0) - P (71 + 5 * k)) * P (72 + 5 * k)) 100) = x := ⟨_, rfl⟩
        refine lv_aload_n hx hb dX5_passOn_48 rfl (lv_at hl 1 rfl) ?_
        refine g_get (ci := 7) (v := .ref (h + 1)) (C := RX5) (T := TX5) (N := 11) hx hb hts iU_X5 hown hK hM ⟨by omega, by omega⟩ ho1 rfl 0 (by decide) (hts _ u_164) (fun _ h9 => h9) rfl dX5_passOn_49 ?_
        refine lv_aload_n hx hb dX5_passOn_52 rfl (lv_at hl 1 rfl) ?_
        refine g_get (ci := 7) (v := .ref (h + 10)) (C := RX5) (T := TX5) (N := 11) hx hb hts iU_X5 hown hK hM ⟨by omega, by omega⟩ ho1 rfl 2 (by decide) (hts _ u_168) (fun _ h9 => h9) rfl dX5_passOn_53 ?_
        refine g_getN (ci := 6) (v := .ref (h + 10 + 2)) (C := RX4) (T := TX4) (N := 6) hx hb hts iU_X4 hown hK hM ⟨by omega, by omega⟩ ho6 rfl 1 (by decide) (hts _ u_107) (fun _ h9 => h9) rfl dX5_passOn_56 ?_
        refine lv_iload_n hx hb dX5_passOn_59 rfl (lv_at hl 2 rfl) ?_
        refine g_iald hx hb hK hM ⟨by omega, by omega⟩ ho8 (by omega) (by omega) (by decide) dX5_passOn_60 ?_
        show W _ _ _ _ _ _ _ _ _ _ _ _ _ _ _ (F0 _ _ _ (.int (zI (P (70 + 5 * k))) :: _))
        rw [ht0]
        refine lv_lload_n hx hb dX5_passOn_61 rfl (lv_at hl 0 rfl) ?_
        refine lv_aload_n hx hb dX5_passOn_62 rfl (lv_at hl 1 rfl) ?_
        refine g_get (ci := 7) (v := .ref (h + 10)) (C := RX5) (T := TX5) (N := 11) hx hb hts iU_X5 hown hK hM ⟨by omega, by omega⟩ ho1 rfl 2 (by decide) (hts _ u_168) (fun _ h9 => h9) rfl dX5_passOn_63 ?_
        refine g_getN (ci := 6) (v := .ref (h + 10 + 4)) (C := RX4) (T := TX4) (N := 6) hx hb hts iU_X4 hown hK hM ⟨by omega, by omega⟩ ho6 rfl 3 (by decide) (hts _ u_111) (fun _ h9 => h9) rfl dX5_passOn_66 ?_
        refine lv_iload_n hx hb dX5_passOn_69 rfl (lv_at hl 2 rfl) ?_
        refine g_iald hx hb hK hM ⟨by omega, by omega⟩ ho10 (by omega) (by omega) (by decide) dX5_passOn_70 ?_
        show W _ _ _ _ _ _ _ _ _ _ _ _ _ _ _ (F0 _ _ _ (.int (zI (P (72 + 5 * k))) :: _))
        refine g_i2l hx hb dX5_passOn_71 ⟨by omega, by omega⟩ ?_
        refine g_lmul hx hb dX5_passOn_72 ?_
        refine g_ldc2 (z := 100) hx hb hown (hts _ u_500) dX5_passOn_73 (by decide) ?_
        refine g_ldiv hx hb dX5_passOn_76 hmu.1 (by decide) (by decide) ?_
        rw [hx0]
        have hx1 := hmu.2.1
        have hx2 := hmu.2.2
        rw [hx0] at hx1 hx2
        have hisr := sIs_le (P := P) (e := t0) hx1
        have hC22 := c_X2_putWhatFits l g b0 n f (h + 1) P t0 x ho2 ⟨by omega, by omega⟩ hcn7 (by omega) ⟨by omega, by omega⟩ ⟨by omega, by omega⟩ ⟨by omega, by omega⟩
        refine g_callVl (ci := 4) (C := RX2) (T := TX2) (N := 5) (As := [.int (zI (↑t0 : Int)), .long (zL x)]) (rest := []) ⟨hx, hb, hml, hown, hts⟩ hK hM hC22 (cuV (n := 2) hts u_495 u_492 u_5 (by decide) u_493 u_494 ⟨Nat.le_of_ble_eq_true rfl, Nat.le_of_ble_eq_true rfl⟩) ⟨by omega, by omega⟩ ho15 rfl rfl hl.1 rfl (Nat.le_of_ble_eq_true rfl) dX5_passOn_77 ⟨Nat.zero_le _, Nat.zero_le _⟩ (fun r77 f23 H locs hM hp24 => ?_)
        obtain ⟨rfl, hn21, o20⟩ := hp24
        obtain ⟨P1, hP1⟩ : ∃ Q : Nat → Int, Q = sPut P t0 x := ⟨_, rfl⟩
        rw [← hP1] at hn21
        have hp25 := planAt.env (P' := P1) hE hn21 o20 (fun i hi => by rw [hP1]; unfold sPut; (repeat (first | rw [pu_s] | rw [pu_n (by omega)] | rw [Int.toNat_natCast])))
        refine lv_lstore (lv' := [(4, .long (zL (sIs P t0 x))), (2, .long (zL ((P (11 + 4 * s0)) - (P (71 + 5 * k))))), (0, .ref h), (1, .int (zI (↑k : Int)))]) hx hb dX5_passOn_80 hl (by decide) rfl (fun ls hl => ?_)
        refine lv_aload_n hx hb dX5_passOn_82 rfl (lv_at hl 2 rfl) ?_
        have hrs : P1 (69 + 5 * k) = s0 := by rw [hP1]; unfold sPut; rw [pu_n (by omega)]; exact hs0
        obtain ⟨ho26, ho27, ho28, ho29, ho30⟩ := id hp25
        refine g_get (ci := 7) (v := .ref (h + 1)) (C := RX5) (T := TX5) (N := 11) hx hb hts iU_X5 hown hK hM ⟨by omega, by omega⟩ ho26 rfl 0 (by decide) (hts _ u_164) (fun _ h9 => h9) rfl dX5_passOn_83 ?_
        refine lv_aload_n hx hb dX5_passOn_86 rfl (lv_at hl 2 rfl) ?_
        refine g_get (ci := 7) (v := .ref (h + 10)) (C := RX5) (T := TX5) (N := 11) hx hb hts iU_X5 hown hK hM ⟨by omega, by omega⟩ ho26 rfl 2 (by decide) (hts _ u_168) (fun _ h9 => h9) rfl dX5_passOn_87 ?_
        obtain ⟨ho31, ho32, ho33, ho34, ho35, ho36⟩ := id ho29
        refine g_getN (ci := 6) (v := .ref (h + 10 + 1)) (C := RX4) (T := TX4) (N := 6) hx hb hts iU_X4 hown hK hM ⟨by omega, by omega⟩ ho31 rfl 0 (by decide) (hts _ u_105) (fun _ h9 => h9) rfl dX5_passOn_90 ?_
        refine lv_iload_n hx hb dX5_passOn_93 rfl (lv_at hl 3 rfl) ?_
        refine g_iald hx hb hK hM ⟨by omega, by omega⟩ ho32 (by omega) (by omega) (by decide) dX5_passOn_94 ?_
        show W _ _ _ _ _ _ _ _ _ _ _ _ _ _ _ (F0 _ _ _ (.int (zI (P1 (69 + 5 * k))) :: _))
        rw [hrs]
        refine lv_lload hx hb dX5_passOn_95 (lv_at hl 0 rfl) ?_
        have hcnA : 0 ≤ P1 7 ∧ P1 7 ≤ 10 := by rw [hP1]; unfold sPut; rw [pu_n (by omega)]; exact hcn7
        have hcnB : P1 7 = P 7 := by rw [hP1]; unfold sPut; rw [pu_n (by omega)]
        have hC39 := c_X2_take l g b0 n f23 (h + 1) P1 s0 (sIs P t0 x) ho27 ⟨by omega, by omega⟩ hcnA (by omega)
        obtain ⟨ho42, ho43, ho44, ho45, ho46⟩ := id ho27
        refine g_callVv (ci := 4) (C := RX2) (T := TX2) (N := 5) (As := [.int (zI (↑s0 : Int)), .long (zL (sIs P t0 x))]) (rest := []) ⟨hx, hb, hml, hown, hts⟩ hK hM hC39 (cuV (n := 2) hts u_524 u_521 u_5 (by decide) u_522 u_523 ⟨Nat.le_of_ble_eq_true rfl, Nat.le_of_ble_eq_true rfl⟩) ⟨by omega, by omega⟩ ho42 rfl rfl hl.1 rfl (Nat.le_of_ble_eq_true rfl) dX5_passOn_97 ⟨Nat.zero_le _, Nat.zero_le _⟩ (fun f40 H locs hM hp41 => ?_)
        obtain ⟨hn38, o37⟩ := hp41
        obtain ⟨P2, hP2⟩ : ∃ Q : Nat → Int, Q = pu P1 (11 + 4 * s0) (P1 (11 + 4 * s0) - (sIs P t0 x)) := ⟨_, rfl⟩
        rw [← hP2] at hn38
        have hp47 := planAt.env (P' := P2) hp25 hn38 o37 (fun i hi => by rw [hP2]; (repeat (first | rw [pu_s] | rw [pu_n (by omega)] | rw [Int.toNat_natCast])))
        refine lv_aload_n hx hb dX5_passOn_100 rfl (lv_at hl 2 rfl) ?_
        obtain ⟨ho48, ho49, ho50, ho51, ho52⟩ := id hp47
        refine g_get (ci := 7) (v := .ref (h + 10)) (C := RX5) (T := TX5) (N := 11) hx hb hts iU_X5 hown hK hM ⟨by omega, by omega⟩ ho48 rfl 2 (by decide) (hts _ u_168) (fun _ h9 => h9) rfl dX5_passOn_101 ?_
        obtain ⟨ho53, ho54, ho55, ho56, ho57, ho58⟩ := id ho51
        refine g_getN (ci := 6) (v := .ref (h + 10 + 5)) (C := RX4) (T := TX4) (N := 6) hx hb hts iU_X4 hown hK hM ⟨by omega, by omega⟩ ho53 rfl 4 (by decide) (hts _ u_113) (fun _ h9 => h9) rfl dX5_passOn_104 ?_
        refine lv_iload_n hx hb dX5_passOn_107 rfl (lv_at hl 3 rfl) ?_
        refine lv_dup2_11 hx hb dX5_passOn_108 rfl rfl ?_
        refine g_lald hx hb hK hM ⟨by omega, by omega⟩ ho58 (by omega) (by omega) (by decide) dX5_passOn_109 ?_
        show W _ _ _ _ _ _ _ _ _ _ _ _ _ _ _ (F0 _ _ _ (.long (zL (P2 (73 + 5 * k))) :: _))
        refine lv_lload hx hb dX5_passOn_110 (lv_at hl 0 rfl) ?_
        refine g_ladd hx hb dX5_passOn_112 ?_
        refine g_last hx hb hK hM ⟨by omega, by omega⟩ ho58 (by omega) (by omega) (by decide) dX5_passOn_113 (fun f59 H locs hM ha61 o60 => ?_)
        refine lv_aload_n hx hb dX5_passOn_114 rfl (lv_at hl 2 rfl) ?_
        refine lv_dup hx hb dX5_passOn_115 rfl ?_
        have hf62 : f59 (h) = .inr (7, [.ref (h + 1), .ref (h + 6), .ref (h + 10), .ref (h + 16), .long (zL (P2 0)), .int (zI (P2 1)), .long (zL (P2 2)), .long (zL (P2 3)), .int (zI (P2 4)), .long (zL (P2 5)), .long (zL (P2 6))]) := (o60 (h) (by omega)).trans ho48
        refine g_get (ci := 7) (v := .long (zL (P2 5))) (C := RX5) (T := TX5) (N := 11) hx hb hts iU_X5 hown hK hM ⟨by omega, by omega⟩ hf62 rfl 9 (by decide) (hts _ u_181) (fun _ h9 => h9) rfl dX5_passOn_116 ?_
        refine lv_lload hx hb dX5_passOn_119 (lv_at hl 0 rfl) ?_
        refine g_ladd hx hb dX5_passOn_121 ?_
        refine g_put (ci := 7) (v := .long (zL ((P2 5) + (sIs P t0 x)))) (ty := .long) (C := RX5) (T := TX5) (N := 11) hx hb hts iU_X5 tyX5 tyX5_ok nmX5 hown hK hM ⟨by omega, by omega⟩ hf62 rfl 9 (by decide) (hts _ u_181) (fun _ h9 => h9) rfl (by decide +kernel) rfl rfl (Nat.le_of_ble_eq_true rfl) dX5_passOn_122 (fun f63 H locs hM hf65 o64 => ?_)
        have hf65 : f63 (h) = .inr (7, [.ref (h + 1), .ref (h + 6), .ref (h + 10), .ref (h + 16), .long (zL (P2 0)), .int (zI (P2 1)), .long (zL (P2 2)), .long (zL (P2 3)), .int (zI (P2 4)), .long (zL ((P2 5) + (sIs P t0 x))), .long (zL (P2 6))]) := hf65
        refine lv_lload hx hb dX5_passOn_125 (lv_at hl 0 rfl) ?_
        refine g_lconst (z := 0) hx hb dX5_passOn_127 (by decide) ?_
        refine g_lcmp_le (tgt := 136) hx hb dX5_passOn_128 dX5_passOn_129 (by decide) ⟨by omega, by omega⟩ (by decide) (fun c128 => ?_) (fun c128 => ?_)
        · skip
          refine g_iconst hx hb dX5_passOn_136 ?_
          have hf66 := ho49.kept (fun q h1 h2 => ((o64 (q) (by omega)).trans (o60 (q) (by omega))))
          have hf67 := ho50.kept (fun q h1 h2 => ((o64 (q) (by omega)).trans (o60 (q) (by omega))))
          have hf68 : f63 (h + 10) = .inr (6, [.ref (h + 10 + 1), .ref (h + 10 + 2), .ref (h + 10 + 3), .ref (h + 10 + 4), .ref (h + 10 + 5), .int (zI (P2 9))]) := ((o64 (h + 10) (by omega)).trans (o60 (h + 10) (by omega))).trans ho53
          have hf69 := ho54.kept ((o64 (h + 10 + 1) (by omega)).trans (o60 (h + 10 + 1) (by omega)))
          have hf70 := ho55.kept ((o64 (h + 10 + 2) (by omega)).trans (o60 (h + 10 + 2) (by omega)))
          have hf71 := ho56.kept ((o64 (h + 10 + 3) (by omega)).trans (o60 (h + 10 + 3) (by omega)))
          have hf72 := ho57.kept ((o64 (h + 10 + 4) (by omega)).trans (o60 (h + 10 + 4) (by omega)))
          have hf73 := ha61.kept (o64 (h + 10 + 5) (by omega))
          have hf74 := ho52.kept (fun q h1 h2 => ((o64 (q) (by omega)).trans (o60 (q) (by omega))))
          refine g_zret hx hb hr hlk hK hM dX5_passOn_137 rfl ?_
          have hov : 0 < sOver P k := by unfold sOver; rw [hs0]; show 0 < P (11 + 4 * s0) - _; omega
          have hxx : sPass P k = sIs P t0 x := by unfold sPass sOver; rw [hs0, ht0, show ((t0 : Int)).toNat = t0 from rfl, show ((s0 : Int)).toNat = s0 from rfl, hx0]
          refine ⟨?_, ?_, (fun q hq => ((o64 (q) (by omega)).trans ((o60 (q) (by omega)).trans ((o37 (q) (by omega)).trans (o20 (q) (by omega))))))⟩
          · exact (bI_f (fun h9 => by rw [hxx] at h9; omega)).symm
          · rw [if_pos hov]
            have hS : sLnk P k = pu (pu P2 (73 + 5 * k) (P2 (73 + 5 * k) + sIs P t0 x)) 5 (P2 5 + sIs P t0 x) := by rw [hP2, hP1]; unfold sLnk; simp only [hxx]; unfold sOver; rw [hs0, ht0, show ((t0 : Int)).toNat = t0 from rfl, show ((s0 : Int)).toNat = s0 from rfl, hx0]
            rw [hS]
            exact ⟨hf65.trans (by (repeat (first | rw [pu_s] | rw [pu_n (by omega)] | rw [Int.toNat_natCast]))), hf66.cong (fun i hi => by (repeat (first | rw [pu_s] | rw [pu_n (by omega)] | rw [Int.toNat_natCast]))), hf67.cong (fun i hi => by (repeat (first | rw [pu_s] | rw [pu_n (by omega)] | rw [Int.toNat_natCast]))), ⟨hf68.trans (by (repeat (first | rw [pu_s] | rw [pu_n (by omega)] | rw [Int.toNat_natCast]))), hf69.cong (fun k9 hk9 => by (repeat (first | rw [pu_s] | rw [pu_n (by omega)] | rw [Int.toNat_natCast]))), hf70.cong (fun k9 hk9 => by (repeat (first | rw [pu_s] | rw [pu_n (by omega)] | rw [Int.toNat_natCast]))), hf71.cong (fun k9 hk9 => by (repeat (first | rw [pu_s] | rw [pu_n (by omega)] | rw [Int.toNat_natCast]))), hf72.cong (fun k9 hk9 => by (repeat (first | rw [pu_s] | rw [pu_n (by omega)] | rw [Int.toNat_natCast]))), hf73.cong (fun k9 hk9 => (Classical.em (k9 = k)).elim (fun hz => by subst hz; (repeat (first | rw [pu_s] | rw [pu_n (by omega)] | rw [Int.toNat_natCast]))) (fun hz => by (repeat (first | rw [pu_s] | rw [pu_n (by omega)] | rw [Int.toNat_natCast]))))⟩, hf74.cong (fun i hi => by (repeat (first | rw [pu_s] | rw [pu_n (by omega)] | rw [Int.toNat_natCast])))⟩
        · skip
          refine g_iconst hx hb dX5_passOn_132 ?_
          refine lv_goto (tgt := 137) hx hb dX5_passOn_133 (by decide) ?_
          have hf75 := ho49.kept (fun q h1 h2 => ((o64 (q) (by omega)).trans (o60 (q) (by omega))))
          have hf76 := ho50.kept (fun q h1 h2 => ((o64 (q) (by omega)).trans (o60 (q) (by omega))))
          have hf77 : f63 (h + 10) = .inr (6, [.ref (h + 10 + 1), .ref (h + 10 + 2), .ref (h + 10 + 3), .ref (h + 10 + 4), .ref (h + 10 + 5), .int (zI (P2 9))]) := ((o64 (h + 10) (by omega)).trans (o60 (h + 10) (by omega))).trans ho53
          have hf78 := ho54.kept ((o64 (h + 10 + 1) (by omega)).trans (o60 (h + 10 + 1) (by omega)))
          have hf79 := ho55.kept ((o64 (h + 10 + 2) (by omega)).trans (o60 (h + 10 + 2) (by omega)))
          have hf80 := ho56.kept ((o64 (h + 10 + 3) (by omega)).trans (o60 (h + 10 + 3) (by omega)))
          have hf81 := ho57.kept ((o64 (h + 10 + 4) (by omega)).trans (o60 (h + 10 + 4) (by omega)))
          have hf82 := ha61.kept (o64 (h + 10 + 5) (by omega))
          have hf83 := ho52.kept (fun q h1 h2 => ((o64 (q) (by omega)).trans (o60 (q) (by omega))))
          refine g_zret hx hb hr hlk hK hM dX5_passOn_137 rfl ?_
          have hov : 0 < sOver P k := by unfold sOver; rw [hs0]; show 0 < P (11 + 4 * s0) - _; omega
          have hxx : sPass P k = sIs P t0 x := by unfold sPass sOver; rw [hs0, ht0, show ((t0 : Int)).toNat = t0 from rfl, show ((s0 : Int)).toNat = s0 from rfl, hx0]
          refine ⟨?_, ?_, (fun q hq => ((o64 (q) (by omega)).trans ((o60 (q) (by omega)).trans ((o37 (q) (by omega)).trans (o20 (q) (by omega))))))⟩
          · exact (bI_t ⟨hov, by rw [hxx]; omega⟩).symm
          · rw [if_pos hov]
            have hS : sLnk P k = pu (pu P2 (73 + 5 * k) (P2 (73 + 5 * k) + sIs P t0 x)) 5 (P2 5 + sIs P t0 x) := by rw [hP2, hP1]; unfold sLnk; simp only [hxx]; unfold sOver; rw [hs0, ht0, show ((t0 : Int)).toNat = t0 from rfl, show ((s0 : Int)).toNat = s0 from rfl, hx0]
            rw [hS]
            exact ⟨hf65.trans (by (repeat (first | rw [pu_s] | rw [pu_n (by omega)] | rw [Int.toNat_natCast]))), hf75.cong (fun i hi => by (repeat (first | rw [pu_s] | rw [pu_n (by omega)] | rw [Int.toNat_natCast]))), hf76.cong (fun i hi => by (repeat (first | rw [pu_s] | rw [pu_n (by omega)] | rw [Int.toNat_natCast]))), ⟨hf77.trans (by (repeat (first | rw [pu_s] | rw [pu_n (by omega)] | rw [Int.toNat_natCast]))), hf78.cong (fun k9 hk9 => by (repeat (first | rw [pu_s] | rw [pu_n (by omega)] | rw [Int.toNat_natCast]))), hf79.cong (fun k9 hk9 => by (repeat (first | rw [pu_s] | rw [pu_n (by omega)] | rw [Int.toNat_natCast]))), hf80.cong (fun k9 hk9 => by (repeat (first | rw [pu_s] | rw [pu_n (by omega)] | rw [Int.toNat_natCast]))), hf81.cong (fun k9 hk9 => by (repeat (first | rw [pu_s] | rw [pu_n (by omega)] | rw [Int.toNat_natCast]))), hf82.cong (fun k9 hk9 => (Classical.em (k9 = k)).elim (fun hz => by subst hz; (repeat (first | rw [pu_s] | rw [pu_n (by omega)] | rw [Int.toNat_natCast]))) (fun hz => by (repeat (first | rw [pu_s] | rw [pu_n (by omega)] | rw [Int.toNat_natCast]))))⟩, hf83.cong (fun i hi => by (repeat (first | rw [pu_s] | rw [pu_n (by omega)] | rw [Int.toNat_natCast])))⟩
      · skip
        refine g_iconst hx hb dX5_passOn_46 ?_
        refine g_zret hx hb hr hlk hK hM dX5_passOn_47 rfl ?_
        have hov : ¬ 0 < sOver P k := by unfold sOver; rw [hs0]; show ¬ 0 < P (11 + 4 * s0) - _; omega
        refine ⟨(bI_f (fun h9 => hov h9.1)).symm, ?_, fun q hq => rfl⟩
        rw [if_neg hov]
        exact hE
    · skip
      refine g_iconst hx hb dX5_passOn_10 ?_
      refine g_zret hx hb hr hlk hK hM dX5_passOn_11 rfl ?_
      have hov : ¬ 0 < sOver P k := by unfold sOver; rw [hs0]; show ¬ 0 < P (11 + 4 * s0) - _; omega
      refine ⟨(bI_f (fun h9 => hov h9.1)).symm, ?_, fun q hq => rfl⟩
      rw [if_neg hov]
      exact hE
