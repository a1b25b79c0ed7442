def po_X2_balanceOfG (g : gE) (f : gF) (h : Nat) (P : Nat → Int) (x : Int) : Int64 → gF → Prop := fun r f1 => r = zL (if 0 ≤ x ∧ x < P 7 then P (11 + 4 * x.toNat) else 0) ∧ f = f1
set_option maxRecDepth 100000 in
set_option maxHeartbeats 1000000 in
/-- balanceOf of any place -/
theorem c_X2_balanceOfG (l : Launch) (g : gE) (b0 n : Nat) (f : gF) (h : Nat) (P : Nat → Int) (x : Int) (hE : envAt g f h P) (hrg : b0 ≤ h ∧ h + 5 ≤ b0 + n) (hcn : 0 ≤ P 7 ∧ P 7 ≤ 10) (hrx : rI x) : cL l yX2_balanceOf cX2_balanceOf 2 (some .long) 0 0 [.ref h, .int (zI x)] g b0 n f (po_X2_balanceOfG g f h P x) := by
  refine gs_l (cc := cX2_balanceOf) (maxL := 2) (ret := (some .long)) (by decide) (Nat.le_of_ble_eq_true rfl) ?_
  intro p e0 s m args below meth c ls hx hb hr hml hown hts hlk hK hM hl
  have hl : lv_has ls 2 [(0, .ref h), (1, .int (zI x))] := hl
  have hc1 := hcn.1
  have hc2 := hcn.2
  refine lv_iload_n hx hb dX2_balanceOf_0 rfl (lv_at hl 1 rfl) ?_
  refine g_if_lt (tgt := 27) hx hb dX2_balanceOf_1 (by decide) hrx (fun c1 => ?_) (fun c1 => ?_)
  · skip
    refine g_lconst (z := 0) hx hb dX2_balanceOf_27 (by decide) ?_
    refine g_lret hx hb hr hlk hK hM dX2_balanceOf_28 ?_
    refine ⟨congrArg zL ?_, rfl⟩
    rw [if_neg (by omega)]
  · skip
    refine lv_iload_n hx hb dX2_balanceOf_4 rfl (lv_at hl 1 rfl) ?_
    refine lv_aload_n hx hb dX2_balanceOf_5 rfl (lv_at hl 0 rfl) ?_
    obtain ⟨ho1, ho2, ho3, ho4, ho5⟩ := id hE
    refine g_get (ci := 4) (v := .int (zI (P 7))) (C := RX2) (T := TX2) (N := 5) hx hb hts iU_X2 hown hK hM ⟨by omega, by omega⟩ ho1 rfl 4 (by decide) (hts _ u_60) (fun _ h9 => h9) rfl dX2_balanceOf_6 ?_
    refine g_icmp_ge (tgt := 27) hx hb dX2_balanceOf_9 (by decide) hrx ⟨by omega, by omega⟩ (fun c9 => ?_) (fun c9 => ?_)
    · skip
      refine g_lconst (z := 0) hx hb dX2_balanceOf_27 (by decide) ?_
      refine g_lret hx hb hr hlk hK hM dX2_balanceOf_28 ?_
      refine ⟨congrArg zL ?_, rfl⟩
      rw [if_neg (by omega)]
    · skip
      refine lv_iload_n hx hb dX2_balanceOf_12 rfl (lv_at hl 1 rfl) ?_
      refine g_bipush hx hb dX2_balanceOf_13 (by decide) ?_
      refine g_icmp_ge (tgt := 27) hx hb dX2_balanceOf_15 (by decide) hrx (by decide) (fun c15 => ?_) (fun c15 => ?_)
      · skip
        refine g_lconst (z := 0) hx hb dX2_balanceOf_27 (by decide) ?_
        refine g_lret hx hb hr hlk hK hM dX2_balanceOf_28 ?_
        refine ⟨congrArg zL ?_, rfl⟩
        rw [if_neg (by omega)]
      · skip
        refine lv_aload_n hx hb dX2_balanceOf_18 rfl (lv_at hl 0 rfl) ?_
        refine g_get (ci := 4) (v := .ref (h + 1)) (C := RX2) (T := TX2) (N := 5) hx hb hts iU_X2 hown hK hM ⟨by omega, by omega⟩ ho1 rfl 0 (by decide) (hts _ u_56) (fun _ h9 => h9) rfl dX2_balanceOf_19 ?_
        refine lv_iload_n hx hb dX2_balanceOf_22 rfl (lv_at hl 1 rfl) ?_
        refine g_lald hx hb hK hM ⟨by omega, by omega⟩ ho2 (by omega) (by omega) (by decide) dX2_balanceOf_23 ?_
        show W _ _ _ _ _ _ _ _ _ _ _ _ _ _ _ (F0 _ _ _ (.long (zL (P (11 + 4 * x.toNat))) :: _))
        refine lv_goto (tgt := 28) hx hb dX2_balanceOf_24 (by decide) ?_
        refine g_lret hx hb hr hlk hK hM dX2_balanceOf_28 ?_
        refine ⟨congrArg zL ?_, rfl⟩
        rw [if_pos (show 0 ≤ x ∧ x < P 7 from ⟨by omega, by omega⟩)]

def po_X5_moneyInG (g : gE) (f : gF) (h : Nat) (P : Nat → Int) (x : Int) : Int64 → gF → Prop := fun r f1 => r = zL (mOf P x) ∧ f = f1
set_option maxRecDepth 100000 in
set_option maxHeartbeats 1000000 in
/-- moneyIn of any place -/
theorem c_X5_moneyInG (l : Launch) (g : gE) (b0 n : Nat) (f : gF) (h : Nat) (P : Nat → Int) (x : Int) (hE : planAt g f h P) (hrg : b0 ≤ h ∧ h + 23 ≤ b0 + n) (hcn7 : 0 ≤ P 7 ∧ P 7 ≤ 10) (hrx : rI x) : cL l yX5_moneyIn cX5_moneyIn 2 (some .long) 1 21 [.ref h, .int (zI x)] g b0 n f (po_X5_moneyInG g f h P x) := by
  refine gs_l (cc := cX5_moneyIn) (maxL := 2) (ret := (some .long)) (by decide) (Nat.le_of_ble_eq_true rfl) ?_
  intro p e0 s m args below meth c ls hx hb hr hml hown hts hlk hK hM hl
  have hl : lv_has ls 2 [(0, .ref h), (1, .int (zI x))] := hl
  refine lv_iload_n hx hb dX5_moneyIn_0 rfl (lv_at hl 1 rfl) ?_
  refine g_iconst hx hb dX5_moneyIn_1 ?_
  refine g_icmp_ne (tgt := 12) hx hb dX5_moneyIn_2 (by decide) hrx (by decide) (fun c2 => ?_) (fun c2 => ?_)
  · skip
    refine lv_aload_n hx hb dX5_moneyIn_12 rfl (lv_at hl 0 rfl) ?_
    obtain ⟨ho1, ho2, ho3, ho4, ho5⟩ := id hE
    refine g_get (ci := 7) (v := .ref (h + 1)) (C := RX5) (T := TX5) (N := 11) hx hb hts iU_X5 hown hK hM ⟨by omega, by omega⟩ ho1 rfl 0 (by decide) (hts _ u_164) (fun _ h9 => h9) rfl dX5_moneyIn_13 ?_
    refine lv_iload_n hx hb dX5_moneyIn_16 rfl (lv_at hl 1 rfl) ?_
    have hC6 := c_X2_balanceOfG l g b0 n f (h + 1) P x ho2 ⟨by omega, by omega⟩ hcn7 hrx
    obtain ⟨ho9, ho10, ho11, ho12, ho13⟩ := id ho2
    refine g_callVl (ci := 4) (C := RX2) (T := TX2) (N := 5) (As := [.int (zI x)]) (rest := []) ⟨hx, hb, hml, hown, hts⟩ hK hM hC6 (cuV (n := 1) hts u_427 u_424 u_5 (by decide) u_425 u_426 ⟨Nat.le_of_ble_eq_true rfl, Nat.le_of_ble_eq_true rfl⟩) ⟨by omega, by omega⟩ ho9 rfl rfl hl.1 rfl (Nat.le_of_ble_eq_true rfl) dX5_moneyIn_17 ⟨Nat.zero_le _, Nat.zero_le _⟩ (fun r17 f7 H locs hM hp8 => ?_)
    obtain ⟨rfl, rfl⟩ := hp8
    refine g_lret hx hb hr hlk hK hM dX5_moneyIn_20 ?_
    refine ⟨congrArg zL ?_, rfl⟩
    unfold mOf sMon
    by_cases hz : 0 ≤ x ∧ x < P 7
    · rw [if_pos hz, if_pos (Or.inr hz), if_neg (by omega)]
    · rw [if_neg hz, if_neg (by omega)]
  · skip
    refine lv_aload_n hx hb dX5_moneyIn_5 rfl (lv_at hl 0 rfl) ?_
    obtain ⟨ho14, ho15, ho16, ho17, ho18⟩ := id hE
    refine g_get (ci := 7) (v := .long (zL (P 0))) (C := RX5) (T := TX5) (N := 11) hx hb hts iU_X5 hown hK hM ⟨by omega, by omega⟩ ho14 rfl 4 (by decide) (hts _ u_172) (fun _ h9 => h9) rfl dX5_moneyIn_6 ?_
    refine lv_goto (tgt := 20) hx hb dX5_moneyIn_9 (by decide) ?_
    refine g_lret hx hb hr hlk hK hM dX5_moneyIn_20 ?_
    refine ⟨congrArg zL ?_, rfl⟩
    unfold mOf sMon
    rw [if_pos (Or.inl (by omega)), if_pos (by omega)]

def po_X8_difference (g : gE) (f : gF) (h : Nat) (B P T : Nat → Nat → Int) (sc : Nat → Nat) (pr ex : Nat → Int) (ps : Nat) (sv rs an cs cr : Int) (x y a v0 : Int) : Int64 → gF → Prop := fun r f1 => (FD ex x ∧ FD ex y) ∧ (-1 ≤ a ∧ a ≤ 9) ∧ r = zL (mOf (P x.toNat) a - mOf (P y.toNat) a) ∧ f = f1
def px_X8_difference (g : gE) (f : gF) (h : Nat) (B P T : Nat → Nat → Int) (sc : Nat → Nat) (pr ex : Nat → Int) (ps : Nat) (sv rs an cs cr : Int) (x y a v0 : Int) : String → gF → Prop := fun E f1 => (E = exN3 ∧ ¬ (FD ex x ∧ FD ex y) ∧ f = f1) ∨ (E = exN2 ∧ (FD ex x ∧ FD ex y) ∧ ¬ (-1 ≤ a ∧ a ≤ 9) ∧ f = f1)
set_option maxRecDepth 100000 in
set_option maxHeartbeats 1000000 in
/-- difference -/
theorem c_X8_difference (l : Launch) (g : gE) (b0 n : Nat) (f : gF) (h : Nat) (B P T : Nat → Nat → Int) (sc : Nat → Nat) (pr ex : Nat → Int) (ps : Nat) (sv rs an cs cr : Int) (x y a v0 : Int) (hl9 : l.stackTraces = false) (hO : obP f h sv rs an cs cr) (hrg : b0 ≤ h ∧ h + 607 ≤ b0 + n) (hS : brsAt g f (h + 1) B P T (fun k => (↑(sc k) : Int)) pr ex (↑ps : Int)) (hex : ∀ k, k < 6 → ex k = 0 ∨ ex k = 1) (hps : ps < 6) (hpx : ex ps = 1) (hok : ∀ k, k < 6 → pOk (P k) v0) (hv1 : 0 ≤ v0) (hv0 : v0 + 1800 ≤ 800000000) (hrx : rI x) (hry : rI y) (hra : rI a) : cxL l yX8_difference cX8_difference 6 (some .long) 7 102 1 [.ref h, .int (zI x), .int (zI y), .int (zI a)] g b0 n f (po_X8_difference g f h B P T sc pr ex ps sv rs an cs cr x y a v0) (px_X8_difference g f h B P T sc pr ex ps sv rs an cs cr x y a v0) := by
  refine gs_xl (cc := cX8_difference) (maxL := 6) (ret := (some .long)) (by decide) (Nat.le_of_ble_eq_true rfl) ?_
  intro p e0 s m args below meth c ls hx hb hr hml hown hts hlk hxt hE hK hM hl
  have hl : lv_has ls 6 [(0, .ref h), (1, .int (zI x)), (2, .int (zI y)), (3, .int (zI a))] := hl
  refine lv_aload_n hx hb dX8_difference_0 rfl (lv_at hl 0 rfl) ?_
  refine g_get (ci := 10) (v := .ref (h + 1)) (C := RX8) (T := TX8) (N := 9) hx hb hts iU_X8 hown hK hM ⟨by omega, by omega⟩ hO rfl 0 (by decide) (hts _ u_275) (fun _ h9 => h9) rfl dX8_difference_1 ?_
  refine lv_iload_n hx hb dX8_difference_4 rfl (lv_at hl 1 rfl) ?_
  have hC1 := c_X1_branchOrNull l g b0 n f (h + 1) B P T (fun k => (↑(sc k) : Int)) pr ex ps x hS ⟨by omega, by omega⟩ hex hrx
  obtain ⟨ho4, ho5, ho6⟩ := id hS
  refine g_callVq (ci := 3) (C := RX1) (T := TX1) (N := 3) (As := [.int (zI x)]) (rest := []) ⟨hx, hb, hml, hown, hts⟩ hK hM hC1 (cuV (n := 1) hts u_370 u_1002 u_2 (by decide) u_368 u_369 ⟨Nat.le_of_ble_eq_true rfl, Nat.le_of_ble_eq_true rfl⟩) ⟨by omega, by omega⟩ ho4 rfl rfl hl.1 rfl (Nat.le_of_ble_eq_true rfl) dX8_difference_5 ⟨Nat.le_of_ble_eq_true rfl, Nat.le_of_ble_eq_true rfl⟩ (fun r5 f2 H locs hM hp3 => ?_)
  obtain ⟨rfl, rfl⟩ := hp3
  unfold fdR
  by_cases cs5 : (0 ≤ x ∧ x < 6 ∧ ex x.toNat = 1)
  · rw [if_pos cs5]
    refine lv_astore (lv' := [(4, .ref (brB (h + 1) x.toNat)), (0, .ref h), (1, .int (zI x)), (2, .int (zI y)), (3, .int (zI a))]) hx hb dX8_difference_8 hl (by decide) rfl (fun ls hl => ?_)
    refine lv_aload_n hx hb dX8_difference_10 rfl (lv_at hl 1 rfl) ?_
    refine g_get (ci := 10) (v := .ref (h + 1)) (C := RX8) (T := TX8) (N := 9) hx hb hts iU_X8 hown hK hM ⟨by omega, by omega⟩ hO rfl 0 (by decide) (hts _ u_275) (fun _ h9 => h9) rfl dX8_difference_11 ?_
    refine lv_iload_n hx hb dX8_difference_14 rfl (lv_at hl 3 rfl) ?_
    have hC7 := c_X1_branchOrNull l g b0 n f (h + 1) B P T (fun k => (↑(sc k) : Int)) pr ex ps y hS ⟨by omega, by omega⟩ hex hry
    refine g_callVq (ci := 3) (C := RX1) (T := TX1) (N := 3) (As := [.int (zI y)]) (rest := []) ⟨hx, hb, hml, hown, hts⟩ hK hM hC7 (cuV (n := 1) hts u_370 u_1002 u_2 (by decide) u_368 u_369 ⟨Nat.le_of_ble_eq_true rfl, Nat.le_of_ble_eq_true rfl⟩) ⟨by omega, by omega⟩ ho4 rfl rfl hl.1 rfl (Nat.le_of_ble_eq_true rfl) dX8_difference_15 ⟨Nat.le_of_ble_eq_true rfl, Nat.le_of_ble_eq_true rfl⟩ (fun r15 f8 H locs hM hp9 => ?_)
    obtain ⟨rfl, rfl⟩ := hp9
    unfold fdR
    by_cases cs15 : (0 ≤ y ∧ y < 6 ∧ ex y.toNat = 1)
    · rw [if_pos cs15]
      refine lv_astore (lv' := [(5, .ref (brB (h + 1) y.toNat)), (4, .ref (brB (h + 1) x.toNat)), (0, .ref h), (1, .int (zI x)), (2, .int (zI y)), (3, .int (zI a))]) hx hb dX8_difference_18 hl (by decide) rfl (fun ls hl => ?_)
      refine lv_aload hx hb dX8_difference_20 (lv_at hl 1 rfl) ?_
      refine lv_ifnull hx hb dX8_difference_22 ?_
      refine lv_aload hx hb dX8_difference_25 (lv_at hl 0 rfl) ?_
      refine lv_ifnonnull (tgt := 40) hx hb dX8_difference_27 (by decide) ?_
      refine lv_iload_n hx hb dX8_difference_40 rfl (lv_at hl 5 rfl) ?_
      refine g_iconst hx hb dX8_difference_41 ?_
      refine g_bipush hx hb dX8_difference_42 (by decide) ?_
      have hC10 := c_X8_isWithin l g b0 n f a (-1) 9 hra (by decide) (by decide)
      refine g_callSi (As := [.int (zI a), .int (zI (-1)), .int (zI 9)]) (rest := []) ⟨hx, hb, hml, hown, hts⟩ hK hM hC10 (cuS (n := 3) hts u_406 u_824 u_1 (by decide) u_405 ⟨Nat.le_of_ble_eq_true rfl, Nat.le_of_ble_eq_true rfl⟩) rfl hl.1 rfl (Nat.le_of_ble_eq_true rfl) dX8_difference_44 ⟨Nat.le_of_ble_eq_true rfl, Nat.le_of_ble_eq_true rfl⟩ (fun r44 f11 H locs hM hp12 => ?_)
      obtain ⟨rfl, rfl⟩ := hp12
      have hC13 := c_X8_requirePart l g b0 n f ((-1) ≤ a ∧ a ≤ 9) hl9
      refine gx_callSv (As := [.int (bI ((-1) ≤ a ∧ a ≤ 9))]) (rest := []) ⟨hx, hb, hml, hown, hts⟩ hK hM hE hC13 (cuSx (n := 1) hts u_822 u_820 u_1 (by decide) u_821 ⟨Nat.le_of_ble_eq_true rfl, Nat.le_of_ble_eq_true rfl⟩) rfl hl.1 rfl (Nat.le_of_ble_eq_true rfl) dX8_difference_47 ⟨(Nat.le_of_ble_eq_true rfl), (Nat.le_of_ble_eq_true rfl)⟩ (fun E9 ce9 q9 f14 H locs hM hp15 h91 h92 h93 => gx_pass hxt hlk hK hM ?_ h91 h92 h93 (by decide) (by decide)) (fun f14 H locs hM hp15 => ?_)
      · skip
        obtain ⟨hE9, hn9, rfl⟩ := hp15
        exact Or.inr ⟨hE9, ⟨cs5, cs15⟩, hn9, rfl⟩
      · skip
        obtain ⟨hrq16, rfl⟩ := hp15
        have hbb17 := brB_in (h := h + 1) (k := x.toNat) (by omega)
        have hbr17 := hS.2.2 x.toNat (by omega)
        have hbb18 := brB_in (h := h + 1) (k := y.toNat) (by omega)
        have hbr18 := hS.2.2 y.toNat (by omega)
        refine lv_aload hx hb dX8_difference_50 (lv_at hl 1 rfl) ?_
        obtain ⟨ho19, ho20, ho21, ho22⟩ := id hbr17
        refine g_getN (ci := 2) (v := .ref ((brB (h + 1) x.toNat) + 24)) (C := RX0) (T := TX0) (N := 6) hx hb hts iU_X0 hown hK hM ⟨by omega, by omega⟩ ho19 rfl 1 (by decide) (hts _ u_210) (fun _ h9 => h9) rfl dX8_difference_52 ?_
        refine lv_iload_n hx hb dX8_difference_55 rfl (lv_at hl 5 rfl) ?_
        have hC23 := c_X5_moneyInG l g b0 n f ((brB (h + 1) x.toNat) + 24) (P x.toNat) a ho21 ⟨by omega, by omega⟩ (hok x.toNat (by omega)).1.1 hra
        obtain ⟨ho26, ho27, ho28, ho29, ho30⟩ := id ho21
        refine g_callVl (ci := 7) (C := RX5) (T := TX5) (N := 11) (As := [.int (zI a)]) (rest := []) ⟨hx, hb, hml, hown, hts⟩ hK hM hC23 (cuV (n := 1) hts u_431 u_859 u_4 (by decide) u_429 u_430 ⟨Nat.le_of_ble_eq_true rfl, Nat.le_of_ble_eq_true rfl⟩) ⟨by omega, by omega⟩ ho26 rfl rfl hl.1 rfl (Nat.le_of_ble_eq_true rfl) dX8_difference_56 ⟨Nat.le_of_ble_eq_true rfl, Nat.le_of_ble_eq_true rfl⟩ (fun r56 f24 H locs hM hp25 => ?_)
        obtain ⟨rfl, rfl⟩ := hp25
        refine lv_aload hx hb dX8_difference_59 (lv_at hl 0 rfl) ?_
        obtain ⟨ho31, ho32, ho33, ho34⟩ := id hbr18
        refine g_getN (ci := 2) (v := .ref ((brB (h + 1) y.toNat) + 24)) (C := RX0) (T := TX0) (N := 6) hx hb hts iU_X0 hown hK hM ⟨by omega, by omega⟩ ho31 rfl 1 (by decide) (hts _ u_210) (fun _ h9 => h9) rfl dX8_difference_61 ?_
        refine lv_iload_n hx hb dX8_difference_64 rfl (lv_at hl 5 rfl) ?_
        have hC35 := c_X5_moneyInG l g b0 n f ((brB (h + 1) y.toNat) + 24) (P y.toNat) a ho33 ⟨by omega, by omega⟩ (hok y.toNat (by omega)).1.1 hra
        obtain ⟨ho38, ho39, ho40, ho41, ho42⟩ := id ho33
        refine g_callVl (ci := 7) (C := RX5) (T := TX5) (N := 11) (As := [.int (zI a)]) (rest := [.long (zL (mOf (P x.toNat) a))]) ⟨hx, hb, hml, hown, hts⟩ hK hM hC35 (cuV (n := 1) hts u_431 u_859 u_4 (by decide) u_429 u_430 ⟨Nat.le_of_ble_eq_true rfl, Nat.le_of_ble_eq_true rfl⟩) ⟨by omega, by omega⟩ ho38 rfl rfl hl.1 rfl (Nat.le_of_ble_eq_true rfl) dX8_difference_65 ⟨Nat.le_of_ble_eq_true rfl, Nat.le_of_ble_eq_true rfl⟩ (fun r65 f36 H locs hM hp37 => ?_)
        obtain ⟨rfl, rfl⟩ := hp37
        refine g_lsub hx hb dX8_difference_68 ?_
        refine gx_lret hx hb hr hlk hK hM dX8_difference_69 (by decide) (by decide) ?_
        exact ⟨⟨cs5, cs15⟩, hrq16, rfl, rfl⟩
    · rw [if_neg cs15]
      refine lv_astoreN (lv' := [(5, .null), (4, .ref (brB (h + 1) x.toNat)), (0, .ref h), (1, .int (zI x)), (2, .int (zI y)), (3, .int (zI a))]) hx hb dX8_difference_18 hl (by decide) rfl (fun ls hl => ?_)
      refine lv_aload hx hb dX8_difference_20 (lv_at hl 1 rfl) ?_
      refine lv_ifnull hx hb dX8_difference_22 ?_
      refine lv_aloadN hx hb dX8_difference_25 (lv_at hl 0 rfl) ?_
      refine lv_ifnonnullN hx hb dX8_difference_27 ?_
      refine gx_throwSN (is := 216) (text := "no such branch") hx hb hl9 hown hlk hts hxt hE hK hM (hl.1.trans hml.symm) (by decide +kernel) u_943 u_22 (by decide +kernel) dX8_difference_30 dX8_difference_33 dX8_difference_34 dX8_difference_36 dX8_difference_39 ⟨by decide, by decide, by decide, by decide⟩ (by decide) (by decide) ?_
      first | exact Or.inl ⟨rfl, fun hh => cs5 hh.1, rfl⟩ | exact Or.inl ⟨rfl, fun hh => cs15 hh.2, rfl⟩
  · rw [if_neg cs5]
    refine lv_astoreN (lv' := [(4, .null), (0, .ref h), (1, .int (zI x)), (2, .int (zI y)), (3, .int (zI a))]) hx hb dX8_difference_8 hl (by decide) rfl (fun ls hl => ?_)
    refine lv_aload_n hx hb dX8_difference_10 rfl (lv_at hl 1 rfl) ?_
    refine g_get (ci := 10) (v := .ref (h + 1)) (C := RX8) (T := TX8) (N := 9) hx hb hts iU_X8 hown hK hM ⟨by omega, by omega⟩ hO rfl 0 (by decide) (hts _ u_275) (fun _ h9 => h9) rfl dX8_difference_11 ?_
    refine lv_iload_n hx hb dX8_difference_14 rfl (lv_at hl 3 rfl) ?_
    have hC43 := c_X1_branchOrNull l g b0 n f (h + 1) B P T (fun k => (↑(sc k) : Int)) pr ex ps y hS ⟨by omega, by omega⟩ hex hry
    refine g_callVq (ci := 3) (C := RX1) (T := TX1) (N := 3) (As := [.int (zI y)]) (rest := []) ⟨hx, hb, hml, hown, hts⟩ hK hM hC43 (cuV (n := 1) hts u_370 u_1002 u_2 (by decide) u_368 u_369 ⟨Nat.le_of_ble_eq_true rfl, Nat.le_of_ble_eq_true rfl⟩) ⟨by omega, by omega⟩ ho4 rfl rfl hl.1 rfl (Nat.le_of_ble_eq_true rfl) dX8_difference_15 ⟨Nat.le_of_ble_eq_true rfl, Nat.le_of_ble_eq_true rfl⟩ (fun r15 f44 H locs hM hp45 => ?_)
    obtain ⟨rfl, rfl⟩ := hp45
    unfold fdR
    by_cases cs15 : (0 ≤ y ∧ y < 6 ∧ ex y.toNat = 1)
    · rw [if_pos cs15]
      refine lv_astore (lv' := [(5, .ref (brB (h + 1) y.toNat)), (4, .null), (0, .ref h), (1, .int (zI x)), (2, .int (zI y)), (3, .int (zI a))]) hx hb dX8_difference_18 hl (by decide) rfl (fun ls hl => ?_)
      refine lv_aloadN hx hb dX8_difference_20 (lv_at hl 1 rfl) ?_
      refine lv_ifnullN (tgt := 30) hx hb dX8_difference_22 (by decide) ?_
      refine gx_throwSN (is := 216) (text := "no such branch") hx hb hl9 hown hlk hts hxt hE hK hM (hl.1.trans hml.symm) (by decide +kernel) u_943 u_22 (by decide +kernel) dX8_difference_30 dX8_difference_33 dX8_difference_34 dX8_difference_36 dX8_difference_39 ⟨by decide, by decide, by decide, by decide⟩ (by decide) (by decide) ?_
      first | exact Or.inl ⟨rfl, fun hh => cs5 hh.1, rfl⟩ | exact Or.inl ⟨rfl, fun hh => cs15 hh.2, rfl⟩
    · rw [if_neg cs15]
      refine lv_astoreN (lv' := [(5, .null), (4, .null), (0, .ref h), (1, .int (zI x)), (2, .int (zI y)), (3, .int (zI a))]) hx hb dX8_difference_18 hl (by decide) rfl (fun ls hl => ?_)
      refine lv_aloadN hx hb dX8_difference_20 (lv_at hl 1 rfl) ?_
      refine lv_ifnullN (tgt := 30) hx hb dX8_difference_22 (by decide) ?_
      refine gx_throwSN (is := 216) (text := "no such branch") hx hb hl9 hown hlk hts hxt hE hK hM (hl.1.trans hml.symm) (by decide +kernel) u_943 u_22 (by decide +kernel) dX8_difference_30 dX8_difference_33 dX8_difference_34 dX8_difference_36 dX8_difference_39 ⟨by decide, by decide, by decide, by decide⟩ (by decide) (by decide) ?_
      first | exact Or.inl ⟨rfl, fun hh => cs5 hh.1, rfl⟩ | exact Or.inl ⟨rfl, fun hh => cs15 hh.2, rfl⟩

def po_X8_branch (g : gE) (f : gF) (h : Nat) (B P T : Nat → Nat → Int) (sc : Nat → Nat) (pr ex : Nat → Int) (ps : Nat) (sv rs an cs cr : Int) (a b v0 : Int) : Int64 → gF → Prop := fun r f1 => FD ex a ∧ (0 ≤ b ∧ b ≤ 5) ∧ r = zL (brV B P T sc pr ex a b) ∧ f = f1
def px_X8_branch (g : gE) (f : gF) (h : Nat) (B P T : Nat → Nat → Int) (sc : Nat → Nat) (pr ex : Nat → Int) (ps : Nat) (sv rs an cs cr : Int) (a b v0 : Int) : String → gF → Prop := fun E f1 => (E = exN3 ∧ ¬ FD ex a ∧ f = f1) ∨ (E = exN0 ∧ FD ex a ∧ ¬ (0 ≤ b ∧ b ≤ 5) ∧ f = f1)
set_option maxRecDepth 100000 in
set_option maxHeartbeats 1000000 in
/-- branch -/
theorem c_X8_branch (l : Launch) (g : gE) (b0 n : Nat) (f : gF) (h : Nat) (B P T : Nat → Nat → Int) (sc : Nat → Nat) (pr ex : Nat → Int) (ps : Nat) (sv rs an cs cr : Int) (a b v0 : Int) (hl9 : l.stackTraces = false) (hO : obP f h sv rs an cs cr) (hrg : b0 ≤ h ∧ h + 607 ≤ b0 + n) (hS : brsAt g f (h + 1) B P T (fun k => (↑(sc k) : Int)) pr ex (↑ps : Int)) (hex : ∀ k, k < 6 → ex k = 0 ∨ ex k = 1) (hps : ps < 6) (hpx : ex ps = 1) (hok : ∀ k, k < 6 → pOk (P k) v0) (hv1 : 0 ≤ v0) (hv0 : v0 + 1800 ≤ 800000000) (hpri : ∀ k, k < 6 → rI (pr k)) (hsc : ∀ k, k < 6 → sc k ≤ 60) (hra : rI a) (hrb : rI b) : cxL l yX8_branch cX8_branch 4 (some .long) 7 102 1 [.ref h, .int (zI a), .int (zI b)] g b0 n f (po_X8_branch g f h B P T sc pr ex ps sv rs an cs cr a b v0) (px_X8_branch g f h B P T sc pr ex ps sv rs an cs cr a b v0) := by
  refine gs_xl (cc := cX8_branch) (maxL := 4) (ret := (some .long)) (by decide) (Nat.le_of_ble_eq_true rfl) ?_
  intro p e0 s m args below meth c ls hx hb hr hml hown hts hlk hxt hE hK hM hl
  have hl : lv_has ls 4 [(0, .ref h), (1, .int (zI a)), (2, .int (zI b))] := hl
  refine lv_aload_n hx hb dX8_branch_0 rfl (lv_at hl 0 rfl) ?_
  refine g_get (ci := 10) (v := .ref (h + 1)) (C := RX8) (T := TX8) (N := 9) hx hb hts iU_X8 hown hK hM ⟨by omega, by omega⟩ hO rfl 0 (by decide) (hts _ u_275) (fun _ h9 => h9) rfl dX8_branch_1 ?_
  refine lv_iload_n hx hb dX8_branch_4 rfl (lv_at hl 1 rfl) ?_
  have hC1 := c_X1_branchOrNull l g b0 n f (h + 1) B P T (fun k => (↑(sc k) : Int)) pr ex ps a hS ⟨by omega, by omega⟩ hex hra
  obtain ⟨ho4, ho5, ho6⟩ := id hS
  refine g_callVq (ci := 3) (C := RX1) (T := TX1) (N := 3) (As := [.int (zI a)]) (rest := []) ⟨hx, hb, hml, hown, hts⟩ hK hM hC1 (cuV (n := 1) hts u_370 u_1002 u_2 (by decide) u_368 u_369 ⟨Nat.le_of_ble_eq_true rfl, Nat.le_of_ble_eq_true rfl⟩) ⟨by omega, by omega⟩ ho4 rfl rfl hl.1 rfl (Nat.le_of_ble_eq_true rfl) dX8_branch_5 ⟨Nat.le_of_ble_eq_true rfl, Nat.le_of_ble_eq_true rfl⟩ (fun r5 f2 H locs hM hp3 => ?_)
  obtain ⟨rfl, rfl⟩ := hp3
  unfold fdR
  by_cases cs5 : (0 ≤ a ∧ a < 6 ∧ ex a.toNat = 1)
  · rw [if_pos cs5]
    refine lv_astore_n (lv' := [(3, .ref (brB (h + 1) a.toNat)), (0, .ref h), (1, .int (zI a)), (2, .int (zI b))]) hx hb dX8_branch_8 rfl hl (by decide) rfl (fun ls hl => ?_)
    refine lv_aload_n hx hb dX8_branch_9 rfl (lv_at hl 0 rfl) ?_
    refine lv_ifnonnull (tgt := 23) hx hb dX8_branch_10 (by decide) ?_
    have hbb7 := brB_in (h := h + 1) (k := a.toNat) (by omega)
    have hbr7 := hS.2.2 a.toNat (by omega)
    have hprr := hpri a.toNat (by omega)
    have hsca := hsc a.toNat (by omega)
    have hp1 := pOk_P1 (hok a.toNat (by omega))
    have hp1a := hp1.1
    have hp1b := hp1.2
    refine lv_iload_n hx hb dX8_branch_23 rfl (lv_at hl 3 rfl) ?_
    refine g_iconst hx hb dX8_branch_24 ?_
    refine g_iconst hx hb dX8_branch_25 ?_
    have hC8 := c_X8_isWithin l g b0 n f b 0 5 hrb (by decide) (by decide)
    refine g_callSi (As := [.int (zI b), .int (zI 0), .int (zI 5)]) (rest := []) ⟨hx, hb, hml, hown, hts⟩ hK hM hC8 (cuS (n := 3) hts u_406 u_824 u_1 (by decide) u_405 ⟨Nat.le_of_ble_eq_true rfl, Nat.le_of_ble_eq_true rfl⟩) rfl hl.1 rfl (Nat.le_of_ble_eq_true rfl) dX8_branch_26 ⟨Nat.le_of_ble_eq_true rfl, Nat.le_of_ble_eq_true rfl⟩ (fun r26 f9 H locs hM hp10 => ?_)
    obtain ⟨rfl, rfl⟩ := hp10
    have hC11 := c_X8_requireRange l g b0 n f (0 ≤ b ∧ b ≤ 5) hl9
    refine gx_callSv (As := [.int (bI (0 ≤ b ∧ b ≤ 5))]) (rest := []) ⟨hx, hb, hml, hown, hts⟩ hK hM hE hC11 (cuSx (n := 1) hts u_827 u_825 u_1 (by decide) u_826 ⟨Nat.le_of_ble_eq_true rfl, Nat.le_of_ble_eq_true rfl⟩) rfl hl.1 rfl (Nat.le_of_ble_eq_true rfl) dX8_branch_29 ⟨(Nat.le_of_ble_eq_true rfl), (Nat.le_of_ble_eq_true rfl)⟩ (fun E9 ce9 q9 f12 H locs hM hp13 h91 h92 h93 => gx_pass hxt hlk hK hM ?_ h91 h92 h93 (by decide) (by decide)) (fun f12 H locs hM hp13 => ?_)
    · skip
      obtain ⟨hE9, hn9, rfl⟩ := hp13
      exact Or.inr ⟨hE9, cs5, hn9, rfl⟩
    · skip
      obtain ⟨hrq14, rfl⟩ := hp13
      refine lv_iload_n hx hb dX8_branch_32 rfl (lv_at hl 3 rfl) ?_
      have hz33 := zI_toInt (z := b) hrb
      rcases g_sw (0) (4) b with c33 | c33
      · refine lv_tableOut (tgt := 109) hx hb dX8_branch_33 (by rw [hz33]; exact c33) (by decide) ?_
        refine lv_aload_n hx hb dX8_branch_109 rfl (lv_at hl 0 rfl) ?_
        obtain ⟨ho15, ho16, ho17, ho18⟩ := id hbr7
        refine g_getN (ci := 2) (v := .ref ((brB (h + 1) a.toNat) + 24)) (C := RX0) (T := TX0) (N := 6) hx hb hts iU_X0 hown hK hM ⟨by omega, by omega⟩ ho15 rfl 1 (by decide) (hts _ u_210) (fun _ h9 => h9) rfl dX8_branch_110 ?_
        obtain ⟨ho19, ho20, ho21, ho22, ho23⟩ := id ho17
        refine g_getN (ci := 7) (v := .int (zI ((P a.toNat) 1))) (C := RX5) (T := TX5) (N := 11) hx hb hts iU_X5 hown hK hM ⟨by omega, by omega⟩ ho19 rfl 5 (by decide) (hts _ u_175) (fun _ h9 => h9) rfl dX8_branch_113 ?_
        refine g_i2l hx hb dX8_branch_116 ⟨by omega, by omega⟩ ?_
        refine gx_lret hx hb hr hlk hK hM dX8_branch_117 (by decide) (by decide) ?_
        refine ⟨cs5, hrq14, congrArg zL ?_, rfl⟩
        unfold brV
        rw [if_neg (show ¬ b = 0 by omega), if_neg (show ¬ b = 1 by omega), if_neg (show ¬ b = 2 by omega), if_neg (show ¬ b = 3 by omega), if_neg (show ¬ b = 4 by omega)]
      · rcases (show b = 0 ∨ b = 1 ∨ b = 2 ∨ b = 3 ∨ b = 4 by omega) with c33 | c33 | c33 | c33 | c33
        · refine lv_tableIn (off := 35) (tgt := 68) hx hb dX8_branch_33 (by rw [hz33, c33]; decide) (by rw [hz33, c33]; decide) (by rw [hz33, c33]; decide) (by decide) ?_
          refine lv_aload_n hx hb dX8_branch_68 rfl (lv_at hl 0 rfl) ?_
          obtain ⟨ho24, ho25, ho26, ho27⟩ := id hbr7
          refine g_getN (ci := 2) (v := .int (zI (pr a.toNat))) (C := RX0) (T := TX0) (N := 6) hx hb hts iU_X0 hown hK hM ⟨by omega, by omega⟩ ho24 rfl 4 (by decide) (hts _ u_216) (fun _ h9 => h9) rfl dX8_branch_69 ?_
          refine g_i2l hx hb dX8_branch_72 hprr ?_
          refine gx_lret hx hb hr hlk hK hM dX8_branch_73 (by decide) (by decide) ?_
          refine ⟨cs5, hrq14, congrArg zL ?_, rfl⟩
          unfold brV
          rw [if_pos (show b = 0 by omega)]
        · refine lv_tableIn (off := 41) (tgt := 74) hx hb dX8_branch_33 (by rw [hz33, c33]; decide) (by rw [hz33, c33]; decide) (by rw [hz33, c33]; decide) (by decide) ?_
          refine lv_aload_n hx hb dX8_branch_74 rfl (lv_at hl 0 rfl) ?_
          obtain ⟨ho28, ho29, ho30, ho31⟩ := id hbr7
          refine g_getN (ci := 2) (v := .int (zI (↑(sc a.toNat) : Int))) (C := RX0) (T := TX0) (N := 6) hx hb hts iU_X0 hown hK hM ⟨by omega, by omega⟩ ho28 rfl 3 (by decide) (hts _ u_213) (fun _ h9 => h9) rfl dX8_branch_75 ?_
          refine g_i2l hx hb dX8_branch_78 ⟨by omega, by omega⟩ ?_
          refine gx_lret hx hb hr hlk hK hM dX8_branch_79 (by decide) (by decide) ?_
          refine ⟨cs5, hrq14, congrArg zL ?_, rfl⟩
          unfold brV
          rw [if_neg (show ¬ b = 0 by omega), if_pos (show b = 1 by omega)]
        · refine lv_tableIn (off := 47) (tgt := 80) hx hb dX8_branch_33 (by rw [hz33, c33]; decide) (by rw [hz33, c33]; decide) (by rw [hz33, c33]; decide) (by decide) ?_
          refine lv_aload_n hx hb dX8_branch_80 rfl (lv_at hl 1 rfl) ?_
          refine g_get (ci := 10) (v := .ref (h + 1)) (C := RX8) (T := TX8) (N := 9) hx hb hts iU_X8 hown hK hM ⟨by omega, by omega⟩ hO rfl 0 (by decide) (hts _ u_275) (fun _ h9 => h9) rfl dX8_branch_81 ?_
          refine lv_iload_n hx hb dX8_branch_84 rfl (lv_at hl 2 rfl) ?_
          have hC32 := c_X1_childrenOf l g b0 n f (h + 1) B P T (fun k => (↑(sc k) : Int)) pr ex ps a hS ⟨by omega, by omega⟩ hex hpri hra
          refine g_callVi (ci := 3) (C := RX1) (T := TX1) (N := 3) (As := [.int (zI a)]) (rest := []) ⟨hx, hb, hml, hown, hts⟩ hK hM hC32 (cuV (n := 1) hts u_1018 u_1078 u_2 (by decide) u_1016 u_1017 ⟨Nat.le_of_ble_eq_true rfl, Nat.le_of_ble_eq_true rfl⟩) ⟨by omega, by omega⟩ ho4 rfl rfl hl.1 rfl (Nat.le_of_ble_eq_true rfl) dX8_branch_85 ⟨Nat.le_of_ble_eq_true rfl, Nat.le_of_ble_eq_true rfl⟩ (fun r85 f33 H locs hM hp34 => ?_)
          obtain ⟨rfl, rfl⟩ := hp34
          refine g_i2l hx hb dX8_branch_88 (by have := sChd_in (pr := pr) (ex := ex) (x := a) 6; exact ⟨by omega, by omega⟩) ?_
          refine gx_lret hx hb hr hlk hK hM dX8_branch_89 (by decide) (by decide) ?_
          refine ⟨cs5, hrq14, congrArg zL ?_, rfl⟩
          unfold brV
          rw [if_neg (show ¬ b = 0 by omega), if_neg (show ¬ b = 1 by omega), if_pos (show b = 2 by omega)]
        · refine lv_tableIn (off := 57) (tgt := 90) hx hb dX8_branch_33 (by rw [hz33, c33]; decide) (by rw [hz33, c33]; decide) (by rw [hz33, c33]; decide) (by decide) ?_
          refine lv_aload_n hx hb dX8_branch_90 rfl (lv_at hl 0 rfl) ?_
          obtain ⟨ho35, ho36, ho37, ho38⟩ := id hbr7
          refine g_getN (ci := 2) (v := .ref ((brB (h + 1) a.toNat) + 24)) (C := RX0) (T := TX0) (N := 6) hx hb hts iU_X0 hown hK hM ⟨by omega, by omega⟩ ho35 rfl 1 (by decide) (hts _ u_210) (fun _ h9 => h9) rfl dX8_branch_91 ?_
          obtain ⟨ho39, ho40, ho41, ho42, ho43⟩ := id ho37
          refine g_getN (ci := 7) (v := .long (zL ((P a.toNat) 0))) (C := RX5) (T := TX5) (N := 11) hx hb hts iU_X5 hown hK hM ⟨by omega, by omega⟩ ho39 rfl 4 (by decide) (hts _ u_173) (fun _ h9 => h9) rfl dX8_branch_94 ?_
          refine gx_lret hx hb hr hlk hK hM dX8_branch_97 (by decide) (by decide) ?_
          refine ⟨cs5, hrq14, congrArg zL ?_, rfl⟩
          unfold brV
          rw [if_neg (show ¬ b = 0 by omega), if_neg (show ¬ b = 1 by omega), if_neg (show ¬ b = 2 by omega), if_pos (show b = 3 by omega)]
        · refine lv_tableIn (off := 65) (tgt := 98) hx hb dX8_branch_33 (by rw [hz33, c33]; decide) (by rw [hz33, c33]; decide) (by rw [hz33, c33]; decide) (by decide) ?_
          refine lv_aload_n hx hb dX8_branch_98 rfl (lv_at hl 0 rfl) ?_
          obtain ⟨ho44, ho45, ho46, ho47⟩ := id hbr7
          refine g_getN (ci := 2) (v := .ref ((brB (h + 1) a.toNat) + 24)) (C := RX0) (T := TX0) (N := 6) hx hb hts iU_X0 hown hK hM ⟨by omega, by omega⟩ ho44 rfl 1 (by decide) (hts _ u_210) (fun _ h9 => h9) rfl dX8_branch_99 ?_
          obtain ⟨ho48, ho49, ho50, ho51, ho52⟩ := id ho46
          refine g_getN (ci := 7) (v := .ref ((brB (h + 1) a.toNat) + 24 + 1)) (C := RX5) (T := TX5) (N := 11) hx hb hts iU_X5 hown hK hM ⟨by omega, by omega⟩ ho48 rfl 0 (by decide) (hts _ u_165) (fun _ h9 => h9) rfl dX8_branch_102 ?_
          have hC53 := c_X2_sum l g b0 n f ((brB (h + 1) a.toNat) + 24 + 1) (P a.toNat) ho49 ⟨by omega, by omega⟩ (hok a.toNat (by omega)).1.1
          obtain ⟨ho56, ho57, ho58, ho59, ho60⟩ := id ho49
          refine g_callVl (ci := 4) (C := RX2) (T := TX2) (N := 5) (As := []) (rest := []) ⟨hx, hb, hml, hown, hts⟩ hK hM hC53 (cuV (n := 0) hts u_898 u_1079 u_5 (by decide) u_896 u_897 ⟨Nat.le_of_ble_eq_true rfl, Nat.le_of_ble_eq_true rfl⟩) ⟨by omega, by omega⟩ ho56 rfl rfl hl.1 rfl (Nat.le_of_ble_eq_true rfl) dX8_branch_105 ⟨Nat.le_of_ble_eq_true rfl, Nat.le_of_ble_eq_true rfl⟩ (fun r105 f54 H locs hM hp55 => ?_)
          obtain ⟨rfl, rfl⟩ := hp55
          refine gx_lret hx hb hr hlk hK hM dX8_branch_108 (by decide) (by decide) ?_
          refine ⟨cs5, hrq14, congrArg zL ?_, rfl⟩
          unfold brV
          rw [if_neg (show ¬ b = 0 by omega), if_neg (show ¬ b = 1 by omega), if_neg (show ¬ b = 2 by omega), if_neg (show ¬ b = 3 by omega), if_pos (show b = 4 by omega)]
  · rw [if_neg cs5]
    refine lv_astore_nN (lv' := [(3, .null), (0, .ref h), (1, .int (zI a)), (2, .int (zI b))]) hx hb dX8_branch_8 rfl hl (by decide) rfl (fun ls hl => ?_)
    refine lv_aload_nN hx hb dX8_branch_9 rfl (lv_at hl 0 rfl) ?_
    refine lv_ifnonnullN hx hb dX8_branch_10 ?_
    refine gx_throwSN (is := 216) (text := "no such branch") hx hb hl9 hown hlk hts hxt hE hK hM (hl.1.trans hml.symm) (by decide +kernel) u_943 u_22 (by decide +kernel) dX8_branch_13 dX8_branch_16 dX8_branch_17 dX8_branch_19 dX8_branch_22 ⟨by decide, by decide, by decide, by decide⟩ (by decide) (by decide) ?_
    exact Or.inl ⟨rfl, cs5, rfl⟩

def po_X8_discard (g : gE) (f : gF) (h : Nat) (B P T : Nat → Nat → Int) (sc : Nat → Nat) (pr ex : Nat → Int) (ps : Nat) (sv rs an cs cr : Int) (a : Int) : Int32 → gF → Prop := fun r f1 => FD ex a ∧ ¬ HELD pr ex ps a ∧ r = zI ↑(sc a.toNat) ∧ brsAt g f1 (h + 1) B P T (fun k => (↑(sc k) : Int)) pr (fu ex a.toNat 0) ↑ps ∧ ∀ q, (q < h + 1 ∨ h + 291 ≤ q) → f1 q = f q
def px_X8_discard (g : gE) (f : gF) (h : Nat) (B P T : Nat → Nat → Int) (sc : Nat → Nat) (pr ex : Nat → Int) (ps : Nat) (sv rs an cs cr : Int) (a : Int) : String → gF → Prop := fun E f1 => (E = exN3 ∧ ¬ FD ex a ∧ f = f1) ∨ (E = exN1 ∧ FD ex a ∧ HELD pr ex ps a ∧ f = f1)
set_option maxRecDepth 100000 in
set_option maxHeartbeats 1000000 in
/-- discard -/
theorem c_X8_discard (l : Launch) (g : gE) (b0 n : Nat) (f : gF) (h : Nat) (B P T : Nat → Nat → Int) (sc : Nat → Nat) (pr ex : Nat → Int) (ps : Nat) (sv rs an cs cr : Int) (a : Int) (hl9 : l.stackTraces = false) (hO : obP f h sv rs an cs cr) (hrg : b0 ≤ h ∧ h + 607 ≤ b0 + n) (hS : brsAt g f (h + 1) B P T (fun k => (↑(sc k) : Int)) pr ex (↑ps : Int)) (hex : ∀ k, k < 6 → ex k = 0 ∨ ex k = 1) (hps : ps < 6) (hpx : ex ps = 1) (hpri : ∀ k, k < 6 → rI (pr k)) (hra : rI a) : cxI l yX8_discard cX8_discard 3 (some .int) 6 82 1 [.ref h, .int (zI a)] g b0 n f (po_X8_discard g f h B P T sc pr ex ps sv rs an cs cr a) (px_X8_discard g f h B P T sc pr ex ps sv rs an cs cr a) := by
  refine gs_xi (cc := cX8_discard) (maxL := 3) (ret := (some .int)) (by decide) (Nat.le_of_ble_eq_true rfl) ?_
  intro p e0 s m args below meth c ls hx hb hr hml hown hts hlk hxt hE hK hM hl
  have hl : lv_has ls 3 [(0, .ref h), (1, .int (zI a))] := hl
  refine lv_aload_n hx hb dX8_discard_0 rfl (lv_at hl 0 rfl) ?_
  refine g_get (ci := 10) (v := .ref (h + 1)) (C := RX8) (T := TX8) (N := 9) hx hb hts iU_X8 hown hK hM ⟨by omega, by omega⟩ hO rfl 0 (by decide) (hts _ u_275) (fun _ h9 => h9) rfl dX8_discard_1 ?_
  refine lv_iload_n hx hb dX8_discard_4 rfl (lv_at hl 1 rfl) ?_
  have hC1 := c_X1_branchOrNull l g b0 n f (h + 1) B P T (fun k => (↑(sc k) : Int)) pr ex ps a hS ⟨by omega, by omega⟩ hex hra
  obtain ⟨ho4, ho5, ho6⟩ := id hS
  refine g_callVq (ci := 3) (C := RX1) (T := TX1) (N := 3) (As := [.int (zI a)]) (rest := []) ⟨hx, hb, hml, hown, hts⟩ hK hM hC1 (cuV (n := 1) hts u_370 u_1002 u_2 (by decide) u_368 u_369 ⟨Nat.le_of_ble_eq_true rfl, Nat.le_of_ble_eq_true rfl⟩) ⟨by omega, by omega⟩ ho4 rfl rfl hl.1 rfl (Nat.le_of_ble_eq_true rfl) dX8_discard_5 ⟨Nat.le_of_ble_eq_true rfl, Nat.le_of_ble_eq_true rfl⟩ (fun r5 f2 H locs hM hp3 => ?_)
  obtain ⟨rfl, rfl⟩ := hp3
  unfold fdR
  by_cases cs5 : (0 ≤ a ∧ a < 6 ∧ ex a.toNat = 1)
  · rw [if_pos cs5]
    refine lv_astore_n (lv' := [(2, .ref (brB (h + 1) a.toNat)), (0, .ref h), (1, .int (zI a))]) hx hb dX8_discard_8 rfl hl (by decide) rfl (fun ls hl => ?_)
    refine lv_aload_n hx hb dX8_discard_9 rfl (lv_at hl 0 rfl) ?_
    refine lv_ifnonnull (tgt := 23) hx hb dX8_discard_10 (by decide) ?_
    have hbb7 := brB_in (h := h + 1) (k := a.toNat) (by omega)
    have hbr7 := hS.2.2 a.toNat (by omega)
    refine lv_aload_n hx hb dX8_discard_23 rfl (lv_at hl 1 rfl) ?_
    refine g_get (ci := 10) (v := .ref (h + 1)) (C := RX8) (T := TX8) (N := 9) hx hb hts iU_X8 hown hK hM ⟨by omega, by omega⟩ hO rfl 0 (by decide) (hts _ u_275) (fun _ h9 => h9) rfl dX8_discard_24 ?_
    refine lv_iload_n hx hb dX8_discard_27 rfl (lv_at hl 2 rfl) ?_
    have hC8 := c_X1_isRemovable l g b0 n f (h + 1) B P T (fun k => (↑(sc k) : Int)) pr ex ps a hS ⟨by omega, by omega⟩ hex hpri hra hps (by have := sChd_in (pr := pr) (ex := ex) (x := a) 6; exact ⟨by omega, by omega⟩)
    refine g_callVi (ci := 3) (C := RX1) (T := TX1) (N := 3) (As := [.int (zI a)]) (rest := []) ⟨hx, hb, hml, hown, hts⟩ hK hM hC8 (cuV (n := 1) hts u_1014 u_1011 u_2 (by decide) u_1012 u_1013 ⟨Nat.le_of_ble_eq_true rfl, Nat.le_of_ble_eq_true rfl⟩) ⟨by omega, by omega⟩ ho4 rfl rfl hl.1 rfl (Nat.le_of_ble_eq_true rfl) dX8_discard_28 ⟨Nat.le_of_ble_eq_true rfl, Nat.le_of_ble_eq_true rfl⟩ (fun r28 f9 H locs hM hp10 => ?_)
    obtain ⟨rfl, rfl⟩ := hp10
    have hchd := sChd_in (pr := pr) (ex := ex) (x := a) 6
    refine g_ifb_ne (tgt := 44) hx hb dX8_discard_31 (by decide) (fun c31 => ?_) (fun c31 => ?_)
    · skip
      refine lv_aload_n hx hb dX8_discard_44 rfl (lv_at hl 0 rfl) ?_
      refine g_iconst hx hb dX8_discard_45 ?_
      obtain ⟨ho11, ho12, ho13, ho14⟩ := id hbr7
      refine g_putN (ci := 2) (v := .int (zI 0)) (ty := .boolean) (C := RX0) (T := TX0) (N := 6) hx hb hts iU_X0 tyX0 tyX0_ok nmX0 hown hK hM ⟨by omega, by omega⟩ ho11 rfl 5 (by decide) (hts _ u_219) (fun _ h9 => h9) rfl (by decide +kernel) (by decide) (by decide) (Nat.le_of_ble_eq_true rfl) dX8_discard_46 (fun f15 H locs hM hf17 o16 => ?_)
      have hf17 : f15 ((brB (h + 1) a.toNat)) = .inr (2, [.ref ((brB (h + 1) a.toNat) + 1), .ref ((brB (h + 1) a.toNat) + 24), .ref ((brB (h + 1) a.toNat) + 47), .int (zI (↑(sc a.toNat) : Int)), .int (zI (pr a.toNat)), .int (zI 0)]) := hf17
      refine lv_aload_n hx hb dX8_discard_49 rfl (lv_at hl 0 rfl) ?_
      refine g_getN (ci := 2) (v := .int (zI (↑(sc a.toNat) : Int))) (C := RX0) (T := TX0) (N := 6) hx hb hts iU_X0 hown hK hM ⟨by omega, by omega⟩ hf17 rfl 3 (by decide) (hts _ u_213) (fun _ h9 => h9) rfl dX8_discard_50 ?_
      have hf18 := ho12.kept (fun q h1 h2 => (o16 (q) (by omega)))
      have hf19 := ho13.kept (fun q h1 h2 => (o16 (q) (by omega)))
      have hf20 := ho14.kept (o16 ((brB (h + 1) a.toNat) + 47) (by omega))
      refine gx_iret hx hb hr hlk hK hM dX8_discard_53 (by decide) (by decide) ?_
      have hN : brAt g f15 (brB (h + 1) a.toNat) (B a.toNat) (P a.toNat) (T a.toNat) (↑(sc a.toNat) : Int) (pr a.toNat) (fu ex a.toNat 0 a.toNat) := by rw [fu_s]; exact ⟨hf17, hf18, hf19, hf20⟩
      exact ⟨cs5, by omega, rfl, hS.oneR (by omega) hN (fun q _ _ hq => o16 q (by omega)) (fun k hk hne => ⟨rfl, rfl, rfl, rfl, rfl, fu_n hne⟩), (fun q hq => (o16 (q) (by omega)))⟩
    · skip
      refine gx_throwS (is := 224) (text := "the branch cannot be removed") hx hb hl9 hown hlk hts hxt hE hK hM (hl.1.trans hml.symm) (by decide +kernel) u_690 u_16 (by decide +kernel) xk_1 xg_1 dX8_discard_34 dX8_discard_37 dX8_discard_38 dX8_discard_40 dX8_discard_43 ⟨by decide, by decide, by decide, by decide⟩ (by decide) (by decide) ?_
      exact Or.inr ⟨rfl, cs5, by omega, rfl⟩
  · rw [if_neg cs5]
    refine lv_astore_nN (lv' := [(2, .null), (0, .ref h), (1, .int (zI a))]) hx hb dX8_discard_8 rfl hl (by decide) rfl (fun ls hl => ?_)
    refine lv_aload_nN hx hb dX8_discard_9 rfl (lv_at hl 0 rfl) ?_
    refine lv_ifnonnullN hx hb dX8_discard_10 ?_
    refine gx_throwSN (is := 216) (text := "no such branch") hx hb hl9 hown hlk hts hxt hE hK hM (hl.1.trans hml.symm) (by decide +kernel) u_943 u_22 (by decide +kernel) dX8_discard_13 dX8_discard_16 dX8_discard_17 dX8_discard_19 dX8_discard_22 ⟨by decide, by decide, by decide, by decide⟩ (by decide) (by decide) ?_
    exact Or.inl ⟨rfl, cs5, rfl⟩
