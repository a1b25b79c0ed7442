def po_X2_sum (g : gE) (f : gF) (h : Nat) (P : Nat → Int) : Int64 → gF → Prop := fun r f1 => r = zL (sSum (fun k => P (11 + 4 * k)) (P 7).toNat) ∧ f = f1
set_option maxRecDepth 100000 in
set_option maxHeartbeats 4000000 in
/-- sum() -/
theorem c_X2_sum (l : Launch) (g : gE) (b0 n : Nat) (f : gF) (h : Nat) (P : Nat → Int) (hE : envAt g f h P) (hrg : b0 ≤ h ∧ h + 5 ≤ b0 + n) (hcn : 0 ≤ P 7 ∧ P 7 ≤ 10) : cL l yX2_sum cX2_sum 4 (some .long) 0 0 [.ref h] g b0 n f (po_X2_sum g f h P) := by
  refine gs_l (cc := cX2_sum) (maxL := 4) (ret := (some .long)) (by decide) (Nat.le_of_ble_eq_true rfl) ?_
  intro p e0 s m args below meth c ls hx hb hr hml hown hts hlk hK hM hl
  have hl : lv_has ls 4 [(0, .ref h)] := hl
  obtain ⟨hE0, hE1, hE2, hE3, hE4⟩ := hE
  have hzn := hcn.1
  have hzm := hcn.2
  refine g_lconst (z := 0) hx hb dX2_sum_0 (by decide) ?_
  refine lv_lstore_n (lv' := [(1, .long (zL 0)), (0, .ref h)]) hx hb dX2_sum_1 rfl hl (by decide) rfl (fun ls hl => ?_)
  refine g_iconst hx hb dX2_sum_2 ?_
  refine lv_istore_n (lv' := [(3, .int (zI 0)), (1, .long (zL 0)), (0, .ref h)]) hx hb dX2_sum_3 rfl hl (by decide) rfl (fun ls hl => ?_)
  have lp4 : ∀ (k : Nat), ∀ (i : Nat) (ls : Array Slot), (10 - i < k) → ((i : Int) ≤ P 7) → lv_has ls 4 [(0, .ref h), (1, .long (zL (sSum (fun k => P (11 + 4 * k)) i))), (3, .int (zI (↑i : Int)))] → W p l e0 { frames := 0, cells := 0, slots := 0, locals := 0 } s m args below meth c s.heap [] 0 0 (MQ below (va_Ql (po_X2_sum g f h P) (gB g b0 n) (gA b0)) args s 0 0 (gA b0)) (F0 m 4 ls []) := by
    intro k
    induction k with
    | zero =>
      intro i ls hk hi hl
      exact absurd hk (Nat.not_lt_zero _)
    | succ k ih =>
      intro i ls hk hi hl
      refine lv_iload_n hx hb dX2_sum_4 rfl (lv_at hl 2 rfl) ?_
      refine lv_aload_n hx hb dX2_sum_5 rfl (lv_at hl 0 rfl) ?_
      refine g_get (ci := 4) (v := .int (zI (P 7))) (C := RX2) (T := TX2) (N := 5) hx hb hts iU_X2 hown hK hM ⟨by omega, by omega⟩ hE0 rfl 4 (by decide) (hts _ u_60) (fun _ h9 => h9) rfl dX2_sum_6 ?_
      refine g_icmp_ge (tgt := 33) hx hb dX2_sum_9 (by decide) ⟨by omega, by omega⟩ ⟨by omega, by omega⟩ (fun c9 => ?_) (fun c9 => ?_)
      · skip
        refine lv_lload_n hx hb dX2_sum_33 rfl (lv_at hl 1 rfl) ?_
        refine g_lret hx hb hr hlk hK hM dX2_sum_34 ?_
        refine ⟨?_, rfl⟩
        have hi2 : i = (P 7).toNat := by omega
        rw [hi2]
      · skip
        refine lv_iload_n hx hb dX2_sum_12 rfl (lv_at hl 2 rfl) ?_
        refine g_bipush hx hb dX2_sum_13 (by decide) ?_
        refine g_icmp_ge (tgt := 33) hx hb dX2_sum_15 (by decide) ⟨by omega, by omega⟩ (by decide) (fun c15 => ?_) (fun c15 => ?_)
        · skip
          refine lv_lload_n hx hb dX2_sum_33 rfl (lv_at hl 1 rfl) ?_
          refine g_lret hx hb hr hlk hK hM dX2_sum_34 ?_
          refine ⟨?_, rfl⟩
          have hi2 : i = (P 7).toNat := by omega
          rw [hi2]
        · skip
          refine lv_lload_n hx hb dX2_sum_18 rfl (lv_at hl 1 rfl) ?_
          refine lv_aload_n hx hb dX2_sum_19 rfl (lv_at hl 0 rfl) ?_
          refine g_get (ci := 4) (v := .ref (h + 1)) (C := RX2) (T := TX2) (N := 5) hx hb hts iU_X2 hown hK hM ⟨by omega, by omega⟩ hE0 rfl 0 (by decide) (hts _ u_56) (fun _ h9 => h9) rfl dX2_sum_20 ?_
          refine lv_iload_n hx hb dX2_sum_23 rfl (lv_at hl 2 rfl) ?_
          refine g_lald hx hb hK hM ⟨by omega, by omega⟩ hE1 (by omega) (by omega) (by decide) dX2_sum_24 ?_
          show W _ _ _ _ _ _ _ _ _ _ _ _ _ _ _ (F0 _ _ _ (.long (zL (P (11 + 4 * i))) :: _))
          refine g_ladd hx hb dX2_sum_25 ?_
          refine lv_lstore_n (lv' := [(1, .long (zL ((sSum (fun k => P (11 + 4 * k)) i) + (P (11 + 4 * i))))), (0, .ref h), (3, .int (zI (↑i : Int)))]) hx hb dX2_sum_26 rfl hl (by decide) rfl (fun ls hl => ?_)
          refine lv_iinc (v := zI ((↑i : Int) + 1)) (lv' := [(3, .int (zI ((↑i : Int) + 1))), (1, .long (zL ((sSum (fun k => P (11 + 4 * k)) i) + (P (11 + 4 * i))))), (0, .ref h)]) hx hb dX2_sum_27 hl (k := 2) rfl (zI_add _ _) (by decide) rfl (fun ls hl => ?_)
          refine lv_goto (tgt := 4) hx hb dX2_sum_30 (by decide) ?_
          exact ih (i + 1) _ (by omega) (by omega) (lv_sub hl [2, 1, 0] rfl)
  exact lp4 (11) 0 _ (by omega) (by omega) (lv_sub hl [2, 1, 0] rfl)

def po_X2_numberOf (g : gE) (f : gF) (h : Nat) (P : Nat → Int) (e w : Nat) : Int64 → gF → Prop := fun r f1 => r = zL (sNumE P e w) ∧ f = f1
set_option maxRecDepth 100000 in
set_option maxHeartbeats 4000000 in
/-- numberOf(e, what), valid -/
theorem c_X2_numberOf (l : Launch) (g : gE) (b0 n : Nat) (f : gF) (h : Nat) (P : Nat → Int) (e w : Nat) (hE : envAt g f h P) (hrg : b0 ≤ h ∧ h + 5 ≤ b0 + n) (hcn : 0 ≤ P 7 ∧ P 7 ≤ 10) (he : (e : Int) < P 7) (hw : w ≤ 4) (hbr : 0 ≤ P (11 + 4 * e) ∧ P (11 + 4 * e) ≤ 1000000000000000000) (hcp : -1 ≤ P (12 + 4 * e) ∧ P (12 + 4 * e) ≤ 9000000) (hro : 0 ≤ P (13 + 4 * e) ∧ P (13 + 4 * e) ≤ 2) : cL l yX2_numberOf cX2_numberOf 3 (some .long) 1 60 [.ref h, .int (zI (↑e : Int)), .int (zI (↑w : Int))] g b0 n f (po_X2_numberOf g f h P e w) := by
  refine gs_l (cc := cX2_numberOf) (maxL := 3) (ret := (some .long)) (by decide) (Nat.le_of_ble_eq_true rfl) ?_
  intro p e0 s m args below meth c ls hx hb hr hml hown hts hlk hK hM hl
  have hl : lv_has ls 3 [(0, .ref h), (1, .int (zI (↑e : Int))), (2, .int (zI (↑w : Int)))] := hl
  have hE9 := hE
  obtain ⟨hE0, hE1, hE2, hE3, hE4⟩ := hE
  have hzn := hcn.1
  have hzm := hcn.2
  have hen : e < 10 := by omega
  have hbr1 := hbr.1
  have hbr2 := hbr.2
  have hcp1 := hcp.1
  have hcp2 := hcp.2
  have hro1 := hro.1
  have hro2 := hro.2
  refine lv_aload_n hx hb dX2_numberOf_0 rfl (lv_at hl 0 rfl) ?_
  refine lv_iload_n hx hb dX2_numberOf_1 rfl (lv_at hl 1 rfl) ?_
  have hC1 := c_X2_has l g b0 n f h P (↑e : Int) hE9 hrg hcn ⟨by omega, by omega⟩
  refine g_callVi (ci := 4) (C := RX2) (T := TX2) (N := 5) (As := [.int (zI (↑e : Int))]) (rest := []) ⟨hx, hb, hml, hown, hts⟩ hK hM hC1 (cuV (n := 1) hts u_382 u_444 u_5 (by decide) u_380 u_381 ⟨Nat.le_of_ble_eq_true rfl, Nat.le_of_ble_eq_true rfl⟩) ⟨by omega, by omega⟩ hE0 rfl rfl hl.1 rfl (Nat.le_of_ble_eq_true rfl) dX2_numberOf_2 ⟨Nat.zero_le _, Nat.zero_le _⟩ (fun r2 f2 H locs hM hp3 => ?_)
  obtain ⟨rfl, rfl⟩ := hp3
  refine g_ifb_ne (tgt := 10) hx hb dX2_numberOf_5 (by decide) (fun c5 => ?_) (fun c5 => ?_)
  · skip
    refine lv_iload_n hx hb dX2_numberOf_10 rfl (lv_at hl 2 rfl) ?_
    have hz11 := zI_toInt (z := (↑w : Int)) ⟨by omega, by omega⟩
    rcases g_sw (0) (3) (↑w : Int) with c11 | c11
    · refine lv_tableOut (tgt := 98) hx hb dX2_numberOf_11 (by rw [hz11]; exact c11) (by decide) ?_
      refine lv_aload_n hx hb dX2_numberOf_98 rfl (lv_at hl 0 rfl) ?_
      refine g_get (ci := 4) (v := .ref (h + 4)) (C := RX2) (T := TX2) (N := 5) hx hb hts iU_X2 hown hK hM ⟨by omega, by omega⟩ hE0 rfl 3 (by decide) (hts _ u_59) (fun _ h9 => h9) rfl dX2_numberOf_99 ?_
      refine lv_iload_n hx hb dX2_numberOf_102 rfl (lv_at hl 1 rfl) ?_
      refine g_lald hx hb hK hM ⟨by omega, by omega⟩ hE4 (by omega) (by omega) (by decide) dX2_numberOf_103 ?_
      show W _ _ _ _ _ _ _ _ _ _ _ _ _ _ _ (F0 _ _ _ (.long (zL (P (14 + 4 * e))) :: _))
      refine g_lret hx hb hr hlk hK hM dX2_numberOf_104 ?_
      refine ⟨?_, rfl⟩
      unfold sNumE
      (first | rw [if_pos (show w = 3 by omega)] | rw [if_neg (show ¬ w = 3 by omega)])
      first | exact congrArg (fun j => zL (P j)) (by (repeat' split) <;> omega) | rw [if_pos (by omega)] | rw [if_neg (by omega)]
    · rcases (show (↑w : Int) = 0 ∨ (↑w : Int) = 1 ∨ (↑w : Int) = 2 ∨ (↑w : Int) = 3 by omega) with c11 | c11 | c11 | c11
      · refine lv_tableIn (off := 29) (tgt := 40) hx hb dX2_numberOf_11 (by rw [hz11, c11]; decide) (by rw [hz11, c11]; decide) (by rw [hz11, c11]; decide) (by decide) ?_
        refine lv_aload_n hx hb dX2_numberOf_40 rfl (lv_at hl 0 rfl) ?_
        refine g_get (ci := 4) (v := .ref (h + 1)) (C := RX2) (T := TX2) (N := 5) hx hb hts iU_X2 hown hK hM ⟨by omega, by omega⟩ hE0 rfl 0 (by decide) (hts _ u_56) (fun _ h9 => h9) rfl dX2_numberOf_41 ?_
        refine lv_iload_n hx hb dX2_numberOf_44 rfl (lv_at hl 1 rfl) ?_
        refine g_lald hx hb hK hM ⟨by omega, by omega⟩ hE1 (by omega) (by omega) (by decide) dX2_numberOf_45 ?_
        show W _ _ _ _ _ _ _ _ _ _ _ _ _ _ _ (F0 _ _ _ (.long (zL (P (11 + 4 * e))) :: _))
        refine g_lret hx hb hr hlk hK hM dX2_numberOf_46 ?_
        refine ⟨?_, rfl⟩
        unfold sNumE
        (first | rw [if_pos (show w = 3 by omega)] | rw [if_neg (show ¬ w = 3 by omega)])
        first | exact congrArg (fun j => zL (P j)) (by (repeat' split) <;> omega) | rw [if_pos (by omega)] | rw [if_neg (by omega)]
      · refine lv_tableIn (off := 36) (tgt := 47) hx hb dX2_numberOf_11 (by rw [hz11, c11]; decide) (by rw [hz11, c11]; decide) (by rw [hz11, c11]; decide) (by decide) ?_
        refine lv_aload_n hx hb dX2_numberOf_47 rfl (lv_at hl 0 rfl) ?_
        refine g_get (ci := 4) (v := .ref (h + 2)) (C := RX2) (T := TX2) (N := 5) hx hb hts iU_X2 hown hK hM ⟨by omega, by omega⟩ hE0 rfl 1 (by decide) (hts _ u_57) (fun _ h9 => h9) rfl dX2_numberOf_48 ?_
        refine lv_iload_n hx hb dX2_numberOf_51 rfl (lv_at hl 1 rfl) ?_
        refine g_iald hx hb hK hM ⟨by omega, by omega⟩ hE2 (by omega) (by omega) (by decide) dX2_numberOf_52 ?_
        show W _ _ _ _ _ _ _ _ _ _ _ _ _ _ _ (F0 _ _ _ (.int (zI (P (12 + 4 * e))) :: _))
        refine g_i2l hx hb dX2_numberOf_53 ⟨by omega, by omega⟩ ?_
        refine g_lret hx hb hr hlk hK hM dX2_numberOf_54 ?_
        refine ⟨?_, rfl⟩
        unfold sNumE
        (first | rw [if_pos (show w = 3 by omega)] | rw [if_neg (show ¬ w = 3 by omega)])
        first | exact congrArg (fun j => zL (P j)) (by (repeat' split) <;> omega) | rw [if_pos (by omega)] | rw [if_neg (by omega)]
      · refine lv_tableIn (off := 44) (tgt := 55) hx hb dX2_numberOf_11 (by rw [hz11, c11]; decide) (by rw [hz11, c11]; decide) (by rw [hz11, c11]; decide) (by decide) ?_
        refine lv_aload_n hx hb dX2_numberOf_55 rfl (lv_at hl 0 rfl) ?_
        refine g_get (ci := 4) (v := .ref (h + 3)) (C := RX2) (T := TX2) (N := 5) hx hb hts iU_X2 hown hK hM ⟨by omega, by omega⟩ hE0 rfl 2 (by decide) (hts _ u_58) (fun _ h9 => h9) rfl dX2_numberOf_56 ?_
        refine lv_iload_n hx hb dX2_numberOf_59 rfl (lv_at hl 1 rfl) ?_
        refine g_iald hx hb hK hM ⟨by omega, by omega⟩ hE3 (by omega) (by omega) (by decide) dX2_numberOf_60 ?_
        show W _ _ _ _ _ _ _ _ _ _ _ _ _ _ _ (F0 _ _ _ (.int (zI (P (13 + 4 * e))) :: _))
        refine g_i2l hx hb dX2_numberOf_61 ⟨by omega, by omega⟩ ?_
        refine g_lret hx hb hr hlk hK hM dX2_numberOf_62 ?_
        refine ⟨?_, rfl⟩
        unfold sNumE
        (first | rw [if_pos (show w = 3 by omega)] | rw [if_neg (show ¬ w = 3 by omega)])
        first | exact congrArg (fun j => zL (P j)) (by (repeat' split) <;> omega) | rw [if_pos (by omega)] | rw [if_neg (by omega)]
      · refine lv_tableIn (off := 52) (tgt := 63) hx hb dX2_numberOf_11 (by rw [hz11, c11]; decide) (by rw [hz11, c11]; decide) (by rw [hz11, c11]; decide) (by decide) ?_
        refine lv_aload_n hx hb dX2_numberOf_63 rfl (lv_at hl 0 rfl) ?_
        refine g_get (ci := 4) (v := .ref (h + 2)) (C := RX2) (T := TX2) (N := 5) hx hb hts iU_X2 hown hK hM ⟨by omega, by omega⟩ hE0 rfl 1 (by decide) (hts _ u_57) (fun _ h9 => h9) rfl dX2_numberOf_64 ?_
        refine lv_iload_n hx hb dX2_numberOf_67 rfl (lv_at hl 1 rfl) ?_
        refine g_iald hx hb hK hM ⟨by omega, by omega⟩ hE2 (by omega) (by omega) (by decide) dX2_numberOf_68 ?_
        show W _ _ _ _ _ _ _ _ _ _ _ _ _ _ _ (F0 _ _ _ (.int (zI (P (12 + 4 * e))) :: _))
        refine g_iconst hx hb dX2_numberOf_69 ?_
        refine g_icmp_ne (tgt := 79) hx hb dX2_numberOf_70 (by decide) ⟨by omega, by omega⟩ (by decide) (fun c70 => ?_) (fun c70 => ?_)
        · skip
          refine g_lconst (z := 0) hx hb dX2_numberOf_79 (by decide) ?_
          refine lv_aload_n hx hb dX2_numberOf_80 rfl (lv_at hl 0 rfl) ?_
          refine g_get (ci := 4) (v := .ref (h + 2)) (C := RX2) (T := TX2) (N := 5) hx hb hts iU_X2 hown hK hM ⟨by omega, by omega⟩ hE0 rfl 1 (by decide) (hts _ u_57) (fun _ h9 => h9) rfl dX2_numberOf_81 ?_
          refine lv_iload_n hx hb dX2_numberOf_84 rfl (lv_at hl 1 rfl) ?_
          refine g_iald hx hb hK hM ⟨by omega, by omega⟩ hE2 (by omega) (by omega) (by decide) dX2_numberOf_85 ?_
          show W _ _ _ _ _ _ _ _ _ _ _ _ _ _ _ (F0 _ _ _ (.int (zI (P (12 + 4 * e))) :: _))
          refine g_i2l hx hb dX2_numberOf_86 ⟨by omega, by omega⟩ ?_
          refine lv_aload_n hx hb dX2_numberOf_87 rfl (lv_at hl 0 rfl) ?_
          refine g_get (ci := 4) (v := .ref (h + 1)) (C := RX2) (T := TX2) (N := 5) hx hb hts iU_X2 hown hK hM ⟨by omega, by omega⟩ hE0 rfl 0 (by decide) (hts _ u_56) (fun _ h9 => h9) rfl dX2_numberOf_88 ?_
          refine lv_iload_n hx hb dX2_numberOf_91 rfl (lv_at hl 1 rfl) ?_
          refine g_lald hx hb hK hM ⟨by omega, by omega⟩ hE1 (by omega) (by omega) (by decide) dX2_numberOf_92 ?_
          show W _ _ _ _ _ _ _ _ _ _ _ _ _ _ _ (F0 _ _ _ (.long (zL (P (11 + 4 * e))) :: _))
          refine g_lsub hx hb dX2_numberOf_93 ?_
          refine g_lmax hx hb (hml.trans hl.1.symm) hown (hts _ u_833) hts (Nat.le_of_ble_eq_true rfl) (Nat.le_of_ble_eq_true rfl) (Nat.zero_le _) (Nat.zero_le _) (by decide) ⟨by omega, by omega⟩ dX2_numberOf_94 ?_
          refine g_lret hx hb hr hlk hK hM dX2_numberOf_97 ?_
          refine ⟨?_, rfl⟩
          unfold sNumE
          (first | rw [if_pos (show w = 3 by omega)] | rw [if_neg (show ¬ w = 3 by omega)])
          first | exact congrArg (fun j => zL (P j)) (by (repeat' split) <;> omega) | rw [if_pos (by omega)] | rw [if_neg (by omega)]
        · skip
          refine g_ldc2 (z := -1) hx hb hown (hts _ u_832) dX2_numberOf_73 (by decide) ?_
          refine lv_goto (tgt := 97) hx hb dX2_numberOf_76 (by decide) ?_
          refine g_lret hx hb hr hlk hK hM dX2_numberOf_97 ?_
          refine ⟨?_, rfl⟩
          unfold sNumE
          (first | rw [if_pos (show w = 3 by omega)] | rw [if_neg (show ¬ w = 3 by omega)])
          first | exact congrArg (fun j => zL (P j)) (by (repeat' split) <;> omega) | rw [if_pos (by omega)] | rw [if_neg (by omega)]
  · skip
    refine g_lconst (z := 0) hx hb dX2_numberOf_8 (by decide) ?_
    refine g_lret hx hb hr hlk hK hM dX2_numberOf_9 ?_
    exfalso; omega

def po_X2_copyFrom (g : gE) (f : gF) (h h2 : Nat) (P P2 : Nat → Int) : gF → Prop := fun f1 => envAt g f1 h P2 ∧ ∀ q, (q < h ∨ h + 5 ≤ q) → f1 q = f q
set_option maxRecDepth 100000 in
set_option maxHeartbeats 4000000 in
/-- copyFrom(other) -/
theorem c_X2_copyFrom (l : Launch) (g : gE) (b0 n : Nat) (f : gF) (h h2 : Nat) (P P2 : Nat → Int) (hE : envAt g f h P) (hG : envAt g f h2 P2) (hrg : b0 ≤ h ∧ h + 5 ≤ b0 + n) (hrg2 : b0 ≤ h2 ∧ h2 + 5 ≤ b0 + n) (hd : h + 5 ≤ h2 ∨ h2 + 5 ≤ h) : cV l yX2_copyFrom cX2_copyFrom 2 none 1 60 [.ref h, .ref h2] g b0 n f (po_X2_copyFrom g f h h2 P P2) := by
  refine gs_v (cc := cX2_copyFrom) (maxL := 2) (ret := none) (by decide) (Nat.le_of_ble_eq_true rfl) ?_
  intro p e0 s m args below meth c ls hx hb hr hml hown hts hlk hK hM hl
  have hl : lv_has ls 2 [(0, .ref h), (1, .ref h2)] := hl
  obtain ⟨hE0, hE1, hE2, hE3, hE4⟩ := hE
  obtain ⟨hG0, hG1, hG2, hG3, hG4⟩ := hG
  refine lv_aload_n hx hb dX2_copyFrom_0 rfl (lv_at hl 1 rfl) ?_
  refine g_get (ci := 4) (v := .ref (h2 + 1)) (C := RX2) (T := TX2) (N := 5) hx hb hts iU_X2 hown hK hM ⟨by omega, by omega⟩ hG0 rfl 0 (by decide) (hts _ u_56) (fun _ h9 => h9) rfl dX2_copyFrom_1 ?_
  refine g_iconst hx hb dX2_copyFrom_4 ?_
  refine lv_aload_n hx hb dX2_copyFrom_5 rfl (lv_at hl 0 rfl) ?_
  refine g_get (ci := 4) (v := .ref (h + 1)) (C := RX2) (T := TX2) (N := 5) hx hb hts iU_X2 hown hK hM ⟨by omega, by omega⟩ hE0 rfl 0 (by decide) (hts _ u_56) (fun _ h9 => h9) rfl dX2_copyFrom_6 ?_
  refine g_iconst hx hb dX2_copyFrom_9 ?_
  refine g_bipush hx hb dX2_copyFrom_10 (by decide) ?_
  refine g_copyJ hx hb (hml.trans hl.1.symm) hown (hts _ u_566) hts hK hM ⟨by omega, by omega⟩ ⟨by omega, by omega⟩ hG1 hE1 rfl (by decide) (Nat.le_of_ble_eq_true rfl) (Nat.le_of_ble_eq_true rfl) dX2_copyFrom_12 (fun f1 H locs hM ha3 o2 => ?_)
  refine lv_aload_n hx hb dX2_copyFrom_15 rfl (lv_at hl 1 rfl) ?_
  have hf4 : f1 (h2) = .inr (4, [.ref (h2 + 1), .ref (h2 + 2), .ref (h2 + 3), .ref (h2 + 4), .int (zI (P2 7))]) := (o2 (h2) (by omega)).trans hG0
  refine g_get (ci := 4) (v := .ref (h2 + 2)) (C := RX2) (T := TX2) (N := 5) hx hb hts iU_X2 hown hK hM ⟨by omega, by omega⟩ hf4 rfl 1 (by decide) (hts _ u_57) (fun _ h9 => h9) rfl dX2_copyFrom_16 ?_
  refine g_iconst hx hb dX2_copyFrom_19 ?_
  refine lv_aload_n hx hb dX2_copyFrom_20 rfl (lv_at hl 0 rfl) ?_
  have hf5 : f1 (h) = .inr (4, [.ref (h + 1), .ref (h + 2), .ref (h + 3), .ref (h + 4), .int (zI (P 7))]) := (o2 (h) (by omega)).trans hE0
  refine g_get (ci := 4) (v := .ref (h + 2)) (C := RX2) (T := TX2) (N := 5) hx hb hts iU_X2 hown hK hM ⟨by omega, by omega⟩ hf5 rfl 1 (by decide) (hts _ u_57) (fun _ h9 => h9) rfl dX2_copyFrom_21 ?_
  refine g_iconst hx hb dX2_copyFrom_24 ?_
  refine g_bipush hx hb dX2_copyFrom_25 (by decide) ?_
  have hf6 := hG2.kept (o2 (h2 + 2) (by omega))
  have hf7 := hE2.kept (o2 (h + 2) (by omega))
  refine g_copyI hx hb (hml.trans hl.1.symm) hown (hts _ u_566) hts hK hM ⟨by omega, by omega⟩ ⟨by omega, by omega⟩ hf6 hf7 rfl (by decide) (Nat.le_of_ble_eq_true rfl) (Nat.le_of_ble_eq_true rfl) dX2_copyFrom_27 (fun f8 H locs hM ha10 o9 => ?_)
  refine lv_aload_n hx hb dX2_copyFrom_30 rfl (lv_at hl 1 rfl) ?_
  have hf11 : f8 (h2) = .inr (4, [.ref (h2 + 1), .ref (h2 + 2), .ref (h2 + 3), .ref (h2 + 4), .int (zI (P2 7))]) := (o9 (h2) (by omega)).trans hf4
  refine g_get (ci := 4) (v := .ref (h2 + 3)) (C := RX2) (T := TX2) (N := 5) hx hb hts iU_X2 hown hK hM ⟨by omega, by omega⟩ hf11 rfl 2 (by decide) (hts _ u_58) (fun _ h9 => h9) rfl dX2_copyFrom_31 ?_
  refine g_iconst hx hb dX2_copyFrom_34 ?_
  refine lv_aload_n hx hb dX2_copyFrom_35 rfl (lv_at hl 0 rfl) ?_
  have hf12 : f8 (h) = .inr (4, [.ref (h + 1), .ref (h + 2), .ref (h + 3), .ref (h + 4), .int (zI (P 7))]) := (o9 (h) (by omega)).trans hf5
  refine g_get (ci := 4) (v := .ref (h + 3)) (C := RX2) (T := TX2) (N := 5) hx hb hts iU_X2 hown hK hM ⟨by omega, by omega⟩ hf12 rfl 2 (by decide) (hts _ u_58) (fun _ h9 => h9) rfl dX2_copyFrom_36 ?_
  refine g_iconst hx hb dX2_copyFrom_39 ?_
  refine g_bipush hx hb dX2_copyFrom_40 (by decide) ?_
  have hf13 := hG3.kept ((o9 (h2 + 3) (by omega)).trans (o2 (h2 + 3) (by omega)))
  have hf14 := hE3.kept ((o9 (h + 3) (by omega)).trans (o2 (h + 3) (by omega)))
  refine g_copyI hx hb (hml.trans hl.1.symm) hown (hts _ u_566) hts hK hM ⟨by omega, by omega⟩ ⟨by omega, by omega⟩ hf13 hf14 rfl (by decide) (Nat.le_of_ble_eq_true rfl) (Nat.le_of_ble_eq_true rfl) dX2_copyFrom_42 (fun f15 H locs hM ha17 o16 => ?_)
  refine lv_aload_n hx hb dX2_copyFrom_45 rfl (lv_at hl 1 rfl) ?_
  have hf18 : f15 (h2) = .inr (4, [.ref (h2 + 1), .ref (h2 + 2), .ref (h2 + 3), .ref (h2 + 4), .int (zI (P2 7))]) := (o16 (h2) (by omega)).trans hf11
  refine g_get (ci := 4) (v := .ref (h2 + 4)) (C := RX2) (T := TX2) (N := 5) hx hb hts iU_X2 hown hK hM ⟨by omega, by omega⟩ hf18 rfl 3 (by decide) (hts _ u_59) (fun _ h9 => h9) rfl dX2_copyFrom_46 ?_
  refine g_iconst hx hb dX2_copyFrom_49 ?_
  refine lv_aload_n hx hb dX2_copyFrom_50 rfl (lv_at hl 0 rfl) ?_
  have hf19 : f15 (h) = .inr (4, [.ref (h + 1), .ref (h + 2), .ref (h + 3), .ref (h + 4), .int (zI (P 7))]) := (o16 (h) (by omega)).trans hf12
  refine g_get (ci := 4) (v := .ref (h + 4)) (C := RX2) (T := TX2) (N := 5) hx hb hts iU_X2 hown hK hM ⟨by omega, by omega⟩ hf19 rfl 3 (by decide) (hts _ u_59) (fun _ h9 => h9) rfl dX2_copyFrom_51 ?_
  refine g_iconst hx hb dX2_copyFrom_54 ?_
  refine g_bipush hx hb dX2_copyFrom_55 (by decide) ?_
  have hf20 := hG4.kept ((o16 (h2 + 4) (by omega)).trans ((o9 (h2 + 4) (by omega)).trans (o2 (h2 + 4) (by omega))))
  have hf21 := hE4.kept ((o16 (h + 4) (by omega)).trans ((o9 (h + 4) (by omega)).trans (o2 (h + 4) (by omega))))
  refine g_copyJ hx hb (hml.trans hl.1.symm) hown (hts _ u_566) hts hK hM ⟨by omega, by omega⟩ ⟨by omega, by omega⟩ hf20 hf21 rfl (by decide) (Nat.le_of_ble_eq_true rfl) (Nat.le_of_ble_eq_true rfl) dX2_copyFrom_57 (fun f22 H locs hM ha24 o23 => ?_)
  refine lv_aload_n hx hb dX2_copyFrom_60 rfl (lv_at hl 0 rfl) ?_
  refine lv_aload_n hx hb dX2_copyFrom_61 rfl (lv_at hl 1 rfl) ?_
  have hf25 : f22 (h2) = .inr (4, [.ref (h2 + 1), .ref (h2 + 2), .ref (h2 + 3), .ref (h2 + 4), .int (zI (P2 7))]) := (o23 (h2) (by omega)).trans hf18
  refine g_get (ci := 4) (v := .int (zI (P2 7))) (C := RX2) (T := TX2) (N := 5) hx hb hts iU_X2 hown hK hM ⟨by omega, by omega⟩ hf25 rfl 4 (by decide) (hts _ u_60) (fun _ h9 => h9) rfl dX2_copyFrom_62 ?_
  have hf26 : f22 (h) = .inr (4, [.ref (h + 1), .ref (h + 2), .ref (h + 3), .ref (h + 4), .int (zI (P 7))]) := (o23 (h) (by omega)).trans hf19
  refine g_put (ci := 4) (v := .int (zI (P2 7))) (ty := .int) (C := RX2) (T := TX2) (N := 5) hx hb hts iU_X2 tyX2 tyX2_ok nmX2 hown hK hM ⟨by omega, by omega⟩ hf26 rfl 4 (by decide) (hts _ u_60) (fun _ h9 => h9) rfl (by decide +kernel) rfl rfl (Nat.le_of_ble_eq_true rfl) dX2_copyFrom_65 (fun f27 H locs hM hf29 o28 => ?_)
  have hf29 : f27 (h) = .inr (4, [.ref (h + 1), .ref (h + 2), .ref (h + 3), .ref (h + 4), .int (zI (P2 7))]) := hf29
  have hf30 := ha3.kept ((o28 (h + 1) (by omega)).trans ((o23 (h + 1) (by omega)).trans ((o16 (h + 1) (by omega)).trans (o9 (h + 1) (by omega)))))
  have hf31 := ha10.kept ((o28 (h + 2) (by omega)).trans ((o23 (h + 2) (by omega)).trans (o16 (h + 2) (by omega))))
  have hf32 := ha17.kept ((o28 (h + 3) (by omega)).trans (o23 (h + 3) (by omega)))
  have hf33 := ha24.kept (o28 (h + 4) (by omega))
  refine g_vret hx hb hr hlk hK hM dX2_copyFrom_68 ?_
  exact ⟨⟨hf29, hf30.cong (fun k hk => by simp only [pu, ↓reduceIte] <;> (repeat' split) <;> first | rfl | omega | (congr 1; omega) | (congr 2; omega)), hf31.cong (fun k hk => by simp only [pu, ↓reduceIte] <;> (repeat' split) <;> first | rfl | omega | (congr 1; omega) | (congr 2; omega)), hf32.cong (fun k hk => by simp only [pu, ↓reduceIte] <;> (repeat' split) <;> first | rfl | omega | (congr 1; omega) | (congr 2; omega)), hf33.cong (fun k hk => by simp only [pu, ↓reduceIte] <;> (repeat' split) <;> first | rfl | omega | (congr 1; omega) | (congr 2; omega))⟩, (fun q hq => ((o28 (q) (by omega)).trans ((o23 (q) (by omega)).trans ((o16 (q) (by omega)).trans ((o9 (q) (by omega)).trans (o2 (q) (by omega)))))))⟩

def po_X7_has (g : gE) (f : gF) (h : Nat) (P : Nat → Int) (e : Int) : Int32 → gF → Prop := fun r f1 => r = bI (0 ≤ e ∧ e < P 8) ∧ f = f1
set_option maxRecDepth 100000 in
set_option maxHeartbeats 4000000 in
/-- has -/
theorem c_X7_has (l : Launch) (g : gE) (b0 n : Nat) (f : gF) (h : Nat) (P : Nat → Int) (e : Int) (hE : ruleAt g f h P) (hrg : b0 ≤ h ∧ h + 4 ≤ b0 + n) (hcn : 0 ≤ P 8 ∧ P 8 ≤ 6) (hre : rI e) : cI l yX7_has cX7_has 2 (some .boolean) 0 0 [.ref h, .int (zI e)] g b0 n f (po_X7_has g f h P e) := by
  refine gs_i (cc := cX7_has) (maxL := 2) (ret := (some .boolean)) (by decide) (Nat.le_of_ble_eq_true rfl) ?_
  intro p e0 s m args below meth c ls hx hb hr hml hown hts hlk hK hM hl
  have hl : lv_has ls 2 [(0, .ref h), (1, .int (zI e))] := hl
  obtain ⟨hE0, hE1, hE2, hE3⟩ := hE
  have hzn := hcn.1
  have hzm := hcn.2
  refine lv_iload_n hx hb dX7_has_0 rfl (lv_at hl 1 rfl) ?_
  refine g_if_lt (tgt := 22) hx hb dX7_has_1 (by decide) hre (fun c1 => ?_) (fun c1 => ?_)
  · skip
    refine g_iconst hx hb dX7_has_22 ?_
    refine g_zret hx hb hr hlk hK hM dX7_has_23 rfl ?_
    refine ⟨?_, rfl⟩
    show zI 0 = _
    first | exact (bI_t (by omega)).symm | exact (bI_f (by omega)).symm
  · skip
    refine lv_iload_n hx hb dX7_has_4 rfl (lv_at hl 1 rfl) ?_
    refine lv_aload_n hx hb dX7_has_5 rfl (lv_at hl 0 rfl) ?_
    refine g_get (ci := 9) (v := .int (zI (P 8))) (C := RX7) (T := TX7) (N := 4) hx hb hts iU_X7 hown hK hM ⟨by omega, by omega⟩ hE0 rfl 3 (by decide) (hts _ u_87) (fun _ h9 => h9) rfl dX7_has_6 ?_
    refine g_icmp_ge (tgt := 22) hx hb dX7_has_9 (by decide) hre ⟨by omega, by omega⟩ (fun c9 => ?_) (fun c9 => ?_)
    · skip
      refine g_iconst hx hb dX7_has_22 ?_
      refine g_zret hx hb hr hlk hK hM dX7_has_23 rfl ?_
      refine ⟨?_, rfl⟩
      show zI 0 = _
      first | exact (bI_t (by omega)).symm | exact (bI_f (by omega)).symm
    · skip
      refine lv_iload_n hx hb dX7_has_12 rfl (lv_at hl 1 rfl) ?_
      refine g_bipush hx hb dX7_has_13 (by decide) ?_
      refine g_icmp_ge (tgt := 22) hx hb dX7_has_15 (by decide) hre (by decide) (fun c15 => ?_) (fun c15 => ?_)
      · skip
        refine g_iconst hx hb dX7_has_22 ?_
        refine g_zret hx hb hr hlk hK hM dX7_has_23 rfl ?_
        refine ⟨?_, rfl⟩
        show zI 0 = _
        first | exact (bI_t (by omega)).symm | exact (bI_f (by omega)).symm
      · skip
        refine g_iconst hx hb dX7_has_18 ?_
        refine lv_goto (tgt := 23) hx hb dX7_has_19 (by decide) ?_
        refine g_zret hx hb hr hlk hK hM dX7_has_23 rfl ?_
        refine ⟨?_, rfl⟩
        show zI 1 = _
        first | exact (bI_t (by omega)).symm | exact (bI_f (by omega)).symm

def po_X7_numberOf (g : gE) (f : gF) (h : Nat) (P : Nat → Int) (e w : Nat) : Int32 → gF → Prop := fun r f1 => r = zI (P (51 + 3 * e + w)) ∧ f = f1
set_option maxRecDepth 100000 in
set_option maxHeartbeats 4000000 in
/-- numberOf -/
theorem c_X7_numberOf (l : Launch) (g : gE) (b0 n : Nat) (f : gF) (h : Nat) (P : Nat → Int) (e w : Nat) (hE : ruleAt g f h P) (hrg : b0 ≤ h ∧ h + 4 ≤ b0 + n) (hcn : 0 ≤ P 8 ∧ P 8 ≤ 6) (he : (e : Int) < P 8) (hw : w < 3) : cI l yX7_numberOf cX7_numberOf 3 (some .int) 1 21 [.ref h, .int (zI (↑e : Int)), .int (zI (↑w : Int))] g b0 n f (po_X7_numberOf g f h P e w) := by
  refine gs_i (cc := cX7_numberOf) (maxL := 3) (ret := (some .int)) (by decide) (Nat.le_of_ble_eq_true rfl) ?_
  intro p e0 s m args below meth c ls hx hb hr hml hown hts hlk hK hM hl
  have hl : lv_has ls 3 [(0, .ref h), (1, .int (zI (↑e : Int))), (2, .int (zI (↑w : Int)))] := hl
  have hE9 := hE
  obtain ⟨hE0, hE1, hE2, hE3⟩ := hE
  have hzn := hcn.1
  have hzm := hcn.2
  have hen : e < 6 := by omega
  refine lv_aload_n hx hb dX7_numberOf_0 rfl (lv_at hl 0 rfl) ?_
  refine lv_iload_n hx hb dX7_numberOf_1 rfl (lv_at hl 1 rfl) ?_
  have hC1 := c_X7_has l g b0 n f h P (↑e : Int) hE9 hrg hcn ⟨by omega, by omega⟩
  refine g_callVi (ci := 9) (C := RX7) (T := TX7) (N := 4) (As := [.int (zI (↑e : Int))]) (rest := []) ⟨hx, hb, hml, hown, hts⟩ hK hM hC1 (cuV (n := 1) hts u_386 u_457 u_6 (by decide) u_384 u_385 ⟨Nat.le_of_ble_eq_true rfl, Nat.le_of_ble_eq_true rfl⟩) ⟨by omega, by omega⟩ hE0 rfl rfl hl.1 rfl (Nat.le_of_ble_eq_true rfl) dX7_numberOf_2 ⟨Nat.zero_le _, Nat.zero_le _⟩ (fun r2 f2 H locs hM hp3 => ?_)
  obtain ⟨rfl, rfl⟩ := hp3
  refine g_ifb_ne (tgt := 10) hx hb dX7_numberOf_5 (by decide) (fun c5 => ?_) (fun c5 => ?_)
  · skip
    refine lv_iload_n hx hb dX7_numberOf_10 rfl (lv_at hl 2 rfl) ?_
    have hz11 := zI_toInt (z := (↑w : Int)) ⟨by omega, by omega⟩
    rcases (show (↑w : Int) = 0 ∨ (↑w : Int) = 1 ∨ ((↑w : Int) ≠ 0 ∧ (↑w : Int) ≠ 1) by omega) with c11 | c11 | c11
    · refine lv_lookup (off := 25) (tgt := 36) hx hb dX7_numberOf_11 (by decide) (by rw [hz11, c11]; decide) (by decide) ?_
      refine lv_aload_n hx hb dX7_numberOf_36 rfl (lv_at hl 0 rfl) ?_
      refine g_get (ci := 9) (v := .ref (h + 1)) (C := RX7) (T := TX7) (N := 4) hx hb hts iU_X7 hown hK hM ⟨by omega, by omega⟩ hE0 rfl 0 (by decide) (hts _ u_81) (fun _ h9 => h9) rfl dX7_numberOf_37 ?_
      refine lv_iload_n hx hb dX7_numberOf_40 rfl (lv_at hl 1 rfl) ?_
      refine g_iald hx hb hK hM ⟨by omega, by omega⟩ hE1 (by omega) (by omega) (by decide) dX7_numberOf_41 ?_
      show W _ _ _ _ _ _ _ _ _ _ _ _ _ _ _ (F0 _ _ _ (.int (zI (P (51 + 3 * e))) :: _))
      refine g_iret hx hb hr hlk hK hM dX7_numberOf_42 ?_
      refine ⟨?_, rfl⟩
      exact congrArg (fun j => zI (P j)) (by omega)
    · refine lv_lookup (off := 32) (tgt := 43) hx hb dX7_numberOf_11 (by decide) (by rw [hz11, c11]; decide) (by decide) ?_
      refine lv_aload_n hx hb dX7_numberOf_43 rfl (lv_at hl 0 rfl) ?_
      refine g_get (ci := 9) (v := .ref (h + 2)) (C := RX7) (T := TX7) (N := 4) hx hb hts iU_X7 hown hK hM ⟨by omega, by omega⟩ hE0 rfl 1 (by decide) (hts _ u_83) (fun _ h9 => h9) rfl dX7_numberOf_44 ?_
      refine lv_iload_n hx hb dX7_numberOf_47 rfl (lv_at hl 1 rfl) ?_
      refine g_iald hx hb hK hM ⟨by omega, by omega⟩ hE2 (by omega) (by omega) (by decide) dX7_numberOf_48 ?_
      show W _ _ _ _ _ _ _ _ _ _ _ _ _ _ _ (F0 _ _ _ (.int (zI (P (52 + 3 * e))) :: _))
      refine g_iret hx hb hr hlk hK hM dX7_numberOf_49 ?_
      refine ⟨?_, rfl⟩
      exact congrArg (fun j => zI (P j)) (by omega)
    · skip
      refine lv_lookup (off := 39) (tgt := 50) hx hb dX7_numberOf_11 (by decide) ((lv_osw (k := zI 0) (by rw [zI_eq ⟨by omega, by omega⟩ (by decide)]; omega) (by decide)).trans ((lv_osw (k := zI 1) (by rw [zI_eq ⟨by omega, by omega⟩ (by decide)]; omega) (by decide)).trans rfl)) (by decide) ?_
      refine lv_aload_n hx hb dX7_numberOf_50 rfl (lv_at hl 0 rfl) ?_
      refine g_get (ci := 9) (v := .ref (h + 3)) (C := RX7) (T := TX7) (N := 4) hx hb hts iU_X7 hown hK hM ⟨by omega, by omega⟩ hE0 rfl 2 (by decide) (hts _ u_85) (fun _ h9 => h9) rfl dX7_numberOf_51 ?_
      refine lv_iload_n hx hb dX7_numberOf_54 rfl (lv_at hl 1 rfl) ?_
      refine g_iald hx hb hK hM ⟨by omega, by omega⟩ hE3 (by omega) (by omega) (by decide) dX7_numberOf_55 ?_
      show W _ _ _ _ _ _ _ _ _ _ _ _ _ _ _ (F0 _ _ _ (.int (zI (P (53 + 3 * e))) :: _))
      refine g_iret hx hb hr hlk hK hM dX7_numberOf_56 ?_
      refine ⟨?_, rfl⟩
      exact congrArg (fun j => zI (P j)) (by omega)
  · skip
    refine g_iconst hx hb dX7_numberOf_8 ?_
    refine g_iret hx hb hr hlk hK hM dX7_numberOf_9 ?_
    exfalso; omega

def po_X7_append (g : gE) (f : gF) (h : Nat) (P : Nat → Int) (c0 : Nat) (a b x : Int) : Int32 → gF → Prop := fun r f1 => r = zI c0 ∧ ruleAt g f1 h (sApp3 P c0 a b x) ∧ ∀ q, (q < h ∨ h + 4 ≤ q) → f1 q = f q
set_option maxRecDepth 100000 in
set_option maxHeartbeats 4000000 in
/-- append where there is room -/
theorem c_X7_append (l : Launch) (g : gE) (b0 n : Nat) (f : gF) (h : Nat) (P : Nat → Int) (c0 : Nat) (a b x : Int) (hE : ruleAt g f h P) (hrg : b0 ≤ h ∧ h + 4 ≤ b0 + n) (hc0 : P 8 = c0) (hcl : c0 < 6) : cI l yX7_append cX7_append 5 (some .int) 0 0 [.ref h, .int (zI a), .int (zI b), .int (zI x)] g b0 n f (po_X7_append g f h P c0 a b x) := by
  refine gs_i (cc := cX7_append) (maxL := 5) (ret := (some .int)) (by decide) (Nat.le_of_ble_eq_true rfl) ?_
  intro p e0 s m args below meth c ls hx hb hr hml hown hts hlk hK hM hl
  have hl : lv_has ls 5 [(0, .ref h), (1, .int (zI a)), (2, .int (zI b)), (3, .int (zI x))] := hl
  obtain ⟨hE0, hE1, hE2, hE3⟩ := hE
  rw [hc0] at hE0
  refine lv_aload_n hx hb dX7_append_0 rfl (lv_at hl 0 rfl) ?_
  refine g_get (ci := 9) (v := .int (zI (↑c0 : Int))) (C := RX7) (T := TX7) (N := 4) hx hb hts iU_X7 hown hK hM ⟨by omega, by omega⟩ hE0 rfl 3 (by decide) (hts _ u_87) (fun _ h9 => h9) rfl dX7_append_1 ?_
  refine lv_istore (lv' := [(4, .int (zI (↑c0 : Int))), (0, .ref h), (1, .int (zI a)), (2, .int (zI b)), (3, .int (zI x))]) hx hb dX7_append_4 hl (by decide) rfl (fun ls hl => ?_)
  refine lv_iload hx hb dX7_append_6 (lv_at hl 0 rfl) ?_
  refine g_if_lt (tgt := 18) hx hb dX7_append_8 (by decide) ⟨by omega, by omega⟩ (fun c8 => ?_) (fun c8 => ?_)
  · skip
    refine lv_iload hx hb dX7_append_18 (lv_at hl 0 rfl) ?_
    refine g_iret hx hb hr hlk hK hM dX7_append_20 ?_
    exfalso; omega
  · skip
    refine lv_iload hx hb dX7_append_11 (lv_at hl 0 rfl) ?_
    refine g_bipush hx hb dX7_append_13 (by decide) ?_
    refine g_icmp_lt (tgt := 21) hx hb dX7_append_15 (by decide) ⟨by omega, by omega⟩ (by decide) (fun c15 => ?_) (fun c15 => ?_)
    · skip
      refine lv_aload_n hx hb dX7_append_21 rfl (lv_at hl 1 rfl) ?_
      refine g_get (ci := 9) (v := .ref (h + 1)) (C := RX7) (T := TX7) (N := 4) hx hb hts iU_X7 hown hK hM ⟨by omega, by omega⟩ hE0 rfl 0 (by decide) (hts _ u_81) (fun _ h9 => h9) rfl dX7_append_22 ?_
      refine lv_iload hx hb dX7_append_25 (lv_at hl 0 rfl) ?_
      refine lv_iload_n hx hb dX7_append_27 rfl (lv_at hl 2 rfl) ?_
      refine g_iast hx hb hK hM ⟨by omega, by omega⟩ hE1 (by omega) (by omega) (by decide) dX7_append_28 (fun f1 H locs hM ha3 o2 => ?_)
      refine lv_aload_n hx hb dX7_append_29 rfl (lv_at hl 1 rfl) ?_
      have hf4 : f1 (h) = .inr (9, [.ref (h + 1), .ref (h + 2), .ref (h + 3), .int (zI (↑c0 : Int))]) := (o2 (h) (by omega)).trans hE0
      refine g_get (ci := 9) (v := .ref (h + 2)) (C := RX7) (T := TX7) (N := 4) hx hb hts iU_X7 hown hK hM ⟨by omega, by omega⟩ hf4 rfl 1 (by decide) (hts _ u_83) (fun _ h9 => h9) rfl dX7_append_30 ?_
      refine lv_iload hx hb dX7_append_33 (lv_at hl 0 rfl) ?_
      refine lv_iload_n hx hb dX7_append_35 rfl (lv_at hl 3 rfl) ?_
      have hf5 := hE2.kept (o2 (h + 2) (by omega))
      refine g_iast hx hb hK hM ⟨by omega, by omega⟩ hf5 (by omega) (by omega) (by decide) dX7_append_36 (fun f6 H locs hM ha8 o7 => ?_)
      refine lv_aload_n hx hb dX7_append_37 rfl (lv_at hl 1 rfl) ?_
      have hf9 : f6 (h) = .inr (9, [.ref (h + 1), .ref (h + 2), .ref (h + 3), .int (zI (↑c0 : Int))]) := (o7 (h) (by omega)).trans hf4
      refine g_get (ci := 9) (v := .ref (h + 3)) (C := RX7) (T := TX7) (N := 4) hx hb hts iU_X7 hown hK hM ⟨by omega, by omega⟩ hf9 rfl 2 (by decide) (hts _ u_85) (fun _ h9 => h9) rfl dX7_append_38 ?_
      refine lv_iload hx hb dX7_append_41 (lv_at hl 0 rfl) ?_
      refine lv_iload_n hx hb dX7_append_43 rfl (lv_at hl 4 rfl) ?_
      have hf10 := hE3.kept ((o7 (h + 3) (by omega)).trans (o2 (h + 3) (by omega)))
      refine g_iast hx hb hK hM ⟨by omega, by omega⟩ hf10 (by omega) (by omega) (by decide) dX7_append_44 (fun f11 H locs hM ha13 o12 => ?_)
      refine lv_aload_n hx hb dX7_append_45 rfl (lv_at hl 1 rfl) ?_
      refine lv_dup hx hb dX7_append_46 rfl ?_
      have hf14 : f11 (h) = .inr (9, [.ref (h + 1), .ref (h + 2), .ref (h + 3), .int (zI (↑c0 : Int))]) := (o12 (h) (by omega)).trans hf9
      refine g_get (ci := 9) (v := .int (zI (↑c0 : Int))) (C := RX7) (T := TX7) (N := 4) hx hb hts iU_X7 hown hK hM ⟨by omega, by omega⟩ hf14 rfl 3 (by decide) (hts _ u_87) (fun _ h9 => h9) rfl dX7_append_47 ?_
      refine g_iconst hx hb dX7_append_50 ?_
      refine g_iadd hx hb dX7_append_51 ?_
      refine g_put (ci := 9) (v := .int (zI ((↑c0 : Int) + 1))) (ty := .int) (C := RX7) (T := TX7) (N := 4) hx hb hts iU_X7 tyX7 tyX7_ok nmX7 hown hK hM ⟨by omega, by omega⟩ hf14 rfl 3 (by decide) (hts _ u_87) (fun _ h9 => h9) rfl (by decide +kernel) rfl rfl (Nat.le_of_ble_eq_true rfl) dX7_append_52 (fun f15 H locs hM hf17 o16 => ?_)
      have hf17 : f15 (h) = .inr (9, [.ref (h + 1), .ref (h + 2), .ref (h + 3), .int (zI ((↑c0 : Int) + 1))]) := hf17
      refine lv_iload hx hb dX7_append_55 (lv_at hl 0 rfl) ?_
      have hf18 := ha3.kept ((o16 (h + 1) (by omega)).trans ((o12 (h + 1) (by omega)).trans (o7 (h + 1) (by omega))))
      have hf19 := ha8.kept ((o16 (h + 2) (by omega)).trans (o12 (h + 2) (by omega)))
      have hf20 := ha13.kept (o16 (h + 3) (by omega))
      refine g_iret hx hb hr hlk hK hM dX7_append_57 ?_
      exact ⟨rfl, ⟨hf17.trans (by simp only [sApp3, pu, ↓reduceIte] <;> (repeat' split) <;> first | rfl | omega | (congr 1; omega) | (congr 2; omega)), hf18.cong (fun k hk => by simp only [sApp3, pu, ↓reduceIte] <;> (repeat' split) <;> first | rfl | omega | (congr 1; omega) | (congr 2; omega)), hf19.cong (fun k hk => by simp only [sApp3, pu, ↓reduceIte] <;> (repeat' split) <;> first | rfl | omega | (congr 1; omega) | (congr 2; omega)), hf20.cong (fun k hk => by simp only [sApp3, pu, ↓reduceIte] <;> (repeat' split) <;> first | rfl | omega | (congr 1; omega) | (congr 2; omega))⟩, (fun q hq => ((o16 (q) (by omega)).trans ((o12 (q) (by omega)).trans ((o7 (q) (by omega)).trans (o2 (q) (by omega))))))⟩
    · skip
      refine lv_iload hx hb dX7_append_18 (lv_at hl 0 rfl) ?_
      refine g_iret hx hb hr hlk hK hM dX7_append_20 ?_
      exfalso; omega

def po_X7_remove (g : gE) (f : gF) (h : Nat) (P : Nat → Int) (e : Nat) : Int32 → gF → Prop := fun r f1 => r = zI (P 8 - 1) ∧ ruleAt g f1 h (sRem P 51 3 8 e) ∧ ∀ q, (q < h ∨ h + 4 ≤ q) → f1 q = f q
set_option maxRecDepth 100000 in
set_option maxHeartbeats 4000000 in
/-- remove(e), a valid e -/
theorem c_X7_remove (l : Launch) (g : gE) (b0 n : Nat) (f : gF) (h : Nat) (P : Nat → Int) (e : Nat) (hE : ruleAt g f h P) (hrg : b0 ≤ h ∧ h + 4 ≤ b0 + n) (hcn : 0 ≤ P 8 ∧ P 8 ≤ 6) (he : (e : Int) < P 8) : cI l yX7_remove cX7_remove 3 (some .int) 1 21 [.ref h, .int (zI (↑e : Int))] g b0 n f (po_X7_remove g f h P e) := by
  refine gs_i (cc := cX7_remove) (maxL := 3) (ret := (some .int)) (by decide) (Nat.le_of_ble_eq_true rfl) ?_
  intro p e0 s m args below meth c ls hx hb hr hml hown hts hlk hK hM hl
  have hl : lv_has ls 3 [(0, .ref h), (1, .int (zI (↑e : Int)))] := hl
  have hE9 := hE
  obtain ⟨hE0, hE1, hE2, hE3⟩ := hE
  have hzn := hcn.1
  have hzm := hcn.2
  have hen : e < 6 := by omega
  refine lv_aload_n hx hb dX7_remove_0 rfl (lv_at hl 0 rfl) ?_
  refine lv_iload_n hx hb dX7_remove_1 rfl (lv_at hl 1 rfl) ?_
  have hC1 := c_X7_has l g b0 n f h P (↑e : Int) hE9 hrg hcn ⟨by omega, by omega⟩
  refine g_callVi (ci := 9) (C := RX7) (T := TX7) (N := 4) (As := [.int (zI (↑e : Int))]) (rest := []) ⟨hx, hb, hml, hown, hts⟩ hK hM hC1 (cuV (n := 1) hts u_386 u_457 u_6 (by decide) u_384 u_385 ⟨Nat.le_of_ble_eq_true rfl, Nat.le_of_ble_eq_true rfl⟩) ⟨by omega, by omega⟩ hE0 rfl rfl hl.1 rfl (Nat.le_of_ble_eq_true rfl) dX7_remove_2 ⟨Nat.zero_le _, Nat.zero_le _⟩ (fun r2 f2 H locs hM hp3 => ?_)
  obtain ⟨rfl, rfl⟩ := hp3
  refine g_ifb_ne (tgt := 13) hx hb dX7_remove_5 (by decide) (fun c5 => ?_) (fun c5 => ?_)
  · skip
    refine lv_iload_n hx hb dX7_remove_13 rfl (lv_at hl 1 rfl) ?_
    refine lv_istore_n (lv' := [(2, .int (zI (↑e : Int))), (0, .ref h), (1, .int (zI (↑e : Int)))]) hx hb dX7_remove_14 rfl hl (by decide) rfl (fun ls hl => ?_)
    have lp15 : ∀ (k : Nat), ∀ (i : Nat) (fL : gF) (H : Heap) (locs : List Loc) (ls : Array Slot), (6 - i < k) → (e ≤ i) → ((i : Int) < P 8) → (∀ q, (q < h ∨ h + 4 ≤ q) → fL q = f q) → gH g b0 n fL s.heap H locs → (fL h = .inr (9, [.ref (h + 1), .ref (h + 2), .ref (h + 3), .int (zI (P 8))])) → (arI g fL (h + 1) 6 (fun k => shA P 51 3 e i k)) → (arI g fL (h + 2) 6 (fun k => shA P 52 3 e i k)) → (arI g fL (h + 3) 6 (fun k => shA P 53 3 e i k)) → lv_has ls 3 [(0, .ref h), (1, .int (zI (↑e : Int))), (2, .int (zI (↑i : Int)))] → W p l e0 { frames := 1, cells := 0, slots := 0, locals := 21 } s m args below meth c H locs 0 0 (MQ below (va_Qi (po_X7_remove g f h P e) (gB g b0 n) (gA b0)) args s 0 0 (gA b0)) (F0 m 15 ls []) := by
      intro k
      induction k with
      | zero =>
        intro i fL H locs ls hk hi1 hi hfr hM hL0 hL1 hL2 hL3 hl
        exact absurd hk (Nat.not_lt_zero _)
      | succ k ih =>
        intro i fL H locs ls hk hi1 hi hfr hM hL0 hL1 hL2 hL3 hl
        refine lv_iload_n hx hb dX7_remove_15 rfl (lv_at hl 2 rfl) ?_
        refine g_iconst hx hb dX7_remove_16 ?_
        refine g_iadd hx hb dX7_remove_17 ?_
        refine lv_aload_n hx hb dX7_remove_18 rfl (lv_at hl 0 rfl) ?_
        refine g_get (ci := 9) (v := .int (zI (P 8))) (C := RX7) (T := TX7) (N := 4) hx hb hts iU_X7 hown hK hM ⟨by omega, by omega⟩ hL0 rfl 3 (by decide) (hts _ u_87) (fun _ h9 => h9) rfl dX7_remove_19 ?_
        refine g_icmp_ge (tgt := 81) hx hb dX7_remove_22 (by decide) ⟨by omega, by omega⟩ ⟨by omega, by omega⟩ (fun c22 => ?_) (fun c22 => ?_)
        · skip
          refine lv_aload_n hx hb dX7_remove_81 rfl (lv_at hl 0 rfl) ?_
          refine lv_dup hx hb dX7_remove_82 rfl ?_
          refine g_get (ci := 9) (v := .int (zI (P 8))) (C := RX7) (T := TX7) (N := 4) hx hb hts iU_X7 hown hK hM ⟨by omega, by omega⟩ hL0 rfl 3 (by decide) (hts _ u_87) (fun _ h9 => h9) rfl dX7_remove_83 ?_
          refine g_iconst hx hb dX7_remove_86 ?_
          refine g_isub hx hb dX7_remove_87 ?_
          refine g_put (ci := 9) (v := .int (zI ((P 8) - 1))) (ty := .int) (C := RX7) (T := TX7) (N := 4) hx hb hts iU_X7 tyX7 tyX7_ok nmX7 hown hK hM ⟨by omega, by omega⟩ hL0 rfl 3 (by decide) (hts _ u_87) (fun _ h9 => h9) rfl (by decide +kernel) rfl rfl (Nat.le_of_ble_eq_true rfl) dX7_remove_88 (fun f4 H locs hM hf6 o5 => ?_)
          have hf6 : f4 (h) = .inr (9, [.ref (h + 1), .ref (h + 2), .ref (h + 3), .int (zI ((P 8) - 1))]) := hf6
          refine lv_aload_n hx hb dX7_remove_91 rfl (lv_at hl 0 rfl) ?_
          refine g_get (ci := 9) (v := .int (zI ((P 8) - 1))) (C := RX7) (T := TX7) (N := 4) hx hb hts iU_X7 hown hK hM ⟨by omega, by omega⟩ hf6 rfl 3 (by decide) (hts _ u_87) (fun _ h9 => h9) rfl dX7_remove_92 ?_
          have hf7 := hL1.kept (o5 (h + 1) (by omega))
          have hf8 := hL2.kept (o5 (h + 2) (by omega))
          have hf9 := hL3.kept (o5 (h + 3) (by omega))
          refine g_iret hx hb hr hlk hK hM dX7_remove_95 ?_
          have hi2 : (i : Int) = P 8 - 1 := by omega
          exact ⟨rfl, ⟨hf6.trans (by simp only [sRem, shA, pu, ↓reduceIte] <;> (repeat' split) <;> first | rfl | omega | (congr 1; omega) | (congr 2; omega)), hf7.cong (fun k hk => by simp only [sRem, shA, pu, ↓reduceIte] <;> (repeat' split) <;> first | rfl | omega | (congr 1; omega) | (congr 2; omega)), hf8.cong (fun k hk => by simp only [sRem, shA, pu, ↓reduceIte] <;> (repeat' split) <;> first | rfl | omega | (congr 1; omega) | (congr 2; omega)), hf9.cong (fun k hk => by simp only [sRem, shA, pu, ↓reduceIte] <;> (repeat' split) <;> first | rfl | omega | (congr 1; omega) | (congr 2; omega))⟩, (fun q hq => ((o5 (q) (by omega)).trans (hfr (q) (by omega))))⟩
        · skip
          refine lv_iload_n hx hb dX7_remove_25 rfl (lv_at hl 2 rfl) ?_
          refine g_iconst hx hb dX7_remove_26 ?_
          refine g_iadd hx hb dX7_remove_27 ?_
          refine g_bipush hx hb dX7_remove_28 (by decide) ?_
          refine g_icmp_ge (tgt := 81) hx hb dX7_remove_30 (by decide) ⟨by omega, by omega⟩ (by decide) (fun c30 => ?_) (fun c30 => ?_)
          · skip
            refine lv_aload_n hx hb dX7_remove_81 rfl (lv_at hl 0 rfl) ?_
            refine lv_dup hx hb dX7_remove_82 rfl ?_
            refine g_get (ci := 9) (v := .int (zI (P 8))) (C := RX7) (T := TX7) (N := 4) hx hb hts iU_X7 hown hK hM ⟨by omega, by omega⟩ hL0 rfl 3 (by decide) (hts _ u_87) (fun _ h9 => h9) rfl dX7_remove_83 ?_
            refine g_iconst hx hb dX7_remove_86 ?_
            refine g_isub hx hb dX7_remove_87 ?_
            refine g_put (ci := 9) (v := .int (zI ((P 8) - 1))) (ty := .int) (C := RX7) (T := TX7) (N := 4) hx hb hts iU_X7 tyX7 tyX7_ok nmX7 hown hK hM ⟨by omega, by omega⟩ hL0 rfl 3 (by decide) (hts _ u_87) (fun _ h9 => h9) rfl (by decide +kernel) rfl rfl (Nat.le_of_ble_eq_true rfl) dX7_remove_88 (fun f10 H locs hM hf12 o11 => ?_)
            have hf12 : f10 (h) = .inr (9, [.ref (h + 1), .ref (h + 2), .ref (h + 3), .int (zI ((P 8) - 1))]) := hf12
            refine lv_aload_n hx hb dX7_remove_91 rfl (lv_at hl 0 rfl) ?_
            refine g_get (ci := 9) (v := .int (zI ((P 8) - 1))) (C := RX7) (T := TX7) (N := 4) hx hb hts iU_X7 hown hK hM ⟨by omega, by omega⟩ hf12 rfl 3 (by decide) (hts _ u_87) (fun _ h9 => h9) rfl dX7_remove_92 ?_
            have hf13 := hL1.kept (o11 (h + 1) (by omega))
            have hf14 := hL2.kept (o11 (h + 2) (by omega))
            have hf15 := hL3.kept (o11 (h + 3) (by omega))
            refine g_iret hx hb hr hlk hK hM dX7_remove_95 ?_
            have hi2 : (i : Int) = P 8 - 1 := by omega
            exact ⟨rfl, ⟨hf12.trans (by simp only [sRem, shA, pu, ↓reduceIte] <;> (repeat' split) <;> first | rfl | omega | (congr 1; omega) | (congr 2; omega)), hf13.cong (fun k hk => by simp only [sRem, shA, pu, ↓reduceIte] <;> (repeat' split) <;> first | rfl | omega | (congr 1; omega) | (congr 2; omega)), hf14.cong (fun k hk => by simp only [sRem, shA, pu, ↓reduceIte] <;> (repeat' split) <;> first | rfl | omega | (congr 1; omega) | (congr 2; omega)), hf15.cong (fun k hk => by simp only [sRem, shA, pu, ↓reduceIte] <;> (repeat' split) <;> first | rfl | omega | (congr 1; omega) | (congr 2; omega))⟩, (fun q hq => ((o11 (q) (by omega)).trans (hfr (q) (by omega))))⟩
          · skip
            refine lv_aload_n hx hb dX7_remove_33 rfl (lv_at hl 0 rfl) ?_
            refine g_get (ci := 9) (v := .ref (h + 1)) (C := RX7) (T := TX7) (N := 4) hx hb hts iU_X7 hown hK hM ⟨by omega, by omega⟩ hL0 rfl 0 (by decide) (hts _ u_81) (fun _ h9 => h9) rfl dX7_remove_34 ?_
            refine lv_iload_n hx hb dX7_remove_37 rfl (lv_at hl 2 rfl) ?_
            refine lv_aload_n hx hb dX7_remove_38 rfl (lv_at hl 0 rfl) ?_
            refine g_get (ci := 9) (v := .ref (h + 1)) (C := RX7) (T := TX7) (N := 4) hx hb hts iU_X7 hown hK hM ⟨by omega, by omega⟩ hL0 rfl 0 (by decide) (hts _ u_81) (fun _ h9 => h9) rfl dX7_remove_39 ?_
            refine lv_iload_n hx hb dX7_remove_42 rfl (lv_at hl 2 rfl) ?_
            refine g_iconst hx hb dX7_remove_43 ?_
            refine g_iadd hx hb dX7_remove_44 ?_
            refine g_iald hx hb hK hM ⟨by omega, by omega⟩ hL1 (by omega) (by omega) (by decide) dX7_remove_45 ?_
            show W _ _ _ _ _ _ _ _ _ _ _ _ _ _ _ (F0 _ _ _ (.int (zI (shA P 51 3 e i (i + 1))) :: _))
            refine g_iast hx hb hK hM ⟨by omega, by omega⟩ hL1 (by omega) (by omega) (by decide) dX7_remove_46 (fun f16 H locs hM ha18 o17 => ?_)
            refine lv_aload_n hx hb dX7_remove_47 rfl (lv_at hl 0 rfl) ?_
            have hf19 : f16 (h) = .inr (9, [.ref (h + 1), .ref (h + 2), .ref (h + 3), .int (zI (P 8))]) := (o17 (h) (by omega)).trans hL0
            refine g_get (ci := 9) (v := .ref (h + 2)) (C := RX7) (T := TX7) (N := 4) hx hb hts iU_X7 hown hK hM ⟨by omega, by omega⟩ hf19 rfl 1 (by decide) (hts _ u_83) (fun _ h9 => h9) rfl dX7_remove_48 ?_
            refine lv_iload_n hx hb dX7_remove_51 rfl (lv_at hl 2 rfl) ?_
            refine lv_aload_n hx hb dX7_remove_52 rfl (lv_at hl 0 rfl) ?_
            refine g_get (ci := 9) (v := .ref (h + 2)) (C := RX7) (T := TX7) (N := 4) hx hb hts iU_X7 hown hK hM ⟨by omega, by omega⟩ hf19 rfl 1 (by decide) (hts _ u_83) (fun _ h9 => h9) rfl dX7_remove_53 ?_
            refine lv_iload_n hx hb dX7_remove_56 rfl (lv_at hl 2 rfl) ?_
            refine g_iconst hx hb dX7_remove_57 ?_
            refine g_iadd hx hb dX7_remove_58 ?_
            have hf20 := hL2.kept (o17 (h + 2) (by omega))
            refine g_iald hx hb hK hM ⟨by omega, by omega⟩ hf20 (by omega) (by omega) (by decide) dX7_remove_59 ?_
            show W _ _ _ _ _ _ _ _ _ _ _ _ _ _ _ (F0 _ _ _ (.int (zI (shA P 52 3 e i (i + 1))) :: _))
            refine g_iast hx hb hK hM ⟨by omega, by omega⟩ hf20 (by omega) (by omega) (by decide) dX7_remove_60 (fun f21 H locs hM ha23 o22 => ?_)
            refine lv_aload_n hx hb dX7_remove_61 rfl (lv_at hl 0 rfl) ?_
            have hf24 : f21 (h) = .inr (9, [.ref (h + 1), .ref (h + 2), .ref (h + 3), .int (zI (P 8))]) := (o22 (h) (by omega)).trans hf19
            refine g_get (ci := 9) (v := .ref (h + 3)) (C := RX7) (T := TX7) (N := 4) hx hb hts iU_X7 hown hK hM ⟨by omega, by omega⟩ hf24 rfl 2 (by decide) (hts _ u_85) (fun _ h9 => h9) rfl dX7_remove_62 ?_
            refine lv_iload_n hx hb dX7_remove_65 rfl (lv_at hl 2 rfl) ?_
            refine lv_aload_n hx hb dX7_remove_66 rfl (lv_at hl 0 rfl) ?_
            refine g_get (ci := 9) (v := .ref (h + 3)) (C := RX7) (T := TX7) (N := 4) hx hb hts iU_X7 hown hK hM ⟨by omega, by omega⟩ hf24 rfl 2 (by decide) (hts _ u_85) (fun _ h9 => h9) rfl dX7_remove_67 ?_
            refine lv_iload_n hx hb dX7_remove_70 rfl (lv_at hl 2 rfl) ?_
            refine g_iconst hx hb dX7_remove_71 ?_
            refine g_iadd hx hb dX7_remove_72 ?_
            have hf25 := hL3.kept ((o22 (h + 3) (by omega)).trans (o17 (h + 3) (by omega)))
            refine g_iald hx hb hK hM ⟨by omega, by omega⟩ hf25 (by omega) (by omega) (by decide) dX7_remove_73 ?_
            show W _ _ _ _ _ _ _ _ _ _ _ _ _ _ _ (F0 _ _ _ (.int (zI (shA P 53 3 e i (i + 1))) :: _))
            refine g_iast hx hb hK hM ⟨by omega, by omega⟩ hf25 (by omega) (by omega) (by decide) dX7_remove_74 (fun f26 H locs hM ha28 o27 => ?_)
            refine lv_iinc (v := zI ((↑i : Int) + 1)) (lv' := [(2, .int (zI ((↑i : Int) + 1))), (0, .ref h), (1, .int (zI (↑e : Int)))]) hx hb dX7_remove_75 hl (k := 2) rfl (zI_add _ _) (by decide) rfl (fun ls hl => ?_)
            refine lv_goto (tgt := 15) hx hb dX7_remove_78 (by decide) ?_
            have hf29 : f26 (h) = .inr (9, [.ref (h + 1), .ref (h + 2), .ref (h + 3), .int (zI (P 8))]) := (o27 (h) (by omega)).trans hf24
            have hf30 := ha18.kept ((o27 (h + 1) (by omega)).trans (o22 (h + 1) (by omega)))
            have hf31 := ha23.kept (o27 (h + 2) (by omega))
            exact ih (i + 1) f26 _ _ _ (by omega) (by omega) (by omega) (fun q hq => ((o27 (q) (by omega)).trans ((o22 (q) (by omega)).trans ((o17 (q) (by omega)).trans (hfr (q) (by omega)))))) hM hf29 (hf30.cong (fun k hk => by simp only [shA, pu] <;> (repeat' split) <;> first | rfl | omega | (congr 1; omega))) (hf31.cong (fun k hk => by simp only [shA, pu] <;> (repeat' split) <;> first | rfl | omega | (congr 1; omega))) (ha28.cong (fun k hk => by simp only [shA, pu] <;> (repeat' split) <;> first | rfl | omega | (congr 1; omega))) (lv_sub hl [1, 2, 0] rfl)
    exact lp15 (7) e f _ _ _ (by omega) (by omega) (by omega) (fun q hq => rfl) hM hE0 (hE1.cong (fun k hk => by simp only [shA, pu] <;> (repeat' split) <;> first | rfl | omega | (congr 1; omega))) (hE2.cong (fun k hk => by simp only [shA, pu] <;> (repeat' split) <;> first | rfl | omega | (congr 1; omega))) (hE3.cong (fun k hk => by simp only [shA, pu] <;> (repeat' split) <;> first | rfl | omega | (congr 1; omega))) (lv_sub hl [1, 2, 0] rfl)
  · skip
    refine lv_aload_n hx hb dX7_remove_8 rfl (lv_at hl 0 rfl) ?_
    refine g_get (ci := 9) (v := .int (zI (P 8))) (C := RX7) (T := TX7) (N := 4) hx hb hts iU_X7 hown hK hM ⟨by omega, by omega⟩ hE0 rfl 3 (by decide) (hts _ u_87) (fun _ h9 => h9) rfl dX7_remove_9 ?_
    refine g_iret hx hb hr hlk hK hM dX7_remove_12 ?_
    exfalso; omega

def po_X7_copyFrom (g : gE) (f : gF) (h h2 : Nat) (P P2 : Nat → Int) : gF → Prop := fun f1 => ruleAt g f1 h P2 ∧ ∀ q, (q < h ∨ h + 4 ≤ q) → f1 q = f q
set_option maxRecDepth 100000 in
set_option maxHeartbeats 4000000 in
/-- copyFrom(other) -/
theorem c_X7_copyFrom (l : Launch) (g : gE) (b0 n : Nat) (f : gF) (h h2 : Nat) (P P2 : Nat → Int) (hE : ruleAt g f h P) (hG : ruleAt g f h2 P2) (hrg : b0 ≤ h ∧ h + 4 ≤ b0 + n) (hrg2 : b0 ≤ h2 ∧ h2 + 4 ≤ b0 + n) (hd : h + 4 ≤ h2 ∨ h2 + 4 ≤ h) : cV l yX7_copyFrom cX7_copyFrom 2 none 1 60 [.ref h, .ref h2] g b0 n f (po_X7_copyFrom g f h h2 P P2) := by
  refine gs_v (cc := cX7_copyFrom) (maxL := 2) (ret := none) (by decide) (Nat.le_of_ble_eq_true rfl) ?_
  intro p e0 s m args below meth c ls hx hb hr hml hown hts hlk hK hM hl
  have hl : lv_has ls 2 [(0, .ref h), (1, .ref h2)] := hl
  obtain ⟨hE0, hE1, hE2, hE3⟩ := hE
  obtain ⟨hG0, hG1, hG2, hG3⟩ := hG
  refine lv_aload_n hx hb dX7_copyFrom_0 rfl (lv_at hl 1 rfl) ?_
  refine g_get (ci := 9) (v := .ref (h2 + 1)) (C := RX7) (T := TX7) (N := 4) hx hb hts iU_X7 hown hK hM ⟨by omega, by omega⟩ hG0 rfl 0 (by decide) (hts _ u_81) (fun _ h9 => h9) rfl dX7_copyFrom_1 ?_
  refine g_iconst hx hb dX7_copyFrom_4 ?_
  refine lv_aload_n hx hb dX7_copyFrom_5 rfl (lv_at hl 0 rfl) ?_
  refine g_get (ci := 9) (v := .ref (h + 1)) (C := RX7) (T := TX7) (N := 4) hx hb hts iU_X7 hown hK hM ⟨by omega, by omega⟩ hE0 rfl 0 (by decide) (hts _ u_81) (fun _ h9 => h9) rfl dX7_copyFrom_6 ?_
  refine g_iconst hx hb dX7_copyFrom_9 ?_
  refine g_bipush hx hb dX7_copyFrom_10 (by decide) ?_
  refine g_copyI hx hb (hml.trans hl.1.symm) hown (hts _ u_573) hts hK hM ⟨by omega, by omega⟩ ⟨by omega, by omega⟩ hG1 hE1 rfl (by decide) (Nat.le_of_ble_eq_true rfl) (Nat.le_of_ble_eq_true rfl) dX7_copyFrom_12 (fun f1 H locs hM ha3 o2 => ?_)
  refine lv_aload_n hx hb dX7_copyFrom_15 rfl (lv_at hl 1 rfl) ?_
  have hf4 : f1 (h2) = .inr (9, [.ref (h2 + 1), .ref (h2 + 2), .ref (h2 + 3), .int (zI (P2 8))]) := (o2 (h2) (by omega)).trans hG0
  refine g_get (ci := 9) (v := .ref (h2 + 2)) (C := RX7) (T := TX7) (N := 4) hx hb hts iU_X7 hown hK hM ⟨by omega, by omega⟩ hf4 rfl 1 (by decide) (hts _ u_83) (fun _ h9 => h9) rfl dX7_copyFrom_16 ?_
  refine g_iconst hx hb dX7_copyFrom_19 ?_
  refine lv_aload_n hx hb dX7_copyFrom_20 rfl (lv_at hl 0 rfl) ?_
  have hf5 : f1 (h) = .inr (9, [.ref (h + 1), .ref (h + 2), .ref (h + 3), .int (zI (P 8))]) := (o2 (h) (by omega)).trans hE0
  refine g_get (ci := 9) (v := .ref (h + 2)) (C := RX7) (T := TX7) (N := 4) hx hb hts iU_X7 hown hK hM ⟨by omega, by omega⟩ hf5 rfl 1 (by decide) (hts _ u_83) (fun _ h9 => h9) rfl dX7_copyFrom_21 ?_
  refine g_iconst hx hb dX7_copyFrom_24 ?_
  refine g_bipush hx hb dX7_copyFrom_25 (by decide) ?_
  have hf6 := hG2.kept (o2 (h2 + 2) (by omega))
  have hf7 := hE2.kept (o2 (h + 2) (by omega))
  refine g_copyI hx hb (hml.trans hl.1.symm) hown (hts _ u_573) hts hK hM ⟨by omega, by omega⟩ ⟨by omega, by omega⟩ hf6 hf7 rfl (by decide) (Nat.le_of_ble_eq_true rfl) (Nat.le_of_ble_eq_true rfl) dX7_copyFrom_27 (fun f8 H locs hM ha10 o9 => ?_)
  refine lv_aload_n hx hb dX7_copyFrom_30 rfl (lv_at hl 1 rfl) ?_
  have hf11 : f8 (h2) = .inr (9, [.ref (h2 + 1), .ref (h2 + 2), .ref (h2 + 3), .int (zI (P2 8))]) := (o9 (h2) (by omega)).trans hf4
  refine g_get (ci := 9) (v := .ref (h2 + 3)) (C := RX7) (T := TX7) (N := 4) hx hb hts iU_X7 hown hK hM ⟨by omega, by omega⟩ hf11 rfl 2 (by decide) (hts _ u_85) (fun _ h9 => h9) rfl dX7_copyFrom_31 ?_
  refine g_iconst hx hb dX7_copyFrom_34 ?_
  refine lv_aload_n hx hb dX7_copyFrom_35 rfl (lv_at hl 0 rfl) ?_
  have hf12 : f8 (h) = .inr (9, [.ref (h + 1), .ref (h + 2), .ref (h + 3), .int (zI (P 8))]) := (o9 (h) (by omega)).trans hf5
  refine g_get (ci := 9) (v := .ref (h + 3)) (C := RX7) (T := TX7) (N := 4) hx hb hts iU_X7 hown hK hM ⟨by omega, by omega⟩ hf12 rfl 2 (by decide) (hts _ u_85) (fun _ h9 => h9) rfl dX7_copyFrom_36 ?_
  refine g_iconst hx hb dX7_copyFrom_39 ?_
  refine g_bipush hx hb dX7_copyFrom_40 (by decide) ?_
  have hf13 := hG3.kept ((o9 (h2 + 3) (by omega)).trans (o2 (h2 + 3) (by omega)))
  have hf14 := hE3.kept ((o9 (h + 3) (by omega)).trans (o2 (h + 3) (by omega)))
  refine g_copyI hx hb (hml.trans hl.1.symm) hown (hts _ u_573) hts hK hM ⟨by omega, by omega⟩ ⟨by omega, by omega⟩ hf13 hf14 rfl (by decide) (Nat.le_of_ble_eq_true rfl) (Nat.le_of_ble_eq_true rfl) dX7_copyFrom_42 (fun f15 H locs hM ha17 o16 => ?_)
  refine lv_aload_n hx hb dX7_copyFrom_45 rfl (lv_at hl 0 rfl) ?_
  refine lv_aload_n hx hb dX7_copyFrom_46 rfl (lv_at hl 1 rfl) ?_
  have hf18 : f15 (h2) = .inr (9, [.ref (h2 + 1), .ref (h2 + 2), .ref (h2 + 3), .int (zI (P2 8))]) := (o16 (h2) (by omega)).trans hf11
  refine g_get (ci := 9) (v := .int (zI (P2 8))) (C := RX7) (T := TX7) (N := 4) hx hb hts iU_X7 hown hK hM ⟨by omega, by omega⟩ hf18 rfl 3 (by decide) (hts _ u_87) (fun _ h9 => h9) rfl dX7_copyFrom_47 ?_
  have hf19 : f15 (h) = .inr (9, [.ref (h + 1), .ref (h + 2), .ref (h + 3), .int (zI (P 8))]) := (o16 (h) (by omega)).trans hf12
  refine g_put (ci := 9) (v := .int (zI (P2 8))) (ty := .int) (C := RX7) (T := TX7) (N := 4) hx hb hts iU_X7 tyX7 tyX7_ok nmX7 hown hK hM ⟨by omega, by omega⟩ hf19 rfl 3 (by decide) (hts _ u_87) (fun _ h9 => h9) rfl (by decide +kernel) rfl rfl (Nat.le_of_ble_eq_true rfl) dX7_copyFrom_50 (fun f20 H locs hM hf22 o21 => ?_)
  have hf22 : f20 (h) = .inr (9, [.ref (h + 1), .ref (h + 2), .ref (h + 3), .int (zI (P2 8))]) := hf22
  have hf23 := ha3.kept ((o21 (h + 1) (by omega)).trans ((o16 (h + 1) (by omega)).trans (o9 (h + 1) (by omega))))
  have hf24 := ha10.kept ((o21 (h + 2) (by omega)).trans (o16 (h + 2) (by omega)))
  have hf25 := ha17.kept (o21 (h + 3) (by omega))
  refine g_vret hx hb hr hlk hK hM dX7_copyFrom_53 ?_
  exact ⟨⟨hf22, hf23.cong (fun k hk => by simp only [pu, ↓reduceIte] <;> (repeat' split) <;> first | rfl | omega | (congr 1; omega) | (congr 2; omega)), hf24.cong (fun k hk => by simp only [pu, ↓reduceIte] <;> (repeat' split) <;> first | rfl | omega | (congr 1; omega) | (congr 2; omega)), hf25.cong (fun k hk => by simp only [pu, ↓reduceIte] <;> (repeat' split) <;> first | rfl | omega | (congr 1; omega) | (congr 2; omega))⟩, (fun q hq => ((o21 (q) (by omega)).trans ((o16 (q) (by omega)).trans ((o9 (q) (by omega)).trans (o2 (q) (by omega))))))⟩

def po_X4_has (g : gE) (f : gF) (h : Nat) (P : Nat → Int) (e : Int) : Int32 → gF → Prop := fun r f1 => r = bI (0 ≤ e ∧ e < P 9) ∧ f = f1
set_option maxRecDepth 100000 in
set_option maxHeartbeats 4000000 in
/-- has -/
theorem c_X4_has (l : Launch) (g : gE) (b0 n : Nat) (f : gF) (h : Nat) (P : Nat → Int) (e : Int) (hE : linkAt g f h P) (hrg : b0 ≤ h ∧ h + 6 ≤ b0 + n) (hcn : 0 ≤ P 9 ∧ P 9 ≤ 6) (hre : rI e) : cI l yX4_has cX4_has 2 (some .boolean) 0 0 [.ref h, .int (zI e)] g b0 n f (po_X4_has g f h P e) := by
  refine gs_i (cc := cX4_has) (maxL := 2) (ret := (some .boolean)) (by decide) (Nat.le_of_ble_eq_true rfl) ?_
  intro p e0 s m args below meth c ls hx hb hr hml hown hts hlk hK hM hl
  have hl : lv_has ls 2 [(0, .ref h), (1, .int (zI e))] := hl
  obtain ⟨hE0, hE1, hE2, hE3, hE4, hE5⟩ := hE
  have hzn := hcn.1
  have hzm := hcn.2
  refine lv_iload_n hx hb dX4_has_0 rfl (lv_at hl 1 rfl) ?_
  refine g_if_lt (tgt := 22) hx hb dX4_has_1 (by decide) hre (fun c1 => ?_) (fun c1 => ?_)
  · skip
    refine g_iconst hx hb dX4_has_22 ?_
    refine g_zret hx hb hr hlk hK hM dX4_has_23 rfl ?_
    refine ⟨?_, rfl⟩
    show zI 0 = _
    first | exact (bI_t (by omega)).symm | exact (bI_f (by omega)).symm
  · skip
    refine lv_iload_n hx hb dX4_has_4 rfl (lv_at hl 1 rfl) ?_
    refine lv_aload_n hx hb dX4_has_5 rfl (lv_at hl 0 rfl) ?_
    refine g_get (ci := 6) (v := .int (zI (P 9))) (C := RX4) (T := TX4) (N := 6) hx hb hts iU_X4 hown hK hM ⟨by omega, by omega⟩ hE0 rfl 5 (by decide) (hts _ u_114) (fun _ h9 => h9) rfl dX4_has_6 ?_
    refine g_icmp_ge (tgt := 22) hx hb dX4_has_9 (by decide) hre ⟨by omega, by omega⟩ (fun c9 => ?_) (fun c9 => ?_)
    · skip
      refine g_iconst hx hb dX4_has_22 ?_
      refine g_zret hx hb hr hlk hK hM dX4_has_23 rfl ?_
      refine ⟨?_, rfl⟩
      show zI 0 = _
      first | exact (bI_t (by omega)).symm | exact (bI_f (by omega)).symm
    · skip
      refine lv_iload_n hx hb dX4_has_12 rfl (lv_at hl 1 rfl) ?_
      refine g_bipush hx hb dX4_has_13 (by decide) ?_
      refine g_icmp_ge (tgt := 22) hx hb dX4_has_15 (by decide) hre (by decide) (fun c15 => ?_) (fun c15 => ?_)
      · skip
        refine g_iconst hx hb dX4_has_22 ?_
        refine g_zret hx hb hr hlk hK hM dX4_has_23 rfl ?_
        refine ⟨?_, rfl⟩
        show zI 0 = _
        first | exact (bI_t (by omega)).symm | exact (bI_f (by omega)).symm
      · skip
        refine g_iconst hx hb dX4_has_18 ?_
        refine lv_goto (tgt := 23) hx hb dX4_has_19 (by decide) ?_
        refine g_zret hx hb hr hlk hK hM dX4_has_23 rfl ?_
        refine ⟨?_, rfl⟩
        show zI 1 = _
        first | exact (bI_t (by omega)).symm | exact (bI_f (by omega)).symm

def po_X4_numberOf (g : gE) (f : gF) (h : Nat) (P : Nat → Int) (e w : Nat) : Int64 → gF → Prop := fun r f1 => r = zL (P (69 + 5 * e + w)) ∧ f = f1
set_option maxRecDepth 100000 in
set_option maxHeartbeats 4000000 in
/-- numberOf -/
theorem c_X4_numberOf (l : Launch) (g : gE) (b0 n : Nat) (f : gF) (h : Nat) (P : Nat → Int) (e w : Nat) (hE : linkAt g f h P) (hrg : b0 ≤ h ∧ h + 6 ≤ b0 + n) (hcn : 0 ≤ P 9 ∧ P 9 ≤ 6) (he : (e : Int) < P 9) (hw : w < 5) (hrn : ∀ j, j < 4 → rI (P (69 + 5 * e + j))) : cL l yX4_numberOf cX4_numberOf 3 (some .long) 1 21 [.ref h, .int (zI (↑e : Int)), .int (zI (↑w : Int))] g b0 n f (po_X4_numberOf g f h P e w) := by
  refine gs_l (cc := cX4_numberOf) (maxL := 3) (ret := (some .long)) (by decide) (Nat.le_of_ble_eq_true rfl) ?_
  intro p e0 s m args below meth c ls hx hb hr hml hown hts hlk hK hM hl
  have hl : lv_has ls 3 [(0, .ref h), (1, .int (zI (↑e : Int))), (2, .int (zI (↑w : Int)))] := hl
  have hE9 := hE
  obtain ⟨hE0, hE1, hE2, hE3, hE4, hE5⟩ := hE
  have hzn := hcn.1
  have hzm := hcn.2
  have hen : e < 6 := by omega
  have hrn0 : rI (P (69 + 5 * e)) := by have := hrn 0 (by omega); rwa [show 69 + 5 * e + 0 = 69 + 5 * e by omega] at this
  have hrn1 : rI (P (70 + 5 * e)) := by have := hrn 1 (by omega); rwa [show 69 + 5 * e + 1 = 70 + 5 * e by omega] at this
  have hrn2 : rI (P (71 + 5 * e)) := by have := hrn 2 (by omega); rwa [show 69 + 5 * e + 2 = 71 + 5 * e by omega] at this
  have hrn3 : rI (P (72 + 5 * e)) := by have := hrn 3 (by omega); rwa [show 69 + 5 * e + 3 = 72 + 5 * e by omega] at this
  refine lv_aload_n hx hb dX4_numberOf_0 rfl (lv_at hl 0 rfl) ?_
  refine lv_iload_n hx hb dX4_numberOf_1 rfl (lv_at hl 1 rfl) ?_
  have hC1 := c_X4_has l g b0 n f h P (↑e : Int) hE9 hrg hcn ⟨by omega, by omega⟩
  refine g_callVi (ci := 6) (C := RX4) (T := TX4) (N := 6) (As := [.int (zI (↑e : Int))]) (rest := []) ⟨hx, hb, hml, hown, hts⟩ hK hM hC1 (cuV (n := 1) hts u_390 u_466 u_7 (by decide) u_388 u_389 ⟨Nat.le_of_ble_eq_true rfl, Nat.le_of_ble_eq_true rfl⟩) ⟨by omega, by omega⟩ hE0 rfl rfl hl.1 rfl (Nat.le_of_ble_eq_true rfl) dX4_numberOf_2 ⟨Nat.zero_le _, Nat.zero_le _⟩ (fun r2 f2 H locs hM hp3 => ?_)
  obtain ⟨rfl, rfl⟩ := hp3
  refine g_ifb_ne (tgt := 10) hx hb dX4_numberOf_5 (by decide) (fun c5 => ?_) (fun c5 => ?_)
  · skip
    refine lv_iload_n hx hb dX4_numberOf_10 rfl (lv_at hl 2 rfl) ?_
    have hz11 := zI_toInt (z := (↑w : Int)) ⟨by omega, by omega⟩
    rcases g_sw (0) (3) (↑w : Int) with c11 | c11
    · refine lv_tableOut (tgt := 72) hx hb dX4_numberOf_11 (by rw [hz11]; exact c11) (by decide) ?_
      refine lv_aload_n hx hb dX4_numberOf_72 rfl (lv_at hl 0 rfl) ?_
      refine g_get (ci := 6) (v := .ref (h + 5)) (C := RX4) (T := TX4) (N := 6) hx hb hts iU_X4 hown hK hM ⟨by omega, by omega⟩ hE0 rfl 4 (by decide) (hts _ u_112) (fun _ h9 => h9) rfl dX4_numberOf_73 ?_
      refine lv_iload_n hx hb dX4_numberOf_76 rfl (lv_at hl 1 rfl) ?_
      refine g_lald hx hb hK hM ⟨by omega, by omega⟩ hE5 (by omega) (by omega) (by decide) dX4_numberOf_77 ?_
      show W _ _ _ _ _ _ _ _ _ _ _ _ _ _ _ (F0 _ _ _ (.long (zL (P (73 + 5 * e))) :: _))
      refine g_lret hx hb hr hlk hK hM dX4_numberOf_78 ?_
      refine ⟨?_, rfl⟩
      exact congrArg (fun j => zL (P j)) (by omega)
    · rcases (show (↑w : Int) = 0 ∨ (↑w : Int) = 1 ∨ (↑w : Int) = 2 ∨ (↑w : Int) = 3 by omega) with c11 | c11 | c11 | c11
      · refine lv_tableIn (off := 29) (tgt := 40) hx hb dX4_numberOf_11 (by rw [hz11, c11]; decide) (by rw [hz11, c11]; decide) (by rw [hz11, c11]; decide) (by decide) ?_
        refine lv_aload_n hx hb dX4_numberOf_40 rfl (lv_at hl 0 rfl) ?_
        refine g_get (ci := 6) (v := .ref (h + 1)) (C := RX4) (T := TX4) (N := 6) hx hb hts iU_X4 hown hK hM ⟨by omega, by omega⟩ hE0 rfl 0 (by decide) (hts _ u_104) (fun _ h9 => h9) rfl dX4_numberOf_41 ?_
        refine lv_iload_n hx hb dX4_numberOf_44 rfl (lv_at hl 1 rfl) ?_
        refine g_iald hx hb hK hM ⟨by omega, by omega⟩ hE1 (by omega) (by omega) (by decide) dX4_numberOf_45 ?_
        show W _ _ _ _ _ _ _ _ _ _ _ _ _ _ _ (F0 _ _ _ (.int (zI (P (69 + 5 * e))) :: _))
        refine g_i2l hx hb dX4_numberOf_46 hrn0 ?_
        refine g_lret hx hb hr hlk hK hM dX4_numberOf_47 ?_
        refine ⟨?_, rfl⟩
        exact congrArg (fun j => zL (P j)) (by omega)
      · refine lv_tableIn (off := 37) (tgt := 48) hx hb dX4_numberOf_11 (by rw [hz11, c11]; decide) (by rw [hz11, c11]; decide) (by rw [hz11, c11]; decide) (by decide) ?_
        refine lv_aload_n hx hb dX4_numberOf_48 rfl (lv_at hl 0 rfl) ?_
        refine g_get (ci := 6) (v := .ref (h + 2)) (C := RX4) (T := TX4) (N := 6) hx hb hts iU_X4 hown hK hM ⟨by omega, by omega⟩ hE0 rfl 1 (by decide) (hts _ u_106) (fun _ h9 => h9) rfl dX4_numberOf_49 ?_
        refine lv_iload_n hx hb dX4_numberOf_52 rfl (lv_at hl 1 rfl) ?_
        refine g_iald hx hb hK hM ⟨by omega, by omega⟩ hE2 (by omega) (by omega) (by decide) dX4_numberOf_53 ?_
        show W _ _ _ _ _ _ _ _ _ _ _ _ _ _ _ (F0 _ _ _ (.int (zI (P (70 + 5 * e))) :: _))
        refine g_i2l hx hb dX4_numberOf_54 hrn1 ?_
        refine g_lret hx hb hr hlk hK hM dX4_numberOf_55 ?_
        refine ⟨?_, rfl⟩
        exact congrArg (fun j => zL (P j)) (by omega)
      · refine lv_tableIn (off := 45) (tgt := 56) hx hb dX4_numberOf_11 (by rw [hz11, c11]; decide) (by rw [hz11, c11]; decide) (by rw [hz11, c11]; decide) (by decide) ?_
        refine lv_aload_n hx hb dX4_numberOf_56 rfl (lv_at hl 0 rfl) ?_
        refine g_get (ci := 6) (v := .ref (h + 3)) (C := RX4) (T := TX4) (N := 6) hx hb hts iU_X4 hown hK hM ⟨by omega, by omega⟩ hE0 rfl 2 (by decide) (hts _ u_108) (fun _ h9 => h9) rfl dX4_numberOf_57 ?_
        refine lv_iload_n hx hb dX4_numberOf_60 rfl (lv_at hl 1 rfl) ?_
        refine g_iald hx hb hK hM ⟨by omega, by omega⟩ hE3 (by omega) (by omega) (by decide) dX4_numberOf_61 ?_
        show W _ _ _ _ _ _ _ _ _ _ _ _ _ _ _ (F0 _ _ _ (.int (zI (P (71 + 5 * e))) :: _))
        refine g_i2l hx hb dX4_numberOf_62 hrn2 ?_
        refine g_lret hx hb hr hlk hK hM dX4_numberOf_63 ?_
        refine ⟨?_, rfl⟩
        exact congrArg (fun j => zL (P j)) (by omega)
      · refine lv_tableIn (off := 53) (tgt := 64) hx hb dX4_numberOf_11 (by rw [hz11, c11]; decide) (by rw [hz11, c11]; decide) (by rw [hz11, c11]; decide) (by decide) ?_
        refine lv_aload_n hx hb dX4_numberOf_64 rfl (lv_at hl 0 rfl) ?_
        refine g_get (ci := 6) (v := .ref (h + 4)) (C := RX4) (T := TX4) (N := 6) hx hb hts iU_X4 hown hK hM ⟨by omega, by omega⟩ hE0 rfl 3 (by decide) (hts _ u_110) (fun _ h9 => h9) rfl dX4_numberOf_65 ?_
        refine lv_iload_n hx hb dX4_numberOf_68 rfl (lv_at hl 1 rfl) ?_
        refine g_iald hx hb hK hM ⟨by omega, by omega⟩ hE4 (by omega) (by omega) (by decide) dX4_numberOf_69 ?_
        show W _ _ _ _ _ _ _ _ _ _ _ _ _ _ _ (F0 _ _ _ (.int (zI (P (72 + 5 * e))) :: _))
        refine g_i2l hx hb dX4_numberOf_70 hrn3 ?_
        refine g_lret hx hb hr hlk hK hM dX4_numberOf_71 ?_
        refine ⟨?_, rfl⟩
        exact congrArg (fun j => zL (P j)) (by omega)
  · skip
    refine g_lconst (z := 0) hx hb dX4_numberOf_8 (by decide) ?_
    refine g_lret hx hb hr hlk hK hM dX4_numberOf_9 ?_
    exfalso; omega

def po_X4_append (g : gE) (f : gF) (h : Nat) (P : Nat → Int) (c0 : Nat) (a b x y : Int) : Int32 → gF → Prop := fun r f1 => r = zI c0 ∧ linkAt g f1 h (sApp5 P c0 a b x y) ∧ ∀ q, (q < h ∨ h + 6 ≤ q) → f1 q = f q
set_option maxRecDepth 100000 in
set_option maxHeartbeats 4000000 in
/-- append where there is room -/
theorem c_X4_append (l : Launch) (g : gE) (b0 n : Nat) (f : gF) (h : Nat) (P : Nat → Int) (c0 : Nat) (a b x y : Int) (hE : linkAt g f h P) (hrg : b0 ≤ h ∧ h + 6 ≤ b0 + n) (hc0 : P 9 = c0) (hcl : c0 < 6) : cI l yX4_append cX4_append 6 (some .int) 0 0 [.ref h, .int (zI a), .int (zI b), .int (zI x), .int (zI y)] g b0 n f (po_X4_append g f h P c0 a b x y) := by
  refine gs_i (cc := cX4_append) (maxL := 6) (ret := (some .int)) (by decide) (Nat.le_of_ble_eq_true rfl) ?_
  intro p e0 s m args below meth c ls hx hb hr hml hown hts hlk hK hM hl
  have hl : lv_has ls 6 [(0, .ref h), (1, .int (zI a)), (2, .int (zI b)), (3, .int (zI x)), (4, .int (zI y))] := hl
  obtain ⟨hE0, hE1, hE2, hE3, hE4, hE5⟩ := hE
  rw [hc0] at hE0
  refine lv_aload_n hx hb dX4_append_0 rfl (lv_at hl 0 rfl) ?_
  refine g_get (ci := 6) (v := .int (zI (↑c0 : Int))) (C := RX4) (T := TX4) (N := 6) hx hb hts iU_X4 hown hK hM ⟨by omega, by omega⟩ hE0 rfl 5 (by decide) (hts _ u_114) (fun _ h9 => h9) rfl dX4_append_1 ?_
  refine lv_istore (lv' := [(5, .int (zI (↑c0 : Int))), (0, .ref h), (1, .int (zI a)), (2, .int (zI b)), (3, .int (zI x)), (4, .int (zI y))]) hx hb dX4_append_4 hl (by decide) rfl (fun ls hl => ?_)
  refine lv_iload hx hb dX4_append_6 (lv_at hl 0 rfl) ?_
  refine g_if_lt (tgt := 18) hx hb dX4_append_8 (by decide) ⟨by omega, by omega⟩ (fun c8 => ?_) (fun c8 => ?_)
  · skip
    refine lv_iload hx hb dX4_append_18 (lv_at hl 0 rfl) ?_
    refine g_iret hx hb hr hlk hK hM dX4_append_20 ?_
    exfalso; omega
  · skip
    refine lv_iload hx hb dX4_append_11 (lv_at hl 0 rfl) ?_
    refine g_bipush hx hb dX4_append_13 (by decide) ?_
    refine g_icmp_lt (tgt := 21) hx hb dX4_append_15 (by decide) ⟨by omega, by omega⟩ (by decide) (fun c15 => ?_) (fun c15 => ?_)
    · skip
      refine lv_aload_n hx hb dX4_append_21 rfl (lv_at hl 1 rfl) ?_
      refine g_get (ci := 6) (v := .ref (h + 1)) (C := RX4) (T := TX4) (N := 6) hx hb hts iU_X4 hown hK hM ⟨by omega, by omega⟩ hE0 rfl 0 (by decide) (hts _ u_104) (fun _ h9 => h9) rfl dX4_append_22 ?_
      refine lv_iload hx hb dX4_append_25 (lv_at hl 0 rfl) ?_
      refine lv_iload_n hx hb dX4_append_27 rfl (lv_at hl 2 rfl) ?_
      refine g_iast hx hb hK hM ⟨by omega, by omega⟩ hE1 (by omega) (by omega) (by decide) dX4_append_28 (fun f1 H locs hM ha3 o2 => ?_)
      refine lv_aload_n hx hb dX4_append_29 rfl (lv_at hl 1 rfl) ?_
      have hf4 : f1 (h) = .inr (6, [.ref (h + 1), .ref (h + 2), .ref (h + 3), .ref (h + 4), .ref (h + 5), .int (zI (↑c0 : Int))]) := (o2 (h) (by omega)).trans hE0
      refine g_get (ci := 6) (v := .ref (h + 2)) (C := RX4) (T := TX4) (N := 6) hx hb hts iU_X4 hown hK hM ⟨by omega, by omega⟩ hf4 rfl 1 (by decide) (hts _ u_106) (fun _ h9 => h9) rfl dX4_append_30 ?_
      refine lv_iload hx hb dX4_append_33 (lv_at hl 0 rfl) ?_
      refine lv_iload_n hx hb dX4_append_35 rfl (lv_at hl 3 rfl) ?_
      have hf5 := hE2.kept (o2 (h + 2) (by omega))
      refine g_iast hx hb hK hM ⟨by omega, by omega⟩ hf5 (by omega) (by omega) (by decide) dX4_append_36 (fun f6 H locs hM ha8 o7 => ?_)
      refine lv_aload_n hx hb dX4_append_37 rfl (lv_at hl 1 rfl) ?_
      have hf9 : f6 (h) = .inr (6, [.ref (h + 1), .ref (h + 2), .ref (h + 3), .ref (h + 4), .ref (h + 5), .int (zI (↑c0 : Int))]) := (o7 (h) (by omega)).trans hf4
      refine g_get (ci := 6) (v := .ref (h + 3)) (C := RX4) (T := TX4) (N := 6) hx hb hts iU_X4 hown hK hM ⟨by omega, by omega⟩ hf9 rfl 2 (by decide) (hts _ u_108) (fun _ h9 => h9) rfl dX4_append_38 ?_
      refine lv_iload hx hb dX4_append_41 (lv_at hl 0 rfl) ?_
      refine lv_iload_n hx hb dX4_append_43 rfl (lv_at hl 4 rfl) ?_
      have hf10 := hE3.kept ((o7 (h + 3) (by omega)).trans (o2 (h + 3) (by omega)))
      refine g_iast hx hb hK hM ⟨by omega, by omega⟩ hf10 (by omega) (by omega) (by decide) dX4_append_44 (fun f11 H locs hM ha13 o12 => ?_)
      refine lv_aload_n hx hb dX4_append_45 rfl (lv_at hl 1 rfl) ?_
      have hf14 : f11 (h) = .inr (6, [.ref (h + 1), .ref (h + 2), .ref (h + 3), .ref (h + 4), .ref (h + 5), .int (zI (↑c0 : Int))]) := (o12 (h) (by omega)).trans hf9
      refine g_get (ci := 6) (v := .ref (h + 4)) (C := RX4) (T := TX4) (N := 6) hx hb hts iU_X4 hown hK hM ⟨by omega, by omega⟩ hf14 rfl 3 (by decide) (hts _ u_110) (fun _ h9 => h9) rfl dX4_append_46 ?_
      refine lv_iload hx hb dX4_append_49 (lv_at hl 0 rfl) ?_
      refine lv_iload hx hb dX4_append_51 (lv_at hl 5 rfl) ?_
      have hf15 := hE4.kept ((o12 (h + 4) (by omega)).trans ((o7 (h + 4) (by omega)).trans (o2 (h + 4) (by omega))))
      refine g_iast hx hb hK hM ⟨by omega, by omega⟩ hf15 (by omega) (by omega) (by decide) dX4_append_53 (fun f16 H locs hM ha18 o17 => ?_)
      refine lv_aload_n hx hb dX4_append_54 rfl (lv_at hl 1 rfl) ?_
      have hf19 : f16 (h) = .inr (6, [.ref (h + 1), .ref (h + 2), .ref (h + 3), .ref (h + 4), .ref (h + 5), .int (zI (↑c0 : Int))]) := (o17 (h) (by omega)).trans hf14
      refine g_get (ci := 6) (v := .ref (h + 5)) (C := RX4) (T := TX4) (N := 6) hx hb hts iU_X4 hown hK hM ⟨by omega, by omega⟩ hf19 rfl 4 (by decide) (hts _ u_112) (fun _ h9 => h9) rfl dX4_append_55 ?_
      refine lv_iload hx hb dX4_append_58 (lv_at hl 0 rfl) ?_
      refine g_lconst (z := 0) hx hb dX4_append_60 (by decide) ?_
      have hf20 := hE5.kept ((o17 (h + 5) (by omega)).trans ((o12 (h + 5) (by omega)).trans ((o7 (h + 5) (by omega)).trans (o2 (h + 5) (by omega)))))
      refine g_last hx hb hK hM ⟨by omega, by omega⟩ hf20 (by omega) (by omega) (by decide) dX4_append_61 (fun f21 H locs hM ha23 o22 => ?_)
      refine lv_aload_n hx hb dX4_append_62 rfl (lv_at hl 1 rfl) ?_
      refine lv_dup hx hb dX4_append_63 rfl ?_
      have hf24 : f21 (h) = .inr (6, [.ref (h + 1), .ref (h + 2), .ref (h + 3), .ref (h + 4), .ref (h + 5), .int (zI (↑c0 : Int))]) := (o22 (h) (by omega)).trans hf19
      refine g_get (ci := 6) (v := .int (zI (↑c0 : Int))) (C := RX4) (T := TX4) (N := 6) hx hb hts iU_X4 hown hK hM ⟨by omega, by omega⟩ hf24 rfl 5 (by decide) (hts _ u_114) (fun _ h9 => h9) rfl dX4_append_64 ?_
      refine g_iconst hx hb dX4_append_67 ?_
      refine g_iadd hx hb dX4_append_68 ?_
      refine g_put (ci := 6) (v := .int (zI ((↑c0 : Int) + 1))) (ty := .int) (C := RX4) (T := TX4) (N := 6) hx hb hts iU_X4 tyX4 tyX4_ok nmX4 hown hK hM ⟨by omega, by omega⟩ hf24 rfl 5 (by decide) (hts _ u_114) (fun _ h9 => h9) rfl (by decide +kernel) rfl rfl (Nat.le_of_ble_eq_true rfl) dX4_append_69 (fun f25 H locs hM hf27 o26 => ?_)
      have hf27 : f25 (h) = .inr (6, [.ref (h + 1), .ref (h + 2), .ref (h + 3), .ref (h + 4), .ref (h + 5), .int (zI ((↑c0 : Int) + 1))]) := hf27
      refine lv_iload hx hb dX4_append_72 (lv_at hl 0 rfl) ?_
      have hf28 := ha3.kept ((o26 (h + 1) (by omega)).trans ((o22 (h + 1) (by omega)).trans ((o17 (h + 1) (by omega)).trans ((o12 (h + 1) (by omega)).trans (o7 (h + 1) (by omega))))))
      have hf29 := ha8.kept ((o26 (h + 2) (by omega)).trans ((o22 (h + 2) (by omega)).trans ((o17 (h + 2) (by omega)).trans (o12 (h + 2) (by omega)))))
      have hf30 := ha13.kept ((o26 (h + 3) (by omega)).trans ((o22 (h + 3) (by omega)).trans (o17 (h + 3) (by omega))))
      have hf31 := ha18.kept ((o26 (h + 4) (by omega)).trans (o22 (h + 4) (by omega)))
      have hf32 := ha23.kept (o26 (h + 5) (by omega))
      refine g_iret hx hb hr hlk hK hM dX4_append_74 ?_
      exact ⟨rfl, ⟨hf27.trans (by simp only [sApp5, pu, ↓reduceIte] <;> (repeat' split) <;> first | rfl | omega | (congr 1; omega) | (congr 2; omega)), hf28.cong (fun k hk => by simp only [sApp5, pu, ↓reduceIte] <;> (repeat' split) <;> first | rfl | omega | (congr 1; omega) | (congr 2; omega)), hf29.cong (fun k hk => by simp only [sApp5, pu, ↓reduceIte] <;> (repeat' split) <;> first | rfl | omega | (congr 1; omega) | (congr 2; omega)), hf30.cong (fun k hk => by simp only [sApp5, pu, ↓reduceIte] <;> (repeat' split) <;> first | rfl | omega | (congr 1; omega) | (congr 2; omega)), hf31.cong (fun k hk => by simp only [sApp5, pu, ↓reduceIte] <;> (repeat' split) <;> first | rfl | omega | (congr 1; omega) | (congr 2; omega)), hf32.cong (fun k hk => by simp only [sApp5, pu, ↓reduceIte] <;> (repeat' split) <;> first | rfl | omega | (congr 1; omega) | (congr 2; omega))⟩, (fun q hq => ((o26 (q) (by omega)).trans ((o22 (q) (by omega)).trans ((o17 (q) (by omega)).trans ((o12 (q) (by omega)).trans ((o7 (q) (by omega)).trans (o2 (q) (by omega))))))))⟩
    · skip
      refine lv_iload hx hb dX4_append_18 (lv_at hl 0 rfl) ?_
      refine g_iret hx hb hr hlk hK hM dX4_append_20 ?_
      exfalso; omega

def po_X4_remove (g : gE) (f : gF) (h : Nat) (P : Nat → Int) (e : Nat) : Int32 → gF → Prop := fun r f1 => r = zI (P 9 - 1) ∧ linkAt g f1 h (sRem P 69 5 9 e) ∧ ∀ q, (q < h ∨ h + 6 ≤ q) → f1 q = f q
set_option maxRecDepth 100000 in
set_option maxHeartbeats 4000000 in
/-- remove(e), a valid e -/
theorem c_X4_remove (l : Launch) (g : gE) (b0 n : Nat) (f : gF) (h : Nat) (P : Nat → Int) (e : Nat) (hE : linkAt g f h P) (hrg : b0 ≤ h ∧ h + 6 ≤ b0 + n) (hcn : 0 ≤ P 9 ∧ P 9 ≤ 6) (he : (e : Int) < P 9) : cI l yX4_remove cX4_remove 3 (some .int) 1 21 [.ref h, .int (zI (↑e : Int))] g b0 n f (po_X4_remove g f h P e) := by
  refine gs_i (cc := cX4_remove) (maxL := 3) (ret := (some .int)) (by decide) (Nat.le_of_ble_eq_true rfl) ?_
  intro p e0 s m args below meth c ls hx hb hr hml hown hts hlk hK hM hl
  have hl : lv_has ls 3 [(0, .ref h), (1, .int (zI (↑e : Int)))] := hl
  have hE9 := hE
  obtain ⟨hE0, hE1, hE2, hE3, hE4, hE5⟩ := hE
  have hzn := hcn.1
  have hzm := hcn.2
  have hen : e < 6 := by omega
  refine lv_aload_n hx hb dX4_remove_0 rfl (lv_at hl 0 rfl) ?_
  refine lv_iload_n hx hb dX4_remove_1 rfl (lv_at hl 1 rfl) ?_
  have hC1 := c_X4_has l g b0 n f h P (↑e : Int) hE9 hrg hcn ⟨by omega, by omega⟩
  refine g_callVi (ci := 6) (C := RX4) (T := TX4) (N := 6) (As := [.int (zI (↑e : Int))]) (rest := []) ⟨hx, hb, hml, hown, hts⟩ hK hM hC1 (cuV (n := 1) hts u_390 u_466 u_7 (by decide) u_388 u_389 ⟨Nat.le_of_ble_eq_true rfl, Nat.le_of_ble_eq_true rfl⟩) ⟨by omega, by omega⟩ hE0 rfl rfl hl.1 rfl (Nat.le_of_ble_eq_true rfl) dX4_remove_2 ⟨Nat.zero_le _, Nat.zero_le _⟩ (fun r2 f2 H locs hM hp3 => ?_)
  obtain ⟨rfl, rfl⟩ := hp3
  refine g_ifb_ne (tgt := 13) hx hb dX4_remove_5 (by decide) (fun c5 => ?_) (fun c5 => ?_)
  · skip
    refine lv_iload_n hx hb dX4_remove_13 rfl (lv_at hl 1 rfl) ?_
    refine lv_istore_n (lv' := [(2, .int (zI (↑e : Int))), (0, .ref h), (1, .int (zI (↑e : Int)))]) hx hb dX4_remove_14 rfl hl (by decide) rfl (fun ls hl => ?_)
    have lp15 : ∀ (k : Nat), ∀ (i : Nat) (fL : gF) (H : Heap) (locs : List Loc) (ls : Array Slot), (6 - i < k) → (e ≤ i) → ((i : Int) < P 9) → (∀ q, (q < h ∨ h + 6 ≤ q) → fL q = f q) → gH g b0 n fL s.heap H locs → (fL h = .inr (6, [.ref (h + 1), .ref (h + 2), .ref (h + 3), .ref (h + 4), .ref (h + 5), .int (zI (P 9))])) → (arI g fL (h + 1) 6 (fun k => shA P 69 5 e i k)) → (arI g fL (h + 2) 6 (fun k => shA P 70 5 e i k)) → (arI g fL (h + 3) 6 (fun k => shA P 71 5 e i k)) → (arI g fL (h + 4) 6 (fun k => shA P 72 5 e i k)) → (arJ g fL (h + 5) 6 (fun k => shA P 73 5 e i k)) → lv_has ls 3 [(0, .ref h), (1, .int (zI (↑e : Int))), (2, .int (zI (↑i : Int)))] → W p l e0 { frames := 1, cells := 0, slots := 0, locals := 21 } s m args below meth c H locs 0 0 (MQ below (va_Qi (po_X4_remove g f h P e) (gB g b0 n) (gA b0)) args s 0 0 (gA b0)) (F0 m 15 ls []) := by
      intro k
      induction k with
      | zero =>
        intro i fL H locs ls hk hi1 hi hfr hM hL0 hL1 hL2 hL3 hL4 hL5 hl
        exact absurd hk (Nat.not_lt_zero _)
      | succ k ih =>
        intro i fL H locs ls hk hi1 hi hfr hM hL0 hL1 hL2 hL3 hL4 hL5 hl
        refine lv_iload_n hx hb dX4_remove_15 rfl (lv_at hl 2 rfl) ?_
        refine g_iconst hx hb dX4_remove_16 ?_
        refine g_iadd hx hb dX4_remove_17 ?_
        refine lv_aload_n hx hb dX4_remove_18 rfl (lv_at hl 0 rfl) ?_
        refine g_get (ci := 6) (v := .int (zI (P 9))) (C := RX4) (T := TX4) (N := 6) hx hb hts iU_X4 hown hK hM ⟨by omega, by omega⟩ hL0 rfl 5 (by decide) (hts _ u_114) (fun _ h9 => h9) rfl dX4_remove_19 ?_
        refine g_icmp_ge (tgt := 109) hx hb dX4_remove_22 (by decide) ⟨by omega, by omega⟩ ⟨by omega, by omega⟩ (fun c22 => ?_) (fun c22 => ?_)
        · skip
          refine lv_aload_n hx hb dX4_remove_109 rfl (lv_at hl 0 rfl) ?_
          refine lv_dup hx hb dX4_remove_110 rfl ?_
          refine g_get (ci := 6) (v := .int (zI (P 9))) (C := RX4) (T := TX4) (N := 6) hx hb hts iU_X4 hown hK hM ⟨by omega, by omega⟩ hL0 rfl 5 (by decide) (hts _ u_114) (fun _ h9 => h9) rfl dX4_remove_111 ?_
          refine g_iconst hx hb dX4_remove_114 ?_
          refine g_isub hx hb dX4_remove_115 ?_
          refine g_put (ci := 6) (v := .int (zI ((P 9) - 1))) (ty := .int) (C := RX4) (T := TX4) (N := 6) hx hb hts iU_X4 tyX4 tyX4_ok nmX4 hown hK hM ⟨by omega, by omega⟩ hL0 rfl 5 (by decide) (hts _ u_114) (fun _ h9 => h9) rfl (by decide +kernel) rfl rfl (Nat.le_of_ble_eq_true rfl) dX4_remove_116 (fun f4 H locs hM hf6 o5 => ?_)
          have hf6 : f4 (h) = .inr (6, [.ref (h + 1), .ref (h + 2), .ref (h + 3), .ref (h + 4), .ref (h + 5), .int (zI ((P 9) - 1))]) := hf6
          refine lv_aload_n hx hb dX4_remove_119 rfl (lv_at hl 0 rfl) ?_
          refine g_get (ci := 6) (v := .int (zI ((P 9) - 1))) (C := RX4) (T := TX4) (N := 6) hx hb hts iU_X4 hown hK hM ⟨by omega, by omega⟩ hf6 rfl 5 (by decide) (hts _ u_114) (fun _ h9 => h9) rfl dX4_remove_120 ?_
          have hf7 := hL1.kept (o5 (h + 1) (by omega))
          have hf8 := hL2.kept (o5 (h + 2) (by omega))
          have hf9 := hL3.kept (o5 (h + 3) (by omega))
          have hf10 := hL4.kept (o5 (h + 4) (by omega))
          have hf11 := hL5.kept (o5 (h + 5) (by omega))
          refine g_iret hx hb hr hlk hK hM dX4_remove_123 ?_
          have hi2 : (i : Int) = P 9 - 1 := by omega
          exact ⟨rfl, ⟨hf6.trans (by simp only [sRem, shA, pu, ↓reduceIte] <;> (repeat' split) <;> first | rfl | omega | (congr 1; omega) | (congr 2; omega)), hf7.cong (fun k hk => by simp only [sRem, shA, pu, ↓reduceIte] <;> (repeat' split) <;> first | rfl | omega | (congr 1; omega) | (congr 2; omega)), hf8.cong (fun k hk => by simp only [sRem, shA, pu, ↓reduceIte] <;> (repeat' split) <;> first | rfl | omega | (congr 1; omega) | (congr 2; omega)), hf9.cong (fun k hk => by simp only [sRem, shA, pu, ↓reduceIte] <;> (repeat' split) <;> first | rfl | omega | (congr 1; omega) | (congr 2; omega)), hf10.cong (fun k hk => by simp only [sRem, shA, pu, ↓reduceIte] <;> (repeat' split) <;> first | rfl | omega | (congr 1; omega) | (congr 2; omega)), hf11.cong (fun k hk => by simp only [sRem, shA, pu, ↓reduceIte] <;> (repeat' split) <;> first | rfl | omega | (congr 1; omega) | (congr 2; omega))⟩, (fun q hq => ((o5 (q) (by omega)).trans (hfr (q) (by omega))))⟩
        · skip
          refine lv_iload_n hx hb dX4_remove_25 rfl (lv_at hl 2 rfl) ?_
          refine g_iconst hx hb dX4_remove_26 ?_
          refine g_iadd hx hb dX4_remove_27 ?_
          refine g_bipush hx hb dX4_remove_28 (by decide) ?_
          refine g_icmp_ge (tgt := 109) hx hb dX4_remove_30 (by decide) ⟨by omega, by omega⟩ (by decide) (fun c30 => ?_) (fun c30 => ?_)
          · skip
            refine lv_aload_n hx hb dX4_remove_109 rfl (lv_at hl 0 rfl) ?_
            refine lv_dup hx hb dX4_remove_110 rfl ?_
            refine g_get (ci := 6) (v := .int (zI (P 9))) (C := RX4) (T := TX4) (N := 6) hx hb hts iU_X4 hown hK hM ⟨by omega, by omega⟩ hL0 rfl 5 (by decide) (hts _ u_114) (fun _ h9 => h9) rfl dX4_remove_111 ?_
            refine g_iconst hx hb dX4_remove_114 ?_
            refine g_isub hx hb dX4_remove_115 ?_
            refine g_put (ci := 6) (v := .int (zI ((P 9) - 1))) (ty := .int) (C := RX4) (T := TX4) (N := 6) hx hb hts iU_X4 tyX4 tyX4_ok nmX4 hown hK hM ⟨by omega, by omega⟩ hL0 rfl 5 (by decide) (hts _ u_114) (fun _ h9 => h9) rfl (by decide +kernel) rfl rfl (Nat.le_of_ble_eq_true rfl) dX4_remove_116 (fun f12 H locs hM hf14 o13 => ?_)
            have hf14 : f12 (h) = .inr (6, [.ref (h + 1), .ref (h + 2), .ref (h + 3), .ref (h + 4), .ref (h + 5), .int (zI ((P 9) - 1))]) := hf14
            refine lv_aload_n hx hb dX4_remove_119 rfl (lv_at hl 0 rfl) ?_
            refine g_get (ci := 6) (v := .int (zI ((P 9) - 1))) (C := RX4) (T := TX4) (N := 6) hx hb hts iU_X4 hown hK hM ⟨by omega, by omega⟩ hf14 rfl 5 (by decide) (hts _ u_114) (fun _ h9 => h9) rfl dX4_remove_120 ?_
            have hf15 := hL1.kept (o13 (h + 1) (by omega))
            have hf16 := hL2.kept (o13 (h + 2) (by omega))
            have hf17 := hL3.kept (o13 (h + 3) (by omega))
            have hf18 := hL4.kept (o13 (h + 4) (by omega))
            have hf19 := hL5.kept (o13 (h + 5) (by omega))
            refine g_iret hx hb hr hlk hK hM dX4_remove_123 ?_
            have hi2 : (i : Int) = P 9 - 1 := by omega
            exact ⟨rfl, ⟨hf14.trans (by simp only [sRem, shA, pu, ↓reduceIte] <;> (repeat' split) <;> first | rfl | omega | (congr 1; omega) | (congr 2; omega)), hf15.cong (fun k hk => by simp only [sRem, shA, pu, ↓reduceIte] <;> (repeat' split) <;> first | rfl | omega | (congr 1; omega) | (congr 2; omega)), hf16.cong (fun k hk => by simp only [sRem, shA, pu, ↓reduceIte] <;> (repeat' split) <;> first | rfl | omega | (congr 1; omega) | (congr 2; omega)), hf17.cong (fun k hk => by simp only [sRem, shA, pu, ↓reduceIte] <;> (repeat' split) <;> first | rfl | omega | (congr 1; omega) | (congr 2; omega)), hf18.cong (fun k hk => by simp only [sRem, shA, pu, ↓reduceIte] <;> (repeat' split) <;> first | rfl | omega | (congr 1; omega) | (congr 2; omega)), hf19.cong (fun k hk => by simp only [sRem, shA, pu, ↓reduceIte] <;> (repeat' split) <;> first | rfl | omega | (congr 1; omega) | (congr 2; omega))⟩, (fun q hq => ((o13 (q) (by omega)).trans (hfr (q) (by omega))))⟩
          · skip
            refine lv_aload_n hx hb dX4_remove_33 rfl (lv_at hl 0 rfl) ?_
            refine g_get (ci := 6) (v := .ref (h + 1)) (C := RX4) (T := TX4) (N := 6) hx hb hts iU_X4 hown hK hM ⟨by omega, by omega⟩ hL0 rfl 0 (by decide) (hts _ u_104) (fun _ h9 => h9) rfl dX4_remove_34 ?_
            refine lv_iload_n hx hb dX4_remove_37 rfl (lv_at hl 2 rfl) ?_
            refine lv_aload_n hx hb dX4_remove_38 rfl (lv_at hl 0 rfl) ?_
            refine g_get (ci := 6) (v := .ref (h + 1)) (C := RX4) (T := TX4) (N := 6) hx hb hts iU_X4 hown hK hM ⟨by omega, by omega⟩ hL0 rfl 0 (by decide) (hts _ u_104) (fun _ h9 => h9) rfl dX4_remove_39 ?_
            refine lv_iload_n hx hb dX4_remove_42 rfl (lv_at hl 2 rfl) ?_
            refine g_iconst hx hb dX4_remove_43 ?_
            refine g_iadd hx hb dX4_remove_44 ?_
            refine g_iald hx hb hK hM ⟨by omega, by omega⟩ hL1 (by omega) (by omega) (by decide) dX4_remove_45 ?_
            show W _ _ _ _ _ _ _ _ _ _ _ _ _ _ _ (F0 _ _ _ (.int (zI (shA P 69 5 e i (i + 1))) :: _))
            refine g_iast hx hb hK hM ⟨by omega, by omega⟩ hL1 (by omega) (by omega) (by decide) dX4_remove_46 (fun f20 H locs hM ha22 o21 => ?_)
            refine lv_aload_n hx hb dX4_remove_47 rfl (lv_at hl 0 rfl) ?_
            have hf23 : f20 (h) = .inr (6, [.ref (h + 1), .ref (h + 2), .ref (h + 3), .ref (h + 4), .ref (h + 5), .int (zI (P 9))]) := (o21 (h) (by omega)).trans hL0
            refine g_get (ci := 6) (v := .ref (h + 2)) (C := RX4) (T := TX4) (N := 6) hx hb hts iU_X4 hown hK hM ⟨by omega, by omega⟩ hf23 rfl 1 (by decide) (hts _ u_106) (fun _ h9 => h9) rfl dX4_remove_48 ?_
            refine lv_iload_n hx hb dX4_remove_51 rfl (lv_at hl 2 rfl) ?_
            refine lv_aload_n hx hb dX4_remove_52 rfl (lv_at hl 0 rfl) ?_
            refine g_get (ci := 6) (v := .ref (h + 2)) (C := RX4) (T := TX4) (N := 6) hx hb hts iU_X4 hown hK hM ⟨by omega, by omega⟩ hf23 rfl 1 (by decide) (hts _ u_106) (fun _ h9 => h9) rfl dX4_remove_53 ?_
            refine lv_iload_n hx hb dX4_remove_56 rfl (lv_at hl 2 rfl) ?_
            refine g_iconst hx hb dX4_remove_57 ?_
            refine g_iadd hx hb dX4_remove_58 ?_
            have hf24 := hL2.kept (o21 (h + 2) (by omega))
            refine g_iald hx hb hK hM ⟨by omega, by omega⟩ hf24 (by omega) (by omega) (by decide) dX4_remove_59 ?_
            show W _ _ _ _ _ _ _ _ _ _ _ _ _ _ _ (F0 _ _ _ (.int (zI (shA P 70 5 e i (i + 1))) :: _))
            refine g_iast hx hb hK hM ⟨by omega, by omega⟩ hf24 (by omega) (by omega) (by decide) dX4_remove_60 (fun f25 H locs hM ha27 o26 => ?_)
            refine lv_aload_n hx hb dX4_remove_61 rfl (lv_at hl 0 rfl) ?_
            have hf28 : f25 (h) = .inr (6, [.ref (h + 1), .ref (h + 2), .ref (h + 3), .ref (h + 4), .ref (h + 5), .int (zI (P 9))]) := (o26 (h) (by omega)).trans hf23
            refine g_get (ci := 6) (v := .ref (h + 3)) (C := RX4) (T := TX4) (N := 6) hx hb hts iU_X4 hown hK hM ⟨by omega, by omega⟩ hf28 rfl 2 (by decide) (hts _ u_108) (fun _ h9 => h9) rfl dX4_remove_62 ?_
            refine lv_iload_n hx hb dX4_remove_65 rfl (lv_at hl 2 rfl) ?_
            refine lv_aload_n hx hb dX4_remove_66 rfl (lv_at hl 0 rfl) ?_
            refine g_get (ci := 6) (v := .ref (h + 3)) (C := RX4) (T := TX4) (N := 6) hx hb hts iU_X4 hown hK hM ⟨by omega, by omega⟩ hf28 rfl 2 (by decide) (hts _ u_108) (fun _ h9 => h9) rfl dX4_remove_67 ?_
            refine lv_iload_n hx hb dX4_remove_70 rfl (lv_at hl 2 rfl) ?_
            refine g_iconst hx hb dX4_remove_71 ?_
            refine g_iadd hx hb dX4_remove_72 ?_
            have hf29 := hL3.kept ((o26 (h + 3) (by omega)).trans (o21 (h + 3) (by omega)))
            refine g_iald hx hb hK hM ⟨by omega, by omega⟩ hf29 (by omega) (by omega) (by decide) dX4_remove_73 ?_
            show W _ _ _ _ _ _ _ _ _ _ _ _ _ _ _ (F0 _ _ _ (.int (zI (shA P 71 5 e i (i + 1))) :: _))
            refine g_iast hx hb hK hM ⟨by omega, by omega⟩ hf29 (by omega) (by omega) (by decide) dX4_remove_74 (fun f30 H locs hM ha32 o31 => ?_)
            refine lv_aload_n hx hb dX4_remove_75 rfl (lv_at hl 0 rfl) ?_
            have hf33 : f30 (h) = .inr (6, [.ref (h + 1), .ref (h + 2), .ref (h + 3), .ref (h + 4), .ref (h + 5), .int (zI (P 9))]) := (o31 (h) (by omega)).trans hf28
            refine g_get (ci := 6) (v := .ref (h + 4)) (C := RX4) (T := TX4) (N := 6) hx hb hts iU_X4 hown hK hM ⟨by omega, by omega⟩ hf33 rfl 3 (by decide) (hts _ u_110) (fun _ h9 => h9) rfl dX4_remove_76 ?_
            refine lv_iload_n hx hb dX4_remove_79 rfl (lv_at hl 2 rfl) ?_
            refine lv_aload_n hx hb dX4_remove_80 rfl (lv_at hl 0 rfl) ?_
            refine g_get (ci := 6) (v := .ref (h + 4)) (C := RX4) (T := TX4) (N := 6) hx hb hts iU_X4 hown hK hM ⟨by omega, by omega⟩ hf33 rfl 3 (by decide) (hts _ u_110) (fun _ h9 => h9) rfl dX4_remove_81 ?_
            refine lv_iload_n hx hb dX4_remove_84 rfl (lv_at hl 2 rfl) ?_
            refine g_iconst hx hb dX4_remove_85 ?_
            refine g_iadd hx hb dX4_remove_86 ?_
            have hf34 := hL4.kept ((o31 (h + 4) (by omega)).trans ((o26 (h + 4) (by omega)).trans (o21 (h + 4) (by omega))))
            refine g_iald hx hb hK hM ⟨by omega, by omega⟩ hf34 (by omega) (by omega) (by decide) dX4_remove_87 ?_
            show W _ _ _ _ _ _ _ _ _ _ _ _ _ _ _ (F0 _ _ _ (.int (zI (shA P 72 5 e i (i + 1))) :: _))
            refine g_iast hx hb hK hM ⟨by omega, by omega⟩ hf34 (by omega) (by omega) (by decide) dX4_remove_88 (fun f35 H locs hM ha37 o36 => ?_)
            refine lv_aload_n hx hb dX4_remove_89 rfl (lv_at hl 0 rfl) ?_
            have hf38 : f35 (h) = .inr (6, [.ref (h + 1), .ref (h + 2), .ref (h + 3), .ref (h + 4), .ref (h + 5), .int (zI (P 9))]) := (o36 (h) (by omega)).trans hf33
            refine g_get (ci := 6) (v := .ref (h + 5)) (C := RX4) (T := TX4) (N := 6) hx hb hts iU_X4 hown hK hM ⟨by omega, by omega⟩ hf38 rfl 4 (by decide) (hts _ u_112) (fun _ h9 => h9) rfl dX4_remove_90 ?_
            refine lv_iload_n hx hb dX4_remove_93 rfl (lv_at hl 2 rfl) ?_
            refine lv_aload_n hx hb dX4_remove_94 rfl (lv_at hl 0 rfl) ?_
            refine g_get (ci := 6) (v := .ref (h + 5)) (C := RX4) (T := TX4) (N := 6) hx hb hts iU_X4 hown hK hM ⟨by omega, by omega⟩ hf38 rfl 4 (by decide) (hts _ u_112) (fun _ h9 => h9) rfl dX4_remove_95 ?_
            refine lv_iload_n hx hb dX4_remove_98 rfl (lv_at hl 2 rfl) ?_
            refine g_iconst hx hb dX4_remove_99 ?_
            refine g_iadd hx hb dX4_remove_100 ?_
            have hf39 := hL5.kept ((o36 (h + 5) (by omega)).trans ((o31 (h + 5) (by omega)).trans ((o26 (h + 5) (by omega)).trans (o21 (h + 5) (by omega)))))
            refine g_lald hx hb hK hM ⟨by omega, by omega⟩ hf39 (by omega) (by omega) (by decide) dX4_remove_101 ?_
            show W _ _ _ _ _ _ _ _ _ _ _ _ _ _ _ (F0 _ _ _ (.long (zL (shA P 73 5 e i (i + 1))) :: _))
            refine g_last hx hb hK hM ⟨by omega, by omega⟩ hf39 (by omega) (by omega) (by decide) dX4_remove_102 (fun f40 H locs hM ha42 o41 => ?_)
            refine lv_iinc (v := zI ((↑i : Int) + 1)) (lv' := [(2, .int (zI ((↑i : Int) + 1))), (0, .ref h), (1, .int (zI (↑e : Int)))]) hx hb dX4_remove_103 hl (k := 2) rfl (zI_add _ _) (by decide) rfl (fun ls hl => ?_)
            refine lv_goto (tgt := 15) hx hb dX4_remove_106 (by decide) ?_
            have hf43 : f40 (h) = .inr (6, [.ref (h + 1), .ref (h + 2), .ref (h + 3), .ref (h + 4), .ref (h + 5), .int (zI (P 9))]) := (o41 (h) (by omega)).trans hf38
            have hf44 := ha22.kept ((o41 (h + 1) (by omega)).trans ((o36 (h + 1) (by omega)).trans ((o31 (h + 1) (by omega)).trans (o26 (h + 1) (by omega)))))
            have hf45 := ha27.kept ((o41 (h + 2) (by omega)).trans ((o36 (h + 2) (by omega)).trans (o31 (h + 2) (by omega))))
            have hf46 := ha32.kept ((o41 (h + 3) (by omega)).trans (o36 (h + 3) (by omega)))
            have hf47 := ha37.kept (o41 (h + 4) (by omega))
            exact ih (i + 1) f40 _ _ _ (by omega) (by omega) (by omega) (fun q hq => ((o41 (q) (by omega)).trans ((o36 (q) (by omega)).trans ((o31 (q) (by omega)).trans ((o26 (q) (by omega)).trans ((o21 (q) (by omega)).trans (hfr (q) (by omega)))))))) hM hf43 (hf44.cong (fun k hk => by simp only [shA, pu] <;> (repeat' split) <;> first | rfl | omega | (congr 1; omega))) (hf45.cong (fun k hk => by simp only [shA, pu] <;> (repeat' split) <;> first | rfl | omega | (congr 1; omega))) (hf46.cong (fun k hk => by simp only [shA, pu] <;> (repeat' split) <;> first | rfl | omega | (congr 1; omega))) (hf47.cong (fun k hk => by simp only [shA, pu] <;> (repeat' split) <;> first | rfl | omega | (congr 1; omega))) (ha42.cong (fun k hk => by simp only [shA, pu] <;> (repeat' split) <;> first | rfl | omega | (congr 1; omega))) (lv_sub hl [1, 2, 0] rfl)
    exact lp15 (7) e f _ _ _ (by omega) (by omega) (by omega) (fun q hq => rfl) hM hE0 (hE1.cong (fun k hk => by simp only [shA, pu] <;> (repeat' split) <;> first | rfl | omega | (congr 1; omega))) (hE2.cong (fun k hk => by simp only [shA, pu] <;> (repeat' split) <;> first | rfl | omega | (congr 1; omega))) (hE3.cong (fun k hk => by simp only [shA, pu] <;> (repeat' split) <;> first | rfl | omega | (congr 1; omega))) (hE4.cong (fun k hk => by simp only [shA, pu] <;> (repeat' split) <;> first | rfl | omega | (congr 1; omega))) (hE5.cong (fun k hk => by simp only [shA, pu] <;> (repeat' split) <;> first | rfl | omega | (congr 1; omega))) (lv_sub hl [1, 2, 0] rfl)
  · skip
    refine lv_aload_n hx hb dX4_remove_8 rfl (lv_at hl 0 rfl) ?_
    refine g_get (ci := 6) (v := .int (zI (P 9))) (C := RX4) (T := TX4) (N := 6) hx hb hts iU_X4 hown hK hM ⟨by omega, by omega⟩ hE0 rfl 5 (by decide) (hts _ u_114) (fun _ h9 => h9) rfl dX4_remove_9 ?_
    refine g_iret hx hb hr hlk hK hM dX4_remove_12 ?_
    exfalso; omega

def po_X4_copyFrom (g : gE) (f : gF) (h h2 : Nat) (P P2 : Nat → Int) : gF → Prop := fun f1 => linkAt g f1 h P2 ∧ ∀ q, (q < h ∨ h + 6 ≤ q) → f1 q = f q
set_option maxRecDepth 100000 in
set_option maxHeartbeats 4000000 in
/-- copyFrom(other) -/
theorem c_X4_copyFrom (l : Launch) (g : gE) (b0 n : Nat) (f : gF) (h h2 : Nat) (P P2 : Nat → Int) (hE : linkAt g f h P) (hG : linkAt g f h2 P2) (hrg : b0 ≤ h ∧ h + 6 ≤ b0 + n) (hrg2 : b0 ≤ h2 ∧ h2 + 6 ≤ b0 + n) (hd : h + 6 ≤ h2 ∨ h2 + 6 ≤ h) : cV l yX4_copyFrom cX4_copyFrom 2 none 1 60 [.ref h, .ref h2] g b0 n f (po_X4_copyFrom g f h h2 P P2) := by
  refine gs_v (cc := cX4_copyFrom) (maxL := 2) (ret := none) (by decide) (Nat.le_of_ble_eq_true rfl) ?_
  intro p e0 s m args below meth c ls hx hb hr hml hown hts hlk hK hM hl
  have hl : lv_has ls 2 [(0, .ref h), (1, .ref h2)] := hl
  obtain ⟨hE0, hE1, hE2, hE3, hE4, hE5⟩ := hE
  obtain ⟨hG0, hG1, hG2, hG3, hG4, hG5⟩ := hG
  refine lv_aload_n hx hb dX4_copyFrom_0 rfl (lv_at hl 1 rfl) ?_
  refine g_get (ci := 6) (v := .ref (h2 + 1)) (C := RX4) (T := TX4) (N := 6) hx hb hts iU_X4 hown hK hM ⟨by omega, by omega⟩ hG0 rfl 0 (by decide) (hts _ u_104) (fun _ h9 => h9) rfl dX4_copyFrom_1 ?_
  refine g_iconst hx hb dX4_copyFrom_4 ?_
  refine lv_aload_n hx hb dX4_copyFrom_5 rfl (lv_at hl 0 rfl) ?_
  refine g_get (ci := 6) (v := .ref (h + 1)) (C := RX4) (T := TX4) (N := 6) hx hb hts iU_X4 hown hK hM ⟨by omega, by omega⟩ hE0 rfl 0 (by decide) (hts _ u_104) (fun _ h9 => h9) rfl dX4_copyFrom_6 ?_
  refine g_iconst hx hb dX4_copyFrom_9 ?_
  refine g_bipush hx hb dX4_copyFrom_10 (by decide) ?_
  refine g_copyI hx hb (hml.trans hl.1.symm) hown (hts _ u_578) hts hK hM ⟨by omega, by omega⟩ ⟨by omega, by omega⟩ hG1 hE1 rfl (by decide) (Nat.le_of_ble_eq_true rfl) (Nat.le_of_ble_eq_true rfl) dX4_copyFrom_12 (fun f1 H locs hM ha3 o2 => ?_)
  refine lv_aload_n hx hb dX4_copyFrom_15 rfl (lv_at hl 1 rfl) ?_
  have hf4 : f1 (h2) = .inr (6, [.ref (h2 + 1), .ref (h2 + 2), .ref (h2 + 3), .ref (h2 + 4), .ref (h2 + 5), .int (zI (P2 9))]) := (o2 (h2) (by omega)).trans hG0
  refine g_get (ci := 6) (v := .ref (h2 + 2)) (C := RX4) (T := TX4) (N := 6) hx hb hts iU_X4 hown hK hM ⟨by omega, by omega⟩ hf4 rfl 1 (by decide) (hts _ u_106) (fun _ h9 => h9) rfl dX4_copyFrom_16 ?_
  refine g_iconst hx hb dX4_copyFrom_19 ?_
  refine lv_aload_n hx hb dX4_copyFrom_20 rfl (lv_at hl 0 rfl) ?_
  have hf5 : f1 (h) = .inr (6, [.ref (h + 1), .ref (h + 2), .ref (h + 3), .ref (h + 4), .ref (h + 5), .int (zI (P 9))]) := (o2 (h) (by omega)).trans hE0
  refine g_get (ci := 6) (v := .ref (h + 2)) (C := RX4) (T := TX4) (N := 6) hx hb hts iU_X4 hown hK hM ⟨by omega, by omega⟩ hf5 rfl 1 (by decide) (hts _ u_106) (fun _ h9 => h9) rfl dX4_copyFrom_21 ?_
  refine g_iconst hx hb dX4_copyFrom_24 ?_
  refine g_bipush hx hb dX4_copyFrom_25 (by decide) ?_
  have hf6 := hG2.kept (o2 (h2 + 2) (by omega))
  have hf7 := hE2.kept (o2 (h + 2) (by omega))
  refine g_copyI hx hb (hml.trans hl.1.symm) hown (hts _ u_578) hts hK hM ⟨by omega, by omega⟩ ⟨by omega, by omega⟩ hf6 hf7 rfl (by decide) (Nat.le_of_ble_eq_true rfl) (Nat.le_of_ble_eq_true rfl) dX4_copyFrom_27 (fun f8 H locs hM ha10 o9 => ?_)
  refine lv_aload_n hx hb dX4_copyFrom_30 rfl (lv_at hl 1 rfl) ?_
  have hf11 : f8 (h2) = .inr (6, [.ref (h2 + 1), .ref (h2 + 2), .ref (h2 + 3), .ref (h2 + 4), .ref (h2 + 5), .int (zI (P2 9))]) := (o9 (h2) (by omega)).trans hf4
  refine g_get (ci := 6) (v := .ref (h2 + 3)) (C := RX4) (T := TX4) (N := 6) hx hb hts iU_X4 hown hK hM ⟨by omega, by omega⟩ hf11 rfl 2 (by decide) (hts _ u_108) (fun _ h9 => h9) rfl dX4_copyFrom_31 ?_
  refine g_iconst hx hb dX4_copyFrom_34 ?_
  refine lv_aload_n hx hb dX4_copyFrom_35 rfl (lv_at hl 0 rfl) ?_
  have hf12 : f8 (h) = .inr (6, [.ref (h + 1), .ref (h + 2), .ref (h + 3), .ref (h + 4), .ref (h + 5), .int (zI (P 9))]) := (o9 (h) (by omega)).trans hf5
  refine g_get (ci := 6) (v := .ref (h + 3)) (C := RX4) (T := TX4) (N := 6) hx hb hts iU_X4 hown hK hM ⟨by omega, by omega⟩ hf12 rfl 2 (by decide) (hts _ u_108) (fun _ h9 => h9) rfl dX4_copyFrom_36 ?_
  refine g_iconst hx hb dX4_copyFrom_39 ?_
  refine g_bipush hx hb dX4_copyFrom_40 (by decide) ?_
  have hf13 := hG3.kept ((o9 (h2 + 3) (by omega)).trans (o2 (h2 + 3) (by omega)))
  have hf14 := hE3.kept ((o9 (h + 3) (by omega)).trans (o2 (h + 3) (by omega)))
  refine g_copyI hx hb (hml.trans hl.1.symm) hown (hts _ u_578) hts hK hM ⟨by omega, by omega⟩ ⟨by omega, by omega⟩ hf13 hf14 rfl (by decide) (Nat.le_of_ble_eq_true rfl) (Nat.le_of_ble_eq_true rfl) dX4_copyFrom_42 (fun f15 H locs hM ha17 o16 => ?_)
  refine lv_aload_n hx hb dX4_copyFrom_45 rfl (lv_at hl 1 rfl) ?_
  have hf18 : f15 (h2) = .inr (6, [.ref (h2 + 1), .ref (h2 + 2), .ref (h2 + 3), .ref (h2 + 4), .ref (h2 + 5), .int (zI (P2 9))]) := (o16 (h2) (by omega)).trans hf11
  refine g_get (ci := 6) (v := .ref (h2 + 4)) (C := RX4) (T := TX4) (N := 6) hx hb hts iU_X4 hown hK hM ⟨by omega, by omega⟩ hf18 rfl 3 (by decide) (hts _ u_110) (fun _ h9 => h9) rfl dX4_copyFrom_46 ?_
  refine g_iconst hx hb dX4_copyFrom_49 ?_
  refine lv_aload_n hx hb dX4_copyFrom_50 rfl (lv_at hl 0 rfl) ?_
  have hf19 : f15 (h) = .inr (6, [.ref (h + 1), .ref (h + 2), .ref (h + 3), .ref (h + 4), .ref (h + 5), .int (zI (P 9))]) := (o16 (h) (by omega)).trans hf12
  refine g_get (ci := 6) (v := .ref (h + 4)) (C := RX4) (T := TX4) (N := 6) hx hb hts iU_X4 hown hK hM ⟨by omega, by omega⟩ hf19 rfl 3 (by decide) (hts _ u_110) (fun _ h9 => h9) rfl dX4_copyFrom_51 ?_
  refine g_iconst hx hb dX4_copyFrom_54 ?_
  refine g_bipush hx hb dX4_copyFrom_55 (by decide) ?_
  have hf20 := hG4.kept ((o16 (h2 + 4) (by omega)).trans ((o9 (h2 + 4) (by omega)).trans (o2 (h2 + 4) (by omega))))
  have hf21 := hE4.kept ((o16 (h + 4) (by omega)).trans ((o9 (h + 4) (by omega)).trans (o2 (h + 4) (by omega))))
  refine g_copyI hx hb (hml.trans hl.1.symm) hown (hts _ u_578) hts hK hM ⟨by omega, by omega⟩ ⟨by omega, by omega⟩ hf20 hf21 rfl (by decide) (Nat.le_of_ble_eq_true rfl) (Nat.le_of_ble_eq_true rfl) dX4_copyFrom_57 (fun f22 H locs hM ha24 o23 => ?_)
  refine lv_aload_n hx hb dX4_copyFrom_60 rfl (lv_at hl 1 rfl) ?_
  have hf25 : f22 (h2) = .inr (6, [.ref (h2 + 1), .ref (h2 + 2), .ref (h2 + 3), .ref (h2 + 4), .ref (h2 + 5), .int (zI (P2 9))]) := (o23 (h2) (by omega)).trans hf18
  refine g_get (ci := 6) (v := .ref (h2 + 5)) (C := RX4) (T := TX4) (N := 6) hx hb hts iU_X4 hown hK hM ⟨by omega, by omega⟩ hf25 rfl 4 (by decide) (hts _ u_112) (fun _ h9 => h9) rfl dX4_copyFrom_61 ?_
  refine g_iconst hx hb dX4_copyFrom_64 ?_
  refine lv_aload_n hx hb dX4_copyFrom_65 rfl (lv_at hl 0 rfl) ?_
  have hf26 : f22 (h) = .inr (6, [.ref (h + 1), .ref (h + 2), .ref (h + 3), .ref (h + 4), .ref (h + 5), .int (zI (P 9))]) := (o23 (h) (by omega)).trans hf19
  refine g_get (ci := 6) (v := .ref (h + 5)) (C := RX4) (T := TX4) (N := 6) hx hb hts iU_X4 hown hK hM ⟨by omega, by omega⟩ hf26 rfl 4 (by decide) (hts _ u_112) (fun _ h9 => h9) rfl dX4_copyFrom_66 ?_
  refine g_iconst hx hb dX4_copyFrom_69 ?_
  refine g_bipush hx hb dX4_copyFrom_70 (by decide) ?_
  have hf27 := hG5.kept ((o23 (h2 + 5) (by omega)).trans ((o16 (h2 + 5) (by omega)).trans ((o9 (h2 + 5) (by omega)).trans (o2 (h2 + 5) (by omega)))))
  have hf28 := hE5.kept ((o23 (h + 5) (by omega)).trans ((o16 (h + 5) (by omega)).trans ((o9 (h + 5) (by omega)).trans (o2 (h + 5) (by omega)))))
  refine g_copyJ hx hb (hml.trans hl.1.symm) hown (hts _ u_578) hts hK hM ⟨by omega, by omega⟩ ⟨by omega, by omega⟩ hf27 hf28 rfl (by decide) (Nat.le_of_ble_eq_true rfl) (Nat.le_of_ble_eq_true rfl) dX4_copyFrom_72 (fun f29 H locs hM ha31 o30 => ?_)
  refine lv_aload_n hx hb dX4_copyFrom_75 rfl (lv_at hl 0 rfl) ?_
  refine lv_aload_n hx hb dX4_copyFrom_76 rfl (lv_at hl 1 rfl) ?_
  have hf32 : f29 (h2) = .inr (6, [.ref (h2 + 1), .ref (h2 + 2), .ref (h2 + 3), .ref (h2 + 4), .ref (h2 + 5), .int (zI (P2 9))]) := (o30 (h2) (by omega)).trans hf25
  refine g_get (ci := 6) (v := .int (zI (P2 9))) (C := RX4) (T := TX4) (N := 6) hx hb hts iU_X4 hown hK hM ⟨by omega, by omega⟩ hf32 rfl 5 (by decide) (hts _ u_114) (fun _ h9 => h9) rfl dX4_copyFrom_77 ?_
  have hf33 : f29 (h) = .inr (6, [.ref (h + 1), .ref (h + 2), .ref (h + 3), .ref (h + 4), .ref (h + 5), .int (zI (P 9))]) := (o30 (h) (by omega)).trans hf26
  refine g_put (ci := 6) (v := .int (zI (P2 9))) (ty := .int) (C := RX4) (T := TX4) (N := 6) hx hb hts iU_X4 tyX4 tyX4_ok nmX4 hown hK hM ⟨by omega, by omega⟩ hf33 rfl 5 (by decide) (hts _ u_114) (fun _ h9 => h9) rfl (by decide +kernel) rfl rfl (Nat.le_of_ble_eq_true rfl) dX4_copyFrom_80 (fun f34 H locs hM hf36 o35 => ?_)
  have hf36 : f34 (h) = .inr (6, [.ref (h + 1), .ref (h + 2), .ref (h + 3), .ref (h + 4), .ref (h + 5), .int (zI (P2 9))]) := hf36
  have hf37 := ha3.kept ((o35 (h + 1) (by omega)).trans ((o30 (h + 1) (by omega)).trans ((o23 (h + 1) (by omega)).trans ((o16 (h + 1) (by omega)).trans (o9 (h + 1) (by omega))))))
  have hf38 := ha10.kept ((o35 (h + 2) (by omega)).trans ((o30 (h + 2) (by omega)).trans ((o23 (h + 2) (by omega)).trans (o16 (h + 2) (by omega)))))
  have hf39 := ha17.kept ((o35 (h + 3) (by omega)).trans ((o30 (h + 3) (by omega)).trans (o23 (h + 3) (by omega))))
  have hf40 := ha24.kept ((o35 (h + 4) (by omega)).trans (o30 (h + 4) (by omega)))
  have hf41 := ha31.kept (o35 (h + 5) (by omega))
  refine g_vret hx hb hr hlk hK hM dX4_copyFrom_83 ?_
  exact ⟨⟨hf36, hf37.cong (fun k hk => by simp only [pu, ↓reduceIte] <;> (repeat' split) <;> first | rfl | omega | (congr 1; omega) | (congr 2; omega)), hf38.cong (fun k hk => by simp only [pu, ↓reduceIte] <;> (repeat' split) <;> first | rfl | omega | (congr 1; omega) | (congr 2; omega)), hf39.cong (fun k hk => by simp only [pu, ↓reduceIte] <;> (repeat' split) <;> first | rfl | omega | (congr 1; omega) | (congr 2; omega)), hf40.cong (fun k hk => by simp only [pu, ↓reduceIte] <;> (repeat' split) <;> first | rfl | omega | (congr 1; omega) | (congr 2; omega)), hf41.cong (fun k hk => by simp only [pu, ↓reduceIte] <;> (repeat' split) <;> first | rfl | omega | (congr 1; omega) | (congr 2; omega))⟩, (fun q hq => ((o35 (q) (by omega)).trans ((o30 (q) (by omega)).trans ((o23 (q) (by omega)).trans ((o16 (q) (by omega)).trans ((o9 (q) (by omega)).trans (o2 (q) (by omega))))))))⟩

def po_X3_has (g : gE) (f : gF) (h : Nat) (P : Nat → Int) (e : Int) : Int32 → gF → Prop := fun r f1 => r = bI (0 ≤ e ∧ e < P 10) ∧ f = f1
set_option maxRecDepth 100000 in
set_option maxHeartbeats 4000000 in
/-- has -/
theorem c_X3_has (l : Launch) (g : gE) (b0 n : Nat) (f : gF) (h : Nat) (P : Nat → Int) (e : Int) (hE : itemAt g f h P) (hrg : b0 ≤ h ∧ h + 7 ≤ b0 + n) (hcn : 0 ≤ P 10 ∧ P 10 ≤ 8) (hre : rI e) : cI l yX3_has cX3_has 2 (some .boolean) 0 0 [.ref h, .int (zI e)] g b0 n f (po_X3_has g f h P e) := by
  refine gs_i (cc := cX3_has) (maxL := 2) (ret := (some .boolean)) (by decide) (Nat.le_of_ble_eq_true rfl) ?_
  intro p e0 s m args below meth c ls hx hb hr hml hown hts hlk hK hM hl
  have hl : lv_has ls 2 [(0, .ref h), (1, .int (zI e))] := hl
  obtain ⟨hE0, hE1, hE2, hE3, hE4, hE5, hE6⟩ := hE
  have hzn := hcn.1
  have hzm := hcn.2
  refine lv_iload_n hx hb dX3_has_0 rfl (lv_at hl 1 rfl) ?_
  refine g_if_lt (tgt := 22) hx hb dX3_has_1 (by decide) hre (fun c1 => ?_) (fun c1 => ?_)
  · skip
    refine g_iconst hx hb dX3_has_22 ?_
    refine g_zret hx hb hr hlk hK hM dX3_has_23 rfl ?_
    refine ⟨?_, rfl⟩
    show zI 0 = _
    first | exact (bI_t (by omega)).symm | exact (bI_f (by omega)).symm
  · skip
    refine lv_iload_n hx hb dX3_has_4 rfl (lv_at hl 1 rfl) ?_
    refine lv_aload_n hx hb dX3_has_5 rfl (lv_at hl 0 rfl) ?_
    refine g_get (ci := 5) (v := .int (zI (P 10))) (C := RX3) (T := TX3) (N := 7) hx hb hts iU_X3 hown hK hM ⟨by omega, by omega⟩ hE0 rfl 6 (by decide) (hts _ u_147) (fun _ h9 => h9) rfl dX3_has_6 ?_
    refine g_icmp_ge (tgt := 22) hx hb dX3_has_9 (by decide) hre ⟨by omega, by omega⟩ (fun c9 => ?_) (fun c9 => ?_)
    · skip
      refine g_iconst hx hb dX3_has_22 ?_
      refine g_zret hx hb hr hlk hK hM dX3_has_23 rfl ?_
      refine ⟨?_, rfl⟩
      show zI 0 = _
      first | exact (bI_t (by omega)).symm | exact (bI_f (by omega)).symm
    · skip
      refine lv_iload_n hx hb dX3_has_12 rfl (lv_at hl 1 rfl) ?_
      refine g_bipush hx hb dX3_has_13 (by decide) ?_
      refine g_icmp_ge (tgt := 22) hx hb dX3_has_15 (by decide) hre (by decide) (fun c15 => ?_) (fun c15 => ?_)
      · skip
        refine g_iconst hx hb dX3_has_22 ?_
        refine g_zret hx hb hr hlk hK hM dX3_has_23 rfl ?_
        refine ⟨?_, rfl⟩
        show zI 0 = _
        first | exact (bI_t (by omega)).symm | exact (bI_f (by omega)).symm
      · skip
        refine g_iconst hx hb dX3_has_18 ?_
        refine lv_goto (tgt := 23) hx hb dX3_has_19 (by decide) ?_
        refine g_zret hx hb hr hlk hK hM dX3_has_23 rfl ?_
        refine ⟨?_, rfl⟩
        show zI 1 = _
        first | exact (bI_t (by omega)).symm | exact (bI_f (by omega)).symm

def po_X3_numberOf (g : gE) (f : gF) (h : Nat) (P : Nat → Int) (e w : Nat) : Int32 → gF → Prop := fun r f1 => r = zI (P (99 + 6 * e + w)) ∧ f = f1
set_option maxRecDepth 100000 in
set_option maxHeartbeats 4000000 in
/-- numberOf -/
theorem c_X3_numberOf (l : Launch) (g : gE) (b0 n : Nat) (f : gF) (h : Nat) (P : Nat → Int) (e w : Nat) (hE : itemAt g f h P) (hrg : b0 ≤ h ∧ h + 7 ≤ b0 + n) (hcn : 0 ≤ P 10 ∧ P 10 ≤ 8) (he : (e : Int) < P 10) (hw : w < 6) : cI l yX3_numberOf cX3_numberOf 3 (some .int) 1 21 [.ref h, .int (zI (↑e : Int)), .int (zI (↑w : Int))] g b0 n f (po_X3_numberOf g f h P e w) := by
  refine gs_i (cc := cX3_numberOf) (maxL := 3) (ret := (some .int)) (by decide) (Nat.le_of_ble_eq_true rfl) ?_
  intro p e0 s m args below meth c ls hx hb hr hml hown hts hlk hK hM hl
  have hl : lv_has ls 3 [(0, .ref h), (1, .int (zI (↑e : Int))), (2, .int (zI (↑w : Int)))] := hl
  have hE9 := hE
  obtain ⟨hE0, hE1, hE2, hE3, hE4, hE5, hE6⟩ := hE
  have hzn := hcn.1
  have hzm := hcn.2
  have hen : e < 8 := by omega
  refine lv_aload_n hx hb dX3_numberOf_0 rfl (lv_at hl 0 rfl) ?_
  refine lv_iload_n hx hb dX3_numberOf_1 rfl (lv_at hl 1 rfl) ?_
  have hC1 := c_X3_has l g b0 n f h P (↑e : Int) hE9 hrg hcn ⟨by omega, by omega⟩
  refine g_callVi (ci := 5) (C := RX3) (T := TX3) (N := 7) (As := [.int (zI (↑e : Int))]) (rest := []) ⟨hx, hb, hml, hown, hts⟩ hK hM hC1 (cuV (n := 1) hts u_394 u_475 u_8 (by decide) u_392 u_393 ⟨Nat.le_of_ble_eq_true rfl, Nat.le_of_ble_eq_true rfl⟩) ⟨by omega, by omega⟩ hE0 rfl rfl hl.1 rfl (Nat.le_of_ble_eq_true rfl) dX3_numberOf_2 ⟨Nat.zero_le _, Nat.zero_le _⟩ (fun r2 f2 H locs hM hp3 => ?_)
  obtain ⟨rfl, rfl⟩ := hp3
  refine g_ifb_ne (tgt := 10) hx hb dX3_numberOf_5 (by decide) (fun c5 => ?_) (fun c5 => ?_)
  · skip
    refine lv_iload_n hx hb dX3_numberOf_10 rfl (lv_at hl 2 rfl) ?_
    have hz11 := zI_toInt (z := (↑w : Int)) ⟨by omega, by omega⟩
    rcases g_sw (0) (4) (↑w : Int) with c11 | c11
    · refine lv_tableOut (tgt := 79) hx hb dX3_numberOf_11 (by rw [hz11]; exact c11) (by decide) ?_
      refine lv_aload_n hx hb dX3_numberOf_79 rfl (lv_at hl 0 rfl) ?_
      refine g_get (ci := 5) (v := .ref (h + 6)) (C := RX3) (T := TX3) (N := 7) hx hb hts iU_X3 hown hK hM ⟨by omega, by omega⟩ hE0 rfl 5 (by decide) (hts _ u_145) (fun _ h9 => h9) rfl dX3_numberOf_80 ?_
      refine lv_iload_n hx hb dX3_numberOf_83 rfl (lv_at hl 1 rfl) ?_
      refine g_iald hx hb hK hM ⟨by omega, by omega⟩ hE6 (by omega) (by omega) (by decide) dX3_numberOf_84 ?_
      show W _ _ _ _ _ _ _ _ _ _ _ _ _ _ _ (F0 _ _ _ (.int (zI (P (104 + 6 * e))) :: _))
      refine g_iret hx hb hr hlk hK hM dX3_numberOf_85 ?_
      refine ⟨?_, rfl⟩
      exact congrArg (fun j => zI (P j)) (by omega)
    · rcases (show (↑w : Int) = 0 ∨ (↑w : Int) = 1 ∨ (↑w : Int) = 2 ∨ (↑w : Int) = 3 ∨ (↑w : Int) = 4 by omega) with c11 | c11 | c11 | c11 | c11
      · refine lv_tableIn (off := 33) (tgt := 44) hx hb dX3_numberOf_11 (by rw [hz11, c11]; decide) (by rw [hz11, c11]; decide) (by rw [hz11, c11]; decide) (by decide) ?_
        refine lv_aload_n hx hb dX3_numberOf_44 rfl (lv_at hl 0 rfl) ?_
        refine g_get (ci := 5) (v := .ref (h + 1)) (C := RX3) (T := TX3) (N := 7) hx hb hts iU_X3 hown hK hM ⟨by omega, by omega⟩ hE0 rfl 0 (by decide) (hts _ u_135) (fun _ h9 => h9) rfl dX3_numberOf_45 ?_
        refine lv_iload_n hx hb dX3_numberOf_48 rfl (lv_at hl 1 rfl) ?_
        refine g_iald hx hb hK hM ⟨by omega, by omega⟩ hE1 (by omega) (by omega) (by decide) dX3_numberOf_49 ?_
        show W _ _ _ _ _ _ _ _ _ _ _ _ _ _ _ (F0 _ _ _ (.int (zI (P (99 + 6 * e))) :: _))
        refine g_iret hx hb hr hlk hK hM dX3_numberOf_50 ?_
        refine ⟨?_, rfl⟩
        exact congrArg (fun j => zI (P j)) (by omega)
      · refine lv_tableIn (off := 40) (tgt := 51) hx hb dX3_numberOf_11 (by rw [hz11, c11]; decide) (by rw [hz11, c11]; decide) (by rw [hz11, c11]; decide) (by decide) ?_
        refine lv_aload_n hx hb dX3_numberOf_51 rfl (lv_at hl 0 rfl) ?_
        refine g_get (ci := 5) (v := .ref (h + 2)) (C := RX3) (T := TX3) (N := 7) hx hb hts iU_X3 hown hK hM ⟨by omega, by omega⟩ hE0 rfl 1 (by decide) (hts _ u_137) (fun _ h9 => h9) rfl dX3_numberOf_52 ?_
        refine lv_iload_n hx hb dX3_numberOf_55 rfl (lv_at hl 1 rfl) ?_
        refine g_iald hx hb hK hM ⟨by omega, by omega⟩ hE2 (by omega) (by omega) (by decide) dX3_numberOf_56 ?_
        show W _ _ _ _ _ _ _ _ _ _ _ _ _ _ _ (F0 _ _ _ (.int (zI (P (100 + 6 * e))) :: _))
        refine g_iret hx hb hr hlk hK hM dX3_numberOf_57 ?_
        refine ⟨?_, rfl⟩
        exact congrArg (fun j => zI (P j)) (by omega)
      · refine lv_tableIn (off := 47) (tgt := 58) hx hb dX3_numberOf_11 (by rw [hz11, c11]; decide) (by rw [hz11, c11]; decide) (by rw [hz11, c11]; decide) (by decide) ?_
        refine lv_aload_n hx hb dX3_numberOf_58 rfl (lv_at hl 0 rfl) ?_
        refine g_get (ci := 5) (v := .ref (h + 3)) (C := RX3) (T := TX3) (N := 7) hx hb hts iU_X3 hown hK hM ⟨by omega, by omega⟩ hE0 rfl 2 (by decide) (hts _ u_139) (fun _ h9 => h9) rfl dX3_numberOf_59 ?_
        refine lv_iload_n hx hb dX3_numberOf_62 rfl (lv_at hl 1 rfl) ?_
        refine g_iald hx hb hK hM ⟨by omega, by omega⟩ hE3 (by omega) (by omega) (by decide) dX3_numberOf_63 ?_
        show W _ _ _ _ _ _ _ _ _ _ _ _ _ _ _ (F0 _ _ _ (.int (zI (P (101 + 6 * e))) :: _))
        refine g_iret hx hb hr hlk hK hM dX3_numberOf_64 ?_
        refine ⟨?_, rfl⟩
        exact congrArg (fun j => zI (P j)) (by omega)
      · refine lv_tableIn (off := 54) (tgt := 65) hx hb dX3_numberOf_11 (by rw [hz11, c11]; decide) (by rw [hz11, c11]; decide) (by rw [hz11, c11]; decide) (by decide) ?_
        refine lv_aload_n hx hb dX3_numberOf_65 rfl (lv_at hl 0 rfl) ?_
        refine g_get (ci := 5) (v := .ref (h + 4)) (C := RX3) (T := TX3) (N := 7) hx hb hts iU_X3 hown hK hM ⟨by omega, by omega⟩ hE0 rfl 3 (by decide) (hts _ u_141) (fun _ h9 => h9) rfl dX3_numberOf_66 ?_
        refine lv_iload_n hx hb dX3_numberOf_69 rfl (lv_at hl 1 rfl) ?_
        refine g_iald hx hb hK hM ⟨by omega, by omega⟩ hE4 (by omega) (by omega) (by decide) dX3_numberOf_70 ?_
        show W _ _ _ _ _ _ _ _ _ _ _ _ _ _ _ (F0 _ _ _ (.int (zI (P (102 + 6 * e))) :: _))
        refine g_iret hx hb hr hlk hK hM dX3_numberOf_71 ?_
        refine ⟨?_, rfl⟩
        exact congrArg (fun j => zI (P j)) (by omega)
      · refine lv_tableIn (off := 61) (tgt := 72) hx hb dX3_numberOf_11 (by rw [hz11, c11]; decide) (by rw [hz11, c11]; decide) (by rw [hz11, c11]; decide) (by decide) ?_
        refine lv_aload_n hx hb dX3_numberOf_72 rfl (lv_at hl 0 rfl) ?_
        refine g_get (ci := 5) (v := .ref (h + 5)) (C := RX3) (T := TX3) (N := 7) hx hb hts iU_X3 hown hK hM ⟨by omega, by omega⟩ hE0 rfl 4 (by decide) (hts _ u_143) (fun _ h9 => h9) rfl dX3_numberOf_73 ?_
        refine lv_iload_n hx hb dX3_numberOf_76 rfl (lv_at hl 1 rfl) ?_
        refine g_iald hx hb hK hM ⟨by omega, by omega⟩ hE5 (by omega) (by omega) (by decide) dX3_numberOf_77 ?_
        show W _ _ _ _ _ _ _ _ _ _ _ _ _ _ _ (F0 _ _ _ (.int (zI (P (103 + 6 * e))) :: _))
        refine g_iret hx hb hr hlk hK hM dX3_numberOf_78 ?_
        refine ⟨?_, rfl⟩
        exact congrArg (fun j => zI (P j)) (by omega)
  · skip
    refine g_iconst hx hb dX3_numberOf_8 ?_
    refine g_iret hx hb hr hlk hK hM dX3_numberOf_9 ?_
    exfalso; omega

def po_X3_append (g : gE) (f : gF) (h : Nat) (P : Nat → Int) (c0 : Nat) (a b x y t : Int) : Int32 → gF → Prop := fun r f1 => r = zI c0 ∧ itemAt g f1 h (sApp6 P c0 a b x y (t + y)) ∧ ∀ q, (q < h ∨ h + 7 ≤ q) → f1 q = f q
set_option maxRecDepth 100000 in
set_option maxHeartbeats 4000000 in
/-- append where there is room -/
theorem c_X3_append (l : Launch) (g : gE) (b0 n : Nat) (f : gF) (h : Nat) (P : Nat → Int) (c0 : Nat) (a b x y t : Int) (hE : itemAt g f h P) (hrg : b0 ≤ h ∧ h + 7 ≤ b0 + n) (hc0 : P 10 = c0) (hcl : c0 < 8) : cI l yX3_append cX3_append 7 (some .int) 0 0 [.ref h, .int (zI a), .int (zI b), .int (zI x), .int (zI y), .int (zI t)] g b0 n f (po_X3_append g f h P c0 a b x y t) := by
  refine gs_i (cc := cX3_append) (maxL := 7) (ret := (some .int)) (by decide) (Nat.le_of_ble_eq_true rfl) ?_
  intro p e0 s m args below meth c ls hx hb hr hml hown hts hlk hK hM hl
  have hl : lv_has ls 7 [(0, .ref h), (1, .int (zI a)), (2, .int (zI b)), (3, .int (zI x)), (4, .int (zI y)), (5, .int (zI t))] := hl
  obtain ⟨hE0, hE1, hE2, hE3, hE4, hE5, hE6⟩ := hE
  rw [hc0] at hE0
  refine lv_aload_n hx hb dX3_append_0 rfl (lv_at hl 0 rfl) ?_
  refine g_get (ci := 5) (v := .int (zI (↑c0 : Int))) (C := RX3) (T := TX3) (N := 7) hx hb hts iU_X3 hown hK hM ⟨by omega, by omega⟩ hE0 rfl 6 (by decide) (hts _ u_147) (fun _ h9 => h9) rfl dX3_append_1 ?_
  refine lv_istore (lv' := [(6, .int (zI (↑c0 : Int))), (0, .ref h), (1, .int (zI a)), (2, .int (zI b)), (3, .int (zI x)), (4, .int (zI y)), (5, .int (zI t))]) hx hb dX3_append_4 hl (by decide) rfl (fun ls hl => ?_)
  refine lv_iload hx hb dX3_append_6 (lv_at hl 0 rfl) ?_
  refine g_if_lt (tgt := 18) hx hb dX3_append_8 (by decide) ⟨by omega, by omega⟩ (fun c8 => ?_) (fun c8 => ?_)
  · skip
    refine lv_iload hx hb dX3_append_18 (lv_at hl 0 rfl) ?_
    refine g_iret hx hb hr hlk hK hM dX3_append_20 ?_
    exfalso; omega
  · skip
    refine lv_iload hx hb dX3_append_11 (lv_at hl 0 rfl) ?_
    refine g_bipush hx hb dX3_append_13 (by decide) ?_
    refine g_icmp_lt (tgt := 21) hx hb dX3_append_15 (by decide) ⟨by omega, by omega⟩ (by decide) (fun c15 => ?_) (fun c15 => ?_)
    · skip
      refine lv_aload_n hx hb dX3_append_21 rfl (lv_at hl 1 rfl) ?_
      refine g_get (ci := 5) (v := .ref (h + 1)) (C := RX3) (T := TX3) (N := 7) hx hb hts iU_X3 hown hK hM ⟨by omega, by omega⟩ hE0 rfl 0 (by decide) (hts _ u_135) (fun _ h9 => h9) rfl dX3_append_22 ?_
      refine lv_iload hx hb dX3_append_25 (lv_at hl 0 rfl) ?_
      refine lv_iload_n hx hb dX3_append_27 rfl (lv_at hl 2 rfl) ?_
      refine g_iast hx hb hK hM ⟨by omega, by omega⟩ hE1 (by omega) (by omega) (by decide) dX3_append_28 (fun f1 H locs hM ha3 o2 => ?_)
      refine lv_aload_n hx hb dX3_append_29 rfl (lv_at hl 1 rfl) ?_
      have hf4 : f1 (h) = .inr (5, [.ref (h + 1), .ref (h + 2), .ref (h + 3), .ref (h + 4), .ref (h + 5), .ref (h + 6), .int (zI (↑c0 : Int))]) := (o2 (h) (by omega)).trans hE0
      refine g_get (ci := 5) (v := .ref (h + 2)) (C := RX3) (T := TX3) (N := 7) hx hb hts iU_X3 hown hK hM ⟨by omega, by omega⟩ hf4 rfl 1 (by decide) (hts _ u_137) (fun _ h9 => h9) rfl dX3_append_30 ?_
      refine lv_iload hx hb dX3_append_33 (lv_at hl 0 rfl) ?_
      refine lv_iload_n hx hb dX3_append_35 rfl (lv_at hl 3 rfl) ?_
      have hf5 := hE2.kept (o2 (h + 2) (by omega))
      refine g_iast hx hb hK hM ⟨by omega, by omega⟩ hf5 (by omega) (by omega) (by decide) dX3_append_36 (fun f6 H locs hM ha8 o7 => ?_)
      refine lv_aload_n hx hb dX3_append_37 rfl (lv_at hl 1 rfl) ?_
      have hf9 : f6 (h) = .inr (5, [.ref (h + 1), .ref (h + 2), .ref (h + 3), .ref (h + 4), .ref (h + 5), .ref (h + 6), .int (zI (↑c0 : Int))]) := (o7 (h) (by omega)).trans hf4
      refine g_get (ci := 5) (v := .ref (h + 3)) (C := RX3) (T := TX3) (N := 7) hx hb hts iU_X3 hown hK hM ⟨by omega, by omega⟩ hf9 rfl 2 (by decide) (hts _ u_139) (fun _ h9 => h9) rfl dX3_append_38 ?_
      refine lv_iload hx hb dX3_append_41 (lv_at hl 0 rfl) ?_
      refine lv_iload_n hx hb dX3_append_43 rfl (lv_at hl 4 rfl) ?_
      have hf10 := hE3.kept ((o7 (h + 3) (by omega)).trans (o2 (h + 3) (by omega)))
      refine g_iast hx hb hK hM ⟨by omega, by omega⟩ hf10 (by omega) (by omega) (by decide) dX3_append_44 (fun f11 H locs hM ha13 o12 => ?_)
      refine lv_aload_n hx hb dX3_append_45 rfl (lv_at hl 1 rfl) ?_
      have hf14 : f11 (h) = .inr (5, [.ref (h + 1), .ref (h + 2), .ref (h + 3), .ref (h + 4), .ref (h + 5), .ref (h + 6), .int (zI (↑c0 : Int))]) := (o12 (h) (by omega)).trans hf9
      refine g_get (ci := 5) (v := .ref (h + 4)) (C := RX3) (T := TX3) (N := 7) hx hb hts iU_X3 hown hK hM ⟨by omega, by omega⟩ hf14 rfl 3 (by decide) (hts _ u_141) (fun _ h9 => h9) rfl dX3_append_46 ?_
      refine lv_iload hx hb dX3_append_49 (lv_at hl 0 rfl) ?_
      refine lv_iload hx hb dX3_append_51 (lv_at hl 5 rfl) ?_
      have hf15 := hE4.kept ((o12 (h + 4) (by omega)).trans ((o7 (h + 4) (by omega)).trans (o2 (h + 4) (by omega))))
      refine g_iast hx hb hK hM ⟨by omega, by omega⟩ hf15 (by omega) (by omega) (by decide) dX3_append_53 (fun f16 H locs hM ha18 o17 => ?_)
      refine lv_aload_n hx hb dX3_append_54 rfl (lv_at hl 1 rfl) ?_
      have hf19 : f16 (h) = .inr (5, [.ref (h + 1), .ref (h + 2), .ref (h + 3), .ref (h + 4), .ref (h + 5), .ref (h + 6), .int (zI (↑c0 : Int))]) := (o17 (h) (by omega)).trans hf14
      refine g_get (ci := 5) (v := .ref (h + 5)) (C := RX3) (T := TX3) (N := 7) hx hb hts iU_X3 hown hK hM ⟨by omega, by omega⟩ hf19 rfl 4 (by decide) (hts _ u_143) (fun _ h9 => h9) rfl dX3_append_55 ?_
      refine lv_iload hx hb dX3_append_58 (lv_at hl 0 rfl) ?_
      refine lv_iload hx hb dX3_append_60 (lv_at hl 6 rfl) ?_
      refine lv_iload hx hb dX3_append_62 (lv_at hl 5 rfl) ?_
      refine g_iadd hx hb dX3_append_64 ?_
      have hf20 := hE5.kept ((o17 (h + 5) (by omega)).trans ((o12 (h + 5) (by omega)).trans ((o7 (h + 5) (by omega)).trans (o2 (h + 5) (by omega)))))
      refine g_iast hx hb hK hM ⟨by omega, by omega⟩ hf20 (by omega) (by omega) (by decide) dX3_append_65 (fun f21 H locs hM ha23 o22 => ?_)
      refine lv_aload_n hx hb dX3_append_66 rfl (lv_at hl 1 rfl) ?_
      have hf24 : f21 (h) = .inr (5, [.ref (h + 1), .ref (h + 2), .ref (h + 3), .ref (h + 4), .ref (h + 5), .ref (h + 6), .int (zI (↑c0 : Int))]) := (o22 (h) (by omega)).trans hf19
      refine g_get (ci := 5) (v := .ref (h + 6)) (C := RX3) (T := TX3) (N := 7) hx hb hts iU_X3 hown hK hM ⟨by omega, by omega⟩ hf24 rfl 5 (by decide) (hts _ u_145) (fun _ h9 => h9) rfl dX3_append_67 ?_
      refine lv_iload hx hb dX3_append_70 (lv_at hl 0 rfl) ?_
      refine g_iconst hx hb dX3_append_72 ?_
      have hf25 := hE6.kept ((o22 (h + 6) (by omega)).trans ((o17 (h + 6) (by omega)).trans ((o12 (h + 6) (by omega)).trans ((o7 (h + 6) (by omega)).trans (o2 (h + 6) (by omega))))))
      refine g_iast hx hb hK hM ⟨by omega, by omega⟩ hf25 (by omega) (by omega) (by decide) dX3_append_73 (fun f26 H locs hM ha28 o27 => ?_)
      refine lv_aload_n hx hb dX3_append_74 rfl (lv_at hl 1 rfl) ?_
      refine lv_dup hx hb dX3_append_75 rfl ?_
      have hf29 : f26 (h) = .inr (5, [.ref (h + 1), .ref (h + 2), .ref (h + 3), .ref (h + 4), .ref (h + 5), .ref (h + 6), .int (zI (↑c0 : Int))]) := (o27 (h) (by omega)).trans hf24
      refine g_get (ci := 5) (v := .int (zI (↑c0 : Int))) (C := RX3) (T := TX3) (N := 7) hx hb hts iU_X3 hown hK hM ⟨by omega, by omega⟩ hf29 rfl 6 (by decide) (hts _ u_147) (fun _ h9 => h9) rfl dX3_append_76 ?_
      refine g_iconst hx hb dX3_append_79 ?_
      refine g_iadd hx hb dX3_append_80 ?_
      refine g_put (ci := 5) (v := .int (zI ((↑c0 : Int) + 1))) (ty := .int) (C := RX3) (T := TX3) (N := 7) hx hb hts iU_X3 tyX3 tyX3_ok nmX3 hown hK hM ⟨by omega, by omega⟩ hf29 rfl 6 (by decide) (hts _ u_147) (fun _ h9 => h9) rfl (by decide +kernel) rfl rfl (Nat.le_of_ble_eq_true rfl) dX3_append_81 (fun f30 H locs hM hf32 o31 => ?_)
      have hf32 : f30 (h) = .inr (5, [.ref (h + 1), .ref (h + 2), .ref (h + 3), .ref (h + 4), .ref (h + 5), .ref (h + 6), .int (zI ((↑c0 : Int) + 1))]) := hf32
      refine lv_iload hx hb dX3_append_84 (lv_at hl 0 rfl) ?_
      have hf33 := ha3.kept ((o31 (h + 1) (by omega)).trans ((o27 (h + 1) (by omega)).trans ((o22 (h + 1) (by omega)).trans ((o17 (h + 1) (by omega)).trans ((o12 (h + 1) (by omega)).trans (o7 (h + 1) (by omega)))))))
      have hf34 := ha8.kept ((o31 (h + 2) (by omega)).trans ((o27 (h + 2) (by omega)).trans ((o22 (h + 2) (by omega)).trans ((o17 (h + 2) (by omega)).trans (o12 (h + 2) (by omega))))))
      have hf35 := ha13.kept ((o31 (h + 3) (by omega)).trans ((o27 (h + 3) (by omega)).trans ((o22 (h + 3) (by omega)).trans (o17 (h + 3) (by omega)))))
      have hf36 := ha18.kept ((o31 (h + 4) (by omega)).trans ((o27 (h + 4) (by omega)).trans (o22 (h + 4) (by omega))))
      have hf37 := ha23.kept ((o31 (h + 5) (by omega)).trans (o27 (h + 5) (by omega)))
      have hf38 := ha28.kept (o31 (h + 6) (by omega))
      refine g_iret hx hb hr hlk hK hM dX3_append_86 ?_
      exact ⟨rfl, ⟨hf32.trans (by simp only [sApp6, pu, ↓reduceIte] <;> (repeat' split) <;> first | rfl | omega | (congr 1; omega) | (congr 2; omega)), hf33.cong (fun k hk => by simp only [sApp6, pu, ↓reduceIte] <;> (repeat' split) <;> first | rfl | omega | (congr 1; omega) | (congr 2; omega)), hf34.cong (fun k hk => by simp only [sApp6, pu, ↓reduceIte] <;> (repeat' split) <;> first | rfl | omega | (congr 1; omega) | (congr 2; omega)), hf35.cong (fun k hk => by simp only [sApp6, pu, ↓reduceIte] <;> (repeat' split) <;> first | rfl | omega | (congr 1; omega) | (congr 2; omega)), hf36.cong (fun k hk => by simp only [sApp6, pu, ↓reduceIte] <;> (repeat' split) <;> first | rfl | omega | (congr 1; omega) | (congr 2; omega)), hf37.cong (fun k hk => by simp only [sApp6, pu, ↓reduceIte] <;> (repeat' split) <;> first | rfl | omega | (congr 1; omega) | (congr 2; omega)), hf38.cong (fun k hk => by simp only [sApp6, pu, ↓reduceIte] <;> (repeat' split) <;> first | rfl | omega | (congr 1; omega) | (congr 2; omega))⟩, (fun q hq => ((o31 (q) (by omega)).trans ((o27 (q) (by omega)).trans ((o22 (q) (by omega)).trans ((o17 (q) (by omega)).trans ((o12 (q) (by omega)).trans ((o7 (q) (by omega)).trans (o2 (q) (by omega)))))))))⟩
    · skip
      refine lv_iload hx hb dX3_append_18 (lv_at hl 0 rfl) ?_
      refine g_iret hx hb hr hlk hK hM dX3_append_20 ?_
      exfalso; omega

def po_X3_remove (g : gE) (f : gF) (h : Nat) (P : Nat → Int) (e : Nat) : Int32 → gF → Prop := fun r f1 => r = zI (P 10 - 1) ∧ itemAt g f1 h (sRem P 99 6 10 e) ∧ ∀ q, (q < h ∨ h + 7 ≤ q) → f1 q = f q
set_option maxRecDepth 100000 in
set_option maxHeartbeats 4000000 in
/-- remove(e), a valid e -/
theorem c_X3_remove (l : Launch) (g : gE) (b0 n : Nat) (f : gF) (h : Nat) (P : Nat → Int) (e : Nat) (hE : itemAt g f h P) (hrg : b0 ≤ h ∧ h + 7 ≤ b0 + n) (hcn : 0 ≤ P 10 ∧ P 10 ≤ 8) (he : (e : Int) < P 10) : cI l yX3_remove cX3_remove 3 (some .int) 1 21 [.ref h, .int (zI (↑e : Int))] g b0 n f (po_X3_remove g f h P e) := by
  refine gs_i (cc := cX3_remove) (maxL := 3) (ret := (some .int)) (by decide) (Nat.le_of_ble_eq_true rfl) ?_
  intro p e0 s m args below meth c ls hx hb hr hml hown hts hlk hK hM hl
  have hl : lv_has ls 3 [(0, .ref h), (1, .int (zI (↑e : Int)))] := hl
  have hE9 := hE
  obtain ⟨hE0, hE1, hE2, hE3, hE4, hE5, hE6⟩ := hE
  have hzn := hcn.1
  have hzm := hcn.2
  have hen : e < 8 := by omega
  refine lv_aload_n hx hb dX3_remove_0 rfl (lv_at hl 0 rfl) ?_
  refine lv_iload_n hx hb dX3_remove_1 rfl (lv_at hl 1 rfl) ?_
  have hC1 := c_X3_has l g b0 n f h P (↑e : Int) hE9 hrg hcn ⟨by omega, by omega⟩
  refine g_callVi (ci := 5) (C := RX3) (T := TX3) (N := 7) (As := [.int (zI (↑e : Int))]) (rest := []) ⟨hx, hb, hml, hown, hts⟩ hK hM hC1 (cuV (n := 1) hts u_394 u_475 u_8 (by decide) u_392 u_393 ⟨Nat.le_of_ble_eq_true rfl, Nat.le_of_ble_eq_true rfl⟩) ⟨by omega, by omega⟩ hE0 rfl rfl hl.1 rfl (Nat.le_of_ble_eq_true rfl) dX3_remove_2 ⟨Nat.zero_le _, Nat.zero_le _⟩ (fun r2 f2 H locs hM hp3 => ?_)
  obtain ⟨rfl, rfl⟩ := hp3
  refine g_ifb_ne (tgt := 13) hx hb dX3_remove_5 (by decide) (fun c5 => ?_) (fun c5 => ?_)
  · skip
    refine lv_iload_n hx hb dX3_remove_13 rfl (lv_at hl 1 rfl) ?_
    refine lv_istore_n (lv' := [(2, .int (zI (↑e : Int))), (0, .ref h), (1, .int (zI (↑e : Int)))]) hx hb dX3_remove_14 rfl hl (by decide) rfl (fun ls hl => ?_)
    have lp15 : ∀ (k : Nat), ∀ (i : Nat) (fL : gF) (H : Heap) (locs : List Loc) (ls : Array Slot), (8 - i < k) → (e ≤ i) → ((i : Int) < P 10) → (∀ q, (q < h ∨ h + 7 ≤ q) → fL q = f q) → gH g b0 n fL s.heap H locs → (fL h = .inr (5, [.ref (h + 1), .ref (h + 2), .ref (h + 3), .ref (h + 4), .ref (h + 5), .ref (h + 6), .int (zI (P 10))])) → (arI g fL (h + 1) 8 (fun k => shA P 99 6 e i k)) → (arI g fL (h + 2) 8 (fun k => shA P 100 6 e i k)) → (arI g fL (h + 3) 8 (fun k => shA P 101 6 e i k)) → (arI g fL (h + 4) 8 (fun k => shA P 102 6 e i k)) → (arI g fL (h + 5) 8 (fun k => shA P 103 6 e i k)) → (arI g fL (h + 6) 8 (fun k => shA P 104 6 e i k)) → lv_has ls 3 [(0, .ref h), (1, .int (zI (↑e : Int))), (2, .int (zI (↑i : Int)))] → W p l e0 { frames := 1, cells := 0, slots := 0, locals := 21 } s m args below meth c H locs 0 0 (MQ below (va_Qi (po_X3_remove g f h P e) (gB g b0 n) (gA b0)) args s 0 0 (gA b0)) (F0 m 15 ls []) := by
      intro k
      induction k with
      | zero =>
        intro i fL H locs ls hk hi1 hi hfr hM hL0 hL1 hL2 hL3 hL4 hL5 hL6 hl
        exact absurd hk (Nat.not_lt_zero _)
      | succ k ih =>
        intro i fL H locs ls hk hi1 hi hfr hM hL0 hL1 hL2 hL3 hL4 hL5 hL6 hl
        refine lv_iload_n hx hb dX3_remove_15 rfl (lv_at hl 2 rfl) ?_
        refine g_iconst hx hb dX3_remove_16 ?_
        refine g_iadd hx hb dX3_remove_17 ?_
        refine lv_aload_n hx hb dX3_remove_18 rfl (lv_at hl 0 rfl) ?_
        refine g_get (ci := 5) (v := .int (zI (P 10))) (C := RX3) (T := TX3) (N := 7) hx hb hts iU_X3 hown hK hM ⟨by omega, by omega⟩ hL0 rfl 6 (by decide) (hts _ u_147) (fun _ h9 => h9) rfl dX3_remove_19 ?_
        refine g_icmp_ge (tgt := 123) hx hb dX3_remove_22 (by decide) ⟨by omega, by omega⟩ ⟨by omega, by omega⟩ (fun c22 => ?_) (fun c22 => ?_)
        · skip
          refine lv_aload_n hx hb dX3_remove_123 rfl (lv_at hl 0 rfl) ?_
          refine lv_dup hx hb dX3_remove_124 rfl ?_
          refine g_get (ci := 5) (v := .int (zI (P 10))) (C := RX3) (T := TX3) (N := 7) hx hb hts iU_X3 hown hK hM ⟨by omega, by omega⟩ hL0 rfl 6 (by decide) (hts _ u_147) (fun _ h9 => h9) rfl dX3_remove_125 ?_
          refine g_iconst hx hb dX3_remove_128 ?_
          refine g_isub hx hb dX3_remove_129 ?_
          refine g_put (ci := 5) (v := .int (zI ((P 10) - 1))) (ty := .int) (C := RX3) (T := TX3) (N := 7) hx hb hts iU_X3 tyX3 tyX3_ok nmX3 hown hK hM ⟨by omega, by omega⟩ hL0 rfl 6 (by decide) (hts _ u_147) (fun _ h9 => h9) rfl (by decide +kernel) rfl rfl (Nat.le_of_ble_eq_true rfl) dX3_remove_130 (fun f4 H locs hM hf6 o5 => ?_)
          have hf6 : f4 (h) = .inr (5, [.ref (h + 1), .ref (h + 2), .ref (h + 3), .ref (h + 4), .ref (h + 5), .ref (h + 6), .int (zI ((P 10) - 1))]) := hf6
          refine lv_aload_n hx hb dX3_remove_133 rfl (lv_at hl 0 rfl) ?_
          refine g_get (ci := 5) (v := .int (zI ((P 10) - 1))) (C := RX3) (T := TX3) (N := 7) hx hb hts iU_X3 hown hK hM ⟨by omega, by omega⟩ hf6 rfl 6 (by decide) (hts _ u_147) (fun _ h9 => h9) rfl dX3_remove_134 ?_
          have hf7 := hL1.kept (o5 (h + 1) (by omega))
          have hf8 := hL2.kept (o5 (h + 2) (by omega))
          have hf9 := hL3.kept (o5 (h + 3) (by omega))
          have hf10 := hL4.kept (o5 (h + 4) (by omega))
          have hf11 := hL5.kept (o5 (h + 5) (by omega))
          have hf12 := hL6.kept (o5 (h + 6) (by omega))
          refine g_iret hx hb hr hlk hK hM dX3_remove_137 ?_
          have hi2 : (i : Int) = P 10 - 1 := by omega
          exact ⟨rfl, ⟨hf6.trans (by simp only [sRem, shA, pu, ↓reduceIte] <;> (repeat' split) <;> first | rfl | omega | (congr 1; omega) | (congr 2; omega)), hf7.cong (fun k hk => by simp only [sRem, shA, pu, ↓reduceIte] <;> (repeat' split) <;> first | rfl | omega | (congr 1; omega) | (congr 2; omega)), hf8.cong (fun k hk => by simp only [sRem, shA, pu, ↓reduceIte] <;> (repeat' split) <;> first | rfl | omega | (congr 1; omega) | (congr 2; omega)), hf9.cong (fun k hk => by simp only [sRem, shA, pu, ↓reduceIte] <;> (repeat' split) <;> first | rfl | omega | (congr 1; omega) | (congr 2; omega)), hf10.cong (fun k hk => by simp only [sRem, shA, pu, ↓reduceIte] <;> (repeat' split) <;> first | rfl | omega | (congr 1; omega) | (congr 2; omega)), hf11.cong (fun k hk => by simp only [sRem, shA, pu, ↓reduceIte] <;> (repeat' split) <;> first | rfl | omega | (congr 1; omega) | (congr 2; omega)), hf12.cong (fun k hk => by simp only [sRem, shA, pu, ↓reduceIte] <;> (repeat' split) <;> first | rfl | omega | (congr 1; omega) | (congr 2; omega))⟩, (fun q hq => ((o5 (q) (by omega)).trans (hfr (q) (by omega))))⟩
        · skip
          refine lv_iload_n hx hb dX3_remove_25 rfl (lv_at hl 2 rfl) ?_
          refine g_iconst hx hb dX3_remove_26 ?_
          refine g_iadd hx hb dX3_remove_27 ?_
          refine g_bipush hx hb dX3_remove_28 (by decide) ?_
          refine g_icmp_ge (tgt := 123) hx hb dX3_remove_30 (by decide) ⟨by omega, by omega⟩ (by decide) (fun c30 => ?_) (fun c30 => ?_)
          · skip
            refine lv_aload_n hx hb dX3_remove_123 rfl (lv_at hl 0 rfl) ?_
            refine lv_dup hx hb dX3_remove_124 rfl ?_
            refine g_get (ci := 5) (v := .int (zI (P 10))) (C := RX3) (T := TX3) (N := 7) hx hb hts iU_X3 hown hK hM ⟨by omega, by omega⟩ hL0 rfl 6 (by decide) (hts _ u_147) (fun _ h9 => h9) rfl dX3_remove_125 ?_
            refine g_iconst hx hb dX3_remove_128 ?_
            refine g_isub hx hb dX3_remove_129 ?_
            refine g_put (ci := 5) (v := .int (zI ((P 10) - 1))) (ty := .int) (C := RX3) (T := TX3) (N := 7) hx hb hts iU_X3 tyX3 tyX3_ok nmX3 hown hK hM ⟨by omega, by omega⟩ hL0 rfl 6 (by decide) (hts _ u_147) (fun _ h9 => h9) rfl (by decide +kernel) rfl rfl (Nat.le_of_ble_eq_true rfl) dX3_remove_130 (fun f13 H locs hM hf15 o14 => ?_)
            have hf15 : f13 (h) = .inr (5, [.ref (h + 1), .ref (h + 2), .ref (h + 3), .ref (h + 4), .ref (h + 5), .ref (h + 6), .int (zI ((P 10) - 1))]) := hf15
            refine lv_aload_n hx hb dX3_remove_133 rfl (lv_at hl 0 rfl) ?_
            refine g_get (ci := 5) (v := .int (zI ((P 10) - 1))) (C := RX3) (T := TX3) (N := 7) hx hb hts iU_X3 hown hK hM ⟨by omega, by omega⟩ hf15 rfl 6 (by decide) (hts _ u_147) (fun _ h9 => h9) rfl dX3_remove_134 ?_
            have hf16 := hL1.kept (o14 (h + 1) (by omega))
            have hf17 := hL2.kept (o14 (h + 2) (by omega))
            have hf18 := hL3.kept (o14 (h + 3) (by omega))
            have hf19 := hL4.kept (o14 (h + 4) (by omega))
            have hf20 := hL5.kept (o14 (h + 5) (by omega))
            have hf21 := hL6.kept (o14 (h + 6) (by omega))
            refine g_iret hx hb hr hlk hK hM dX3_remove_137 ?_
            have hi2 : (i : Int) = P 10 - 1 := by omega
            exact ⟨rfl, ⟨hf15.trans (by simp only [sRem, shA, pu, ↓reduceIte] <;> (repeat' split) <;> first | rfl | omega | (congr 1; omega) | (congr 2; omega)), hf16.cong (fun k hk => by simp only [sRem, shA, pu, ↓reduceIte] <;> (repeat' split) <;> first | rfl | omega | (congr 1; omega) | (congr 2; omega)), hf17.cong (fun k hk => by simp only [sRem, shA, pu, ↓reduceIte] <;> (repeat' split) <;> first | rfl | omega | (congr 1; omega) | (congr 2; omega)), hf18.cong (fun k hk => by simp only [sRem, shA, pu, ↓reduceIte] <;> (repeat' split) <;> first | rfl | omega | (congr 1; omega) | (congr 2; omega)), hf19.cong (fun k hk => by simp only [sRem, shA, pu, ↓reduceIte] <;> (repeat' split) <;> first | rfl | omega | (congr 1; omega) | (congr 2; omega)), hf20.cong (fun k hk => by simp only [sRem, shA, pu, ↓reduceIte] <;> (repeat' split) <;> first | rfl | omega | (congr 1; omega) | (congr 2; omega)), hf21.cong (fun k hk => by simp only [sRem, shA, pu, ↓reduceIte] <;> (repeat' split) <;> first | rfl | omega | (congr 1; omega) | (congr 2; omega))⟩, (fun q hq => ((o14 (q) (by omega)).trans (hfr (q) (by omega))))⟩
          · skip
            refine lv_aload_n hx hb dX3_remove_33 rfl (lv_at hl 0 rfl) ?_
            refine g_get (ci := 5) (v := .ref (h + 1)) (C := RX3) (T := TX3) (N := 7) hx hb hts iU_X3 hown hK hM ⟨by omega, by omega⟩ hL0 rfl 0 (by decide) (hts _ u_135) (fun _ h9 => h9) rfl dX3_remove_34 ?_
            refine lv_iload_n hx hb dX3_remove_37 rfl (lv_at hl 2 rfl) ?_
            refine lv_aload_n hx hb dX3_remove_38 rfl (lv_at hl 0 rfl) ?_
            refine g_get (ci := 5) (v := .ref (h + 1)) (C := RX3) (T := TX3) (N := 7) hx hb hts iU_X3 hown hK hM ⟨by omega, by omega⟩ hL0 rfl 0 (by decide) (hts _ u_135) (fun _ h9 => h9) rfl dX3_remove_39 ?_
            refine lv_iload_n hx hb dX3_remove_42 rfl (lv_at hl 2 rfl) ?_
            refine g_iconst hx hb dX3_remove_43 ?_
            refine g_iadd hx hb dX3_remove_44 ?_
            refine g_iald hx hb hK hM ⟨by omega, by omega⟩ hL1 (by omega) (by omega) (by decide) dX3_remove_45 ?_
            show W _ _ _ _ _ _ _ _ _ _ _ _ _ _ _ (F0 _ _ _ (.int (zI (shA P 99 6 e i (i + 1))) :: _))
            refine g_iast hx hb hK hM ⟨by omega, by omega⟩ hL1 (by omega) (by omega) (by decide) dX3_remove_46 (fun f22 H locs hM ha24 o23 => ?_)
            refine lv_aload_n hx hb dX3_remove_47 rfl (lv_at hl 0 rfl) ?_
            have hf25 : f22 (h) = .inr (5, [.ref (h + 1), .ref (h + 2), .ref (h + 3), .ref (h + 4), .ref (h + 5), .ref (h + 6), .int (zI (P 10))]) := (o23 (h) (by omega)).trans hL0
            refine g_get (ci := 5) (v := .ref (h + 2)) (C := RX3) (T := TX3) (N := 7) hx hb hts iU_X3 hown hK hM ⟨by omega, by omega⟩ hf25 rfl 1 (by decide) (hts _ u_137) (fun _ h9 => h9) rfl dX3_remove_48 ?_
            refine lv_iload_n hx hb dX3_remove_51 rfl (lv_at hl 2 rfl) ?_
            refine lv_aload_n hx hb dX3_remove_52 rfl (lv_at hl 0 rfl) ?_
            refine g_get (ci := 5) (v := .ref (h + 2)) (C := RX3) (T := TX3) (N := 7) hx hb hts iU_X3 hown hK hM ⟨by omega, by omega⟩ hf25 rfl 1 (by decide) (hts _ u_137) (fun _ h9 => h9) rfl dX3_remove_53 ?_
            refine lv_iload_n hx hb dX3_remove_56 rfl (lv_at hl 2 rfl) ?_
            refine g_iconst hx hb dX3_remove_57 ?_
            refine g_iadd hx hb dX3_remove_58 ?_
            have hf26 := hL2.kept (o23 (h + 2) (by omega))
            refine g_iald hx hb hK hM ⟨by omega, by omega⟩ hf26 (by omega) (by omega) (by decide) dX3_remove_59 ?_
            show W _ _ _ _ _ _ _ _ _ _ _ _ _ _ _ (F0 _ _ _ (.int (zI (shA P 100 6 e i (i + 1))) :: _))
            refine g_iast hx hb hK hM ⟨by omega, by omega⟩ hf26 (by omega) (by omega) (by decide) dX3_remove_60 (fun f27 H locs hM ha29 o28 => ?_)
            refine lv_aload_n hx hb dX3_remove_61 rfl (lv_at hl 0 rfl) ?_
            have hf30 : f27 (h) = .inr (5, [.ref (h + 1), .ref (h + 2), .ref (h + 3), .ref (h + 4), .ref (h + 5), .ref (h + 6), .int (zI (P 10))]) := (o28 (h) (by omega)).trans hf25
            refine g_get (ci := 5) (v := .ref (h + 3)) (C := RX3) (T := TX3) (N := 7) hx hb hts iU_X3 hown hK hM ⟨by omega, by omega⟩ hf30 rfl 2 (by decide) (hts _ u_139) (fun _ h9 => h9) rfl dX3_remove_62 ?_
            refine lv_iload_n hx hb dX3_remove_65 rfl (lv_at hl 2 rfl) ?_
            refine lv_aload_n hx hb dX3_remove_66 rfl (lv_at hl 0 rfl) ?_
            refine g_get (ci := 5) (v := .ref (h + 3)) (C := RX3) (T := TX3) (N := 7) hx hb hts iU_X3 hown hK hM ⟨by omega, by omega⟩ hf30 rfl 2 (by decide) (hts _ u_139) (fun _ h9 => h9) rfl dX3_remove_67 ?_
            refine lv_iload_n hx hb dX3_remove_70 rfl (lv_at hl 2 rfl) ?_
            refine g_iconst hx hb dX3_remove_71 ?_
            refine g_iadd hx hb dX3_remove_72 ?_
            have hf31 := hL3.kept ((o28 (h + 3) (by omega)).trans (o23 (h + 3) (by omega)))
            refine g_iald hx hb hK hM ⟨by omega, by omega⟩ hf31 (by omega) (by omega) (by decide) dX3_remove_73 ?_
            show W _ _ _ _ _ _ _ _ _ _ _ _ _ _ _ (F0 _ _ _ (.int (zI (shA P 101 6 e i (i + 1))) :: _))
            refine g_iast hx hb hK hM ⟨by omega, by omega⟩ hf31 (by omega) (by omega) (by decide) dX3_remove_74 (fun f32 H locs hM ha34 o33 => ?_)
            refine lv_aload_n hx hb dX3_remove_75 rfl (lv_at hl 0 rfl) ?_
            have hf35 : f32 (h) = .inr (5, [.ref (h + 1), .ref (h + 2), .ref (h + 3), .ref (h + 4), .ref (h + 5), .ref (h + 6), .int (zI (P 10))]) := (o33 (h) (by omega)).trans hf30
            refine g_get (ci := 5) (v := .ref (h + 4)) (C := RX3) (T := TX3) (N := 7) hx hb hts iU_X3 hown hK hM ⟨by omega, by omega⟩ hf35 rfl 3 (by decide) (hts _ u_141) (fun _ h9 => h9) rfl dX3_remove_76 ?_
            refine lv_iload_n hx hb dX3_remove_79 rfl (lv_at hl 2 rfl) ?_
            refine lv_aload_n hx hb dX3_remove_80 rfl (lv_at hl 0 rfl) ?_
            refine g_get (ci := 5) (v := .ref (h + 4)) (C := RX3) (T := TX3) (N := 7) hx hb hts iU_X3 hown hK hM ⟨by omega, by omega⟩ hf35 rfl 3 (by decide) (hts _ u_141) (fun _ h9 => h9) rfl dX3_remove_81 ?_
            refine lv_iload_n hx hb dX3_remove_84 rfl (lv_at hl 2 rfl) ?_
            refine g_iconst hx hb dX3_remove_85 ?_
            refine g_iadd hx hb dX3_remove_86 ?_
            have hf36 := hL4.kept ((o33 (h + 4) (by omega)).trans ((o28 (h + 4) (by omega)).trans (o23 (h + 4) (by omega))))
            refine g_iald hx hb hK hM ⟨by omega, by omega⟩ hf36 (by omega) (by omega) (by decide) dX3_remove_87 ?_
            show W _ _ _ _ _ _ _ _ _ _ _ _ _ _ _ (F0 _ _ _ (.int (zI (shA P 102 6 e i (i + 1))) :: _))
            refine g_iast hx hb hK hM ⟨by omega, by omega⟩ hf36 (by omega) (by omega) (by decide) dX3_remove_88 (fun f37 H locs hM ha39 o38 => ?_)
            refine lv_aload_n hx hb dX3_remove_89 rfl (lv_at hl 0 rfl) ?_
            have hf40 : f37 (h) = .inr (5, [.ref (h + 1), .ref (h + 2), .ref (h + 3), .ref (h + 4), .ref (h + 5), .ref (h + 6), .int (zI (P 10))]) := (o38 (h) (by omega)).trans hf35
            refine g_get (ci := 5) (v := .ref (h + 5)) (C := RX3) (T := TX3) (N := 7) hx hb hts iU_X3 hown hK hM ⟨by omega, by omega⟩ hf40 rfl 4 (by decide) (hts _ u_143) (fun _ h9 => h9) rfl dX3_remove_90 ?_
            refine lv_iload_n hx hb dX3_remove_93 rfl (lv_at hl 2 rfl) ?_
            refine lv_aload_n hx hb dX3_remove_94 rfl (lv_at hl 0 rfl) ?_
            refine g_get (ci := 5) (v := .ref (h + 5)) (C := RX3) (T := TX3) (N := 7) hx hb hts iU_X3 hown hK hM ⟨by omega, by omega⟩ hf40 rfl 4 (by decide) (hts _ u_143) (fun _ h9 => h9) rfl dX3_remove_95 ?_
            refine lv_iload_n hx hb dX3_remove_98 rfl (lv_at hl 2 rfl) ?_
            refine g_iconst hx hb dX3_remove_99 ?_
            refine g_iadd hx hb dX3_remove_100 ?_
            have hf41 := hL5.kept ((o38 (h + 5) (by omega)).trans ((o33 (h + 5) (by omega)).trans ((o28 (h + 5) (by omega)).trans (o23 (h + 5) (by omega)))))
            refine g_iald hx hb hK hM ⟨by omega, by omega⟩ hf41 (by omega) (by omega) (by decide) dX3_remove_101 ?_
            show W _ _ _ _ _ _ _ _ _ _ _ _ _ _ _ (F0 _ _ _ (.int (zI (shA P 103 6 e i (i + 1))) :: _))
            refine g_iast hx hb hK hM ⟨by omega, by omega⟩ hf41 (by omega) (by omega) (by decide) dX3_remove_102 (fun f42 H locs hM ha44 o43 => ?_)
            refine lv_aload_n hx hb dX3_remove_103 rfl (lv_at hl 0 rfl) ?_
            have hf45 : f42 (h) = .inr (5, [.ref (h + 1), .ref (h + 2), .ref (h + 3), .ref (h + 4), .ref (h + 5), .ref (h + 6), .int (zI (P 10))]) := (o43 (h) (by omega)).trans hf40
            refine g_get (ci := 5) (v := .ref (h + 6)) (C := RX3) (T := TX3) (N := 7) hx hb hts iU_X3 hown hK hM ⟨by omega, by omega⟩ hf45 rfl 5 (by decide) (hts _ u_145) (fun _ h9 => h9) rfl dX3_remove_104 ?_
            refine lv_iload_n hx hb dX3_remove_107 rfl (lv_at hl 2 rfl) ?_
            refine lv_aload_n hx hb dX3_remove_108 rfl (lv_at hl 0 rfl) ?_
            refine g_get (ci := 5) (v := .ref (h + 6)) (C := RX3) (T := TX3) (N := 7) hx hb hts iU_X3 hown hK hM ⟨by omega, by omega⟩ hf45 rfl 5 (by decide) (hts _ u_145) (fun _ h9 => h9) rfl dX3_remove_109 ?_
            refine lv_iload_n hx hb dX3_remove_112 rfl (lv_at hl 2 rfl) ?_
            refine g_iconst hx hb dX3_remove_113 ?_
            refine g_iadd hx hb dX3_remove_114 ?_
            have hf46 := hL6.kept ((o43 (h + 6) (by omega)).trans ((o38 (h + 6) (by omega)).trans ((o33 (h + 6) (by omega)).trans ((o28 (h + 6) (by omega)).trans (o23 (h + 6) (by omega))))))
            refine g_iald hx hb hK hM ⟨by omega, by omega⟩ hf46 (by omega) (by omega) (by decide) dX3_remove_115 ?_
            show W _ _ _ _ _ _ _ _ _ _ _ _ _ _ _ (F0 _ _ _ (.int (zI (shA P 104 6 e i (i + 1))) :: _))
            refine g_iast hx hb hK hM ⟨by omega, by omega⟩ hf46 (by omega) (by omega) (by decide) dX3_remove_116 (fun f47 H locs hM ha49 o48 => ?_)
            refine lv_iinc (v := zI ((↑i : Int) + 1)) (lv' := [(2, .int (zI ((↑i : Int) + 1))), (0, .ref h), (1, .int (zI (↑e : Int)))]) hx hb dX3_remove_117 hl (k := 2) rfl (zI_add _ _) (by decide) rfl (fun ls hl => ?_)
            refine lv_goto (tgt := 15) hx hb dX3_remove_120 (by decide) ?_
            have hf50 : f47 (h) = .inr (5, [.ref (h + 1), .ref (h + 2), .ref (h + 3), .ref (h + 4), .ref (h + 5), .ref (h + 6), .int (zI (P 10))]) := (o48 (h) (by omega)).trans hf45
            have hf51 := ha24.kept ((o48 (h + 1) (by omega)).trans ((o43 (h + 1) (by omega)).trans ((o38 (h + 1) (by omega)).trans ((o33 (h + 1) (by omega)).trans (o28 (h + 1) (by omega))))))
            have hf52 := ha29.kept ((o48 (h + 2) (by omega)).trans ((o43 (h + 2) (by omega)).trans ((o38 (h + 2) (by omega)).trans (o33 (h + 2) (by omega)))))
            have hf53 := ha34.kept ((o48 (h + 3) (by omega)).trans ((o43 (h + 3) (by omega)).trans (o38 (h + 3) (by omega))))
            have hf54 := ha39.kept ((o48 (h + 4) (by omega)).trans (o43 (h + 4) (by omega)))
            have hf55 := ha44.kept (o48 (h + 5) (by omega))
            exact ih (i + 1) f47 _ _ _ (by omega) (by omega) (by omega) (fun q hq => ((o48 (q) (by omega)).trans ((o43 (q) (by omega)).trans ((o38 (q) (by omega)).trans ((o33 (q) (by omega)).trans ((o28 (q) (by omega)).trans ((o23 (q) (by omega)).trans (hfr (q) (by omega))))))))) hM hf50 (hf51.cong (fun k hk => by simp only [shA, pu] <;> (repeat' split) <;> first | rfl | omega | (congr 1; omega))) (hf52.cong (fun k hk => by simp only [shA, pu] <;> (repeat' split) <;> first | rfl | omega | (congr 1; omega))) (hf53.cong (fun k hk => by simp only [shA, pu] <;> (repeat' split) <;> first | rfl | omega | (congr 1; omega))) (hf54.cong (fun k hk => by simp only [shA, pu] <;> (repeat' split) <;> first | rfl | omega | (congr 1; omega))) (hf55.cong (fun k hk => by simp only [shA, pu] <;> (repeat' split) <;> first | rfl | omega | (congr 1; omega))) (ha49.cong (fun k hk => by simp only [shA, pu] <;> (repeat' split) <;> first | rfl | omega | (congr 1; omega))) (lv_sub hl [1, 2, 0] rfl)
    exact lp15 (9) e f _ _ _ (by omega) (by omega) (by omega) (fun q hq => rfl) hM hE0 (hE1.cong (fun k hk => by simp only [shA, pu] <;> (repeat' split) <;> first | rfl | omega | (congr 1; omega))) (hE2.cong (fun k hk => by simp only [shA, pu] <;> (repeat' split) <;> first | rfl | omega | (congr 1; omega))) (hE3.cong (fun k hk => by simp only [shA, pu] <;> (repeat' split) <;> first | rfl | omega | (congr 1; omega))) (hE4.cong (fun k hk => by simp only [shA, pu] <;> (repeat' split) <;> first | rfl | omega | (congr 1; omega))) (hE5.cong (fun k hk => by simp only [shA, pu] <;> (repeat' split) <;> first | rfl | omega | (congr 1; omega))) (hE6.cong (fun k hk => by simp only [shA, pu] <;> (repeat' split) <;> first | rfl | omega | (congr 1; omega))) (lv_sub hl [1, 2, 0] rfl)
  · skip
    refine lv_aload_n hx hb dX3_remove_8 rfl (lv_at hl 0 rfl) ?_
    refine g_get (ci := 5) (v := .int (zI (P 10))) (C := RX3) (T := TX3) (N := 7) hx hb hts iU_X3 hown hK hM ⟨by omega, by omega⟩ hE0 rfl 6 (by decide) (hts _ u_147) (fun _ h9 => h9) rfl dX3_remove_9 ?_
    refine g_iret hx hb hr hlk hK hM dX3_remove_12 ?_
    exfalso; omega

def po_X3_copyFrom (g : gE) (f : gF) (h h2 : Nat) (P P2 : Nat → Int) : gF → Prop := fun f1 => itemAt g f1 h P2 ∧ ∀ q, (q < h ∨ h + 7 ≤ q) → f1 q = f q
set_option maxRecDepth 100000 in
set_option maxHeartbeats 4000000 in
/-- copyFrom(other) -/
theorem c_X3_copyFrom (l : Launch) (g : gE) (b0 n : Nat) (f : gF) (h h2 : Nat) (P P2 : Nat → Int) (hE : itemAt g f h P) (hG : itemAt g f h2 P2) (hrg : b0 ≤ h ∧ h + 7 ≤ b0 + n) (hrg2 : b0 ≤ h2 ∧ h2 + 7 ≤ b0 + n) (hd : h + 7 ≤ h2 ∨ h2 + 7 ≤ h) : cV l yX3_copyFrom cX3_copyFrom 2 none 1 60 [.ref h, .ref h2] g b0 n f (po_X3_copyFrom g f h h2 P P2) := by
  refine gs_v (cc := cX3_copyFrom) (maxL := 2) (ret := none) (by decide) (Nat.le_of_ble_eq_true rfl) ?_
  intro p e0 s m args below meth c ls hx hb hr hml hown hts hlk hK hM hl
  have hl : lv_has ls 2 [(0, .ref h), (1, .ref h2)] := hl
  obtain ⟨hE0, hE1, hE2, hE3, hE4, hE5, hE6⟩ := hE
  obtain ⟨hG0, hG1, hG2, hG3, hG4, hG5, hG6⟩ := hG
  refine lv_aload_n hx hb dX3_copyFrom_0 rfl (lv_at hl 1 rfl) ?_
  refine g_get (ci := 5) (v := .ref (h2 + 1)) (C := RX3) (T := TX3) (N := 7) hx hb hts iU_X3 hown hK hM ⟨by omega, by omega⟩ hG0 rfl 0 (by decide) (hts _ u_135) (fun _ h9 => h9) rfl dX3_copyFrom_1 ?_
  refine g_iconst hx hb dX3_copyFrom_4 ?_
  refine lv_aload_n hx hb dX3_copyFrom_5 rfl (lv_at hl 0 rfl) ?_
  refine g_get (ci := 5) (v := .ref (h + 1)) (C := RX3) (T := TX3) (N := 7) hx hb hts iU_X3 hown hK hM ⟨by omega, by omega⟩ hE0 rfl 0 (by decide) (hts _ u_135) (fun _ h9 => h9) rfl dX3_copyFrom_6 ?_
  refine g_iconst hx hb dX3_copyFrom_9 ?_
  refine g_bipush hx hb dX3_copyFrom_10 (by decide) ?_
  refine g_copyI hx hb (hml.trans hl.1.symm) hown (hts _ u_583) hts hK hM ⟨by omega, by omega⟩ ⟨by omega, by omega⟩ hG1 hE1 rfl (by decide) (Nat.le_of_ble_eq_true rfl) (Nat.le_of_ble_eq_true rfl) dX3_copyFrom_12 (fun f1 H locs hM ha3 o2 => ?_)
  refine lv_aload_n hx hb dX3_copyFrom_15 rfl (lv_at hl 1 rfl) ?_
  have hf4 : f1 (h2) = .inr (5, [.ref (h2 + 1), .ref (h2 + 2), .ref (h2 + 3), .ref (h2 + 4), .ref (h2 + 5), .ref (h2 + 6), .int (zI (P2 10))]) := (o2 (h2) (by omega)).trans hG0
  refine g_get (ci := 5) (v := .ref (h2 + 2)) (C := RX3) (T := TX3) (N := 7) hx hb hts iU_X3 hown hK hM ⟨by omega, by omega⟩ hf4 rfl 1 (by decide) (hts _ u_137) (fun _ h9 => h9) rfl dX3_copyFrom_16 ?_
  refine g_iconst hx hb dX3_copyFrom_19 ?_
  refine lv_aload_n hx hb dX3_copyFrom_20 rfl (lv_at hl 0 rfl) ?_
  have hf5 : f1 (h) = .inr (5, [.ref (h + 1), .ref (h + 2), .ref (h + 3), .ref (h + 4), .ref (h + 5), .ref (h + 6), .int (zI (P 10))]) := (o2 (h) (by omega)).trans hE0
  refine g_get (ci := 5) (v := .ref (h + 2)) (C := RX3) (T := TX3) (N := 7) hx hb hts iU_X3 hown hK hM ⟨by omega, by omega⟩ hf5 rfl 1 (by decide) (hts _ u_137) (fun _ h9 => h9) rfl dX3_copyFrom_21 ?_
  refine g_iconst hx hb dX3_copyFrom_24 ?_
  refine g_bipush hx hb dX3_copyFrom_25 (by decide) ?_
  have hf6 := hG2.kept (o2 (h2 + 2) (by omega))
  have hf7 := hE2.kept (o2 (h + 2) (by omega))
  refine g_copyI hx hb (hml.trans hl.1.symm) hown (hts _ u_583) hts hK hM ⟨by omega, by omega⟩ ⟨by omega, by omega⟩ hf6 hf7 rfl (by decide) (Nat.le_of_ble_eq_true rfl) (Nat.le_of_ble_eq_true rfl) dX3_copyFrom_27 (fun f8 H locs hM ha10 o9 => ?_)
  refine lv_aload_n hx hb dX3_copyFrom_30 rfl (lv_at hl 1 rfl) ?_
  have hf11 : f8 (h2) = .inr (5, [.ref (h2 + 1), .ref (h2 + 2), .ref (h2 + 3), .ref (h2 + 4), .ref (h2 + 5), .ref (h2 + 6), .int (zI (P2 10))]) := (o9 (h2) (by omega)).trans hf4
  refine g_get (ci := 5) (v := .ref (h2 + 3)) (C := RX3) (T := TX3) (N := 7) hx hb hts iU_X3 hown hK hM ⟨by omega, by omega⟩ hf11 rfl 2 (by decide) (hts _ u_139) (fun _ h9 => h9) rfl dX3_copyFrom_31 ?_
  refine g_iconst hx hb dX3_copyFrom_34 ?_
  refine lv_aload_n hx hb dX3_copyFrom_35 rfl (lv_at hl 0 rfl) ?_
  have hf12 : f8 (h) = .inr (5, [.ref (h + 1), .ref (h + 2), .ref (h + 3), .ref (h + 4), .ref (h + 5), .ref (h + 6), .int (zI (P 10))]) := (o9 (h) (by omega)).trans hf5
  refine g_get (ci := 5) (v := .ref (h + 3)) (C := RX3) (T := TX3) (N := 7) hx hb hts iU_X3 hown hK hM ⟨by omega, by omega⟩ hf12 rfl 2 (by decide) (hts _ u_139) (fun _ h9 => h9) rfl dX3_copyFrom_36 ?_
  refine g_iconst hx hb dX3_copyFrom_39 ?_
  refine g_bipush hx hb dX3_copyFrom_40 (by decide) ?_
  have hf13 := hG3.kept ((o9 (h2 + 3) (by omega)).trans (o2 (h2 + 3) (by omega)))
  have hf14 := hE3.kept ((o9 (h + 3) (by omega)).trans (o2 (h + 3) (by omega)))
  refine g_copyI hx hb (hml.trans hl.1.symm) hown (hts _ u_583) hts hK hM ⟨by omega, by omega⟩ ⟨by omega, by omega⟩ hf13 hf14 rfl (by decide) (Nat.le_of_ble_eq_true rfl) (Nat.le_of_ble_eq_true rfl) dX3_copyFrom_42 (fun f15 H locs hM ha17 o16 => ?_)
  refine lv_aload_n hx hb dX3_copyFrom_45 rfl (lv_at hl 1 rfl) ?_
  have hf18 : f15 (h2) = .inr (5, [.ref (h2 + 1), .ref (h2 + 2), .ref (h2 + 3), .ref (h2 + 4), .ref (h2 + 5), .ref (h2 + 6), .int (zI (P2 10))]) := (o16 (h2) (by omega)).trans hf11
  refine g_get (ci := 5) (v := .ref (h2 + 4)) (C := RX3) (T := TX3) (N := 7) hx hb hts iU_X3 hown hK hM ⟨by omega, by omega⟩ hf18 rfl 3 (by decide) (hts _ u_141) (fun _ h9 => h9) rfl dX3_copyFrom_46 ?_
  refine g_iconst hx hb dX3_copyFrom_49 ?_
  refine lv_aload_n hx hb dX3_copyFrom_50 rfl (lv_at hl 0 rfl) ?_
  have hf19 : f15 (h) = .inr (5, [.ref (h + 1), .ref (h + 2), .ref (h + 3), .ref (h + 4), .ref (h + 5), .ref (h + 6), .int (zI (P 10))]) := (o16 (h) (by omega)).trans hf12
  refine g_get (ci := 5) (v := .ref (h + 4)) (C := RX3) (T := TX3) (N := 7) hx hb hts iU_X3 hown hK hM ⟨by omega, by omega⟩ hf19 rfl 3 (by decide) (hts _ u_141) (fun _ h9 => h9) rfl dX3_copyFrom_51 ?_
  refine g_iconst hx hb dX3_copyFrom_54 ?_
  refine g_bipush hx hb dX3_copyFrom_55 (by decide) ?_
  have hf20 := hG4.kept ((o16 (h2 + 4) (by omega)).trans ((o9 (h2 + 4) (by omega)).trans (o2 (h2 + 4) (by omega))))
  have hf21 := hE4.kept ((o16 (h + 4) (by omega)).trans ((o9 (h + 4) (by omega)).trans (o2 (h + 4) (by omega))))
  refine g_copyI hx hb (hml.trans hl.1.symm) hown (hts _ u_583) hts hK hM ⟨by omega, by omega⟩ ⟨by omega, by omega⟩ hf20 hf21 rfl (by decide) (Nat.le_of_ble_eq_true rfl) (Nat.le_of_ble_eq_true rfl) dX3_copyFrom_57 (fun f22 H locs hM ha24 o23 => ?_)
  refine lv_aload_n hx hb dX3_copyFrom_60 rfl (lv_at hl 1 rfl) ?_
  have hf25 : f22 (h2) = .inr (5, [.ref (h2 + 1), .ref (h2 + 2), .ref (h2 + 3), .ref (h2 + 4), .ref (h2 + 5), .ref (h2 + 6), .int (zI (P2 10))]) := (o23 (h2) (by omega)).trans hf18
  refine g_get (ci := 5) (v := .ref (h2 + 5)) (C := RX3) (T := TX3) (N := 7) hx hb hts iU_X3 hown hK hM ⟨by omega, by omega⟩ hf25 rfl 4 (by decide) (hts _ u_143) (fun _ h9 => h9) rfl dX3_copyFrom_61 ?_
  refine g_iconst hx hb dX3_copyFrom_64 ?_
  refine lv_aload_n hx hb dX3_copyFrom_65 rfl (lv_at hl 0 rfl) ?_
  have hf26 : f22 (h) = .inr (5, [.ref (h + 1), .ref (h + 2), .ref (h + 3), .ref (h + 4), .ref (h + 5), .ref (h + 6), .int (zI (P 10))]) := (o23 (h) (by omega)).trans hf19
  refine g_get (ci := 5) (v := .ref (h + 5)) (C := RX3) (T := TX3) (N := 7) hx hb hts iU_X3 hown hK hM ⟨by omega, by omega⟩ hf26 rfl 4 (by decide) (hts _ u_143) (fun _ h9 => h9) rfl dX3_copyFrom_66 ?_
  refine g_iconst hx hb dX3_copyFrom_69 ?_
  refine g_bipush hx hb dX3_copyFrom_70 (by decide) ?_
  have hf27 := hG5.kept ((o23 (h2 + 5) (by omega)).trans ((o16 (h2 + 5) (by omega)).trans ((o9 (h2 + 5) (by omega)).trans (o2 (h2 + 5) (by omega)))))
  have hf28 := hE5.kept ((o23 (h + 5) (by omega)).trans ((o16 (h + 5) (by omega)).trans ((o9 (h + 5) (by omega)).trans (o2 (h + 5) (by omega)))))
  refine g_copyI hx hb (hml.trans hl.1.symm) hown (hts _ u_583) hts hK hM ⟨by omega, by omega⟩ ⟨by omega, by omega⟩ hf27 hf28 rfl (by decide) (Nat.le_of_ble_eq_true rfl) (Nat.le_of_ble_eq_true rfl) dX3_copyFrom_72 (fun f29 H locs hM ha31 o30 => ?_)
  refine lv_aload_n hx hb dX3_copyFrom_75 rfl (lv_at hl 1 rfl) ?_
  have hf32 : f29 (h2) = .inr (5, [.ref (h2 + 1), .ref (h2 + 2), .ref (h2 + 3), .ref (h2 + 4), .ref (h2 + 5), .ref (h2 + 6), .int (zI (P2 10))]) := (o30 (h2) (by omega)).trans hf25
  refine g_get (ci := 5) (v := .ref (h2 + 6)) (C := RX3) (T := TX3) (N := 7) hx hb hts iU_X3 hown hK hM ⟨by omega, by omega⟩ hf32 rfl 5 (by decide) (hts _ u_145) (fun _ h9 => h9) rfl dX3_copyFrom_76 ?_
  refine g_iconst hx hb dX3_copyFrom_79 ?_
  refine lv_aload_n hx hb dX3_copyFrom_80 rfl (lv_at hl 0 rfl) ?_
  have hf33 : f29 (h) = .inr (5, [.ref (h + 1), .ref (h + 2), .ref (h + 3), .ref (h + 4), .ref (h + 5), .ref (h + 6), .int (zI (P 10))]) := (o30 (h) (by omega)).trans hf26
  refine g_get (ci := 5) (v := .ref (h + 6)) (C := RX3) (T := TX3) (N := 7) hx hb hts iU_X3 hown hK hM ⟨by omega, by omega⟩ hf33 rfl 5 (by decide) (hts _ u_145) (fun _ h9 => h9) rfl dX3_copyFrom_81 ?_
  refine g_iconst hx hb dX3_copyFrom_84 ?_
  refine g_bipush hx hb dX3_copyFrom_85 (by decide) ?_
  have hf34 := hG6.kept ((o30 (h2 + 6) (by omega)).trans ((o23 (h2 + 6) (by omega)).trans ((o16 (h2 + 6) (by omega)).trans ((o9 (h2 + 6) (by omega)).trans (o2 (h2 + 6) (by omega))))))
  have hf35 := hE6.kept ((o30 (h + 6) (by omega)).trans ((o23 (h + 6) (by omega)).trans ((o16 (h + 6) (by omega)).trans ((o9 (h + 6) (by omega)).trans (o2 (h + 6) (by omega))))))
  refine g_copyI hx hb (hml.trans hl.1.symm) hown (hts _ u_583) hts hK hM ⟨by omega, by omega⟩ ⟨by omega, by omega⟩ hf34 hf35 rfl (by decide) (Nat.le_of_ble_eq_true rfl) (Nat.le_of_ble_eq_true rfl) dX3_copyFrom_87 (fun f36 H locs hM ha38 o37 => ?_)
  refine lv_aload_n hx hb dX3_copyFrom_90 rfl (lv_at hl 0 rfl) ?_
  refine lv_aload_n hx hb dX3_copyFrom_91 rfl (lv_at hl 1 rfl) ?_
  have hf39 : f36 (h2) = .inr (5, [.ref (h2 + 1), .ref (h2 + 2), .ref (h2 + 3), .ref (h2 + 4), .ref (h2 + 5), .ref (h2 + 6), .int (zI (P2 10))]) := (o37 (h2) (by omega)).trans hf32
  refine g_get (ci := 5) (v := .int (zI (P2 10))) (C := RX3) (T := TX3) (N := 7) hx hb hts iU_X3 hown hK hM ⟨by omega, by omega⟩ hf39 rfl 6 (by decide) (hts _ u_147) (fun _ h9 => h9) rfl dX3_copyFrom_92 ?_
  have hf40 : f36 (h) = .inr (5, [.ref (h + 1), .ref (h + 2), .ref (h + 3), .ref (h + 4), .ref (h + 5), .ref (h + 6), .int (zI (P 10))]) := (o37 (h) (by omega)).trans hf33
  refine g_put (ci := 5) (v := .int (zI (P2 10))) (ty := .int) (C := RX3) (T := TX3) (N := 7) hx hb hts iU_X3 tyX3 tyX3_ok nmX3 hown hK hM ⟨by omega, by omega⟩ hf40 rfl 6 (by decide) (hts _ u_147) (fun _ h9 => h9) rfl (by decide +kernel) rfl rfl (Nat.le_of_ble_eq_true rfl) dX3_copyFrom_95 (fun f41 H locs hM hf43 o42 => ?_)
  have hf43 : f41 (h) = .inr (5, [.ref (h + 1), .ref (h + 2), .ref (h + 3), .ref (h + 4), .ref (h + 5), .ref (h + 6), .int (zI (P2 10))]) := hf43
  have hf44 := ha3.kept ((o42 (h + 1) (by omega)).trans ((o37 (h + 1) (by omega)).trans ((o30 (h + 1) (by omega)).trans ((o23 (h + 1) (by omega)).trans ((o16 (h + 1) (by omega)).trans (o9 (h + 1) (by omega)))))))
  have hf45 := ha10.kept ((o42 (h + 2) (by omega)).trans ((o37 (h + 2) (by omega)).trans ((o30 (h + 2) (by omega)).trans ((o23 (h + 2) (by omega)).trans (o16 (h + 2) (by omega))))))
  have hf46 := ha17.kept ((o42 (h + 3) (by omega)).trans ((o37 (h + 3) (by omega)).trans ((o30 (h + 3) (by omega)).trans (o23 (h + 3) (by omega)))))
  have hf47 := ha24.kept ((o42 (h + 4) (by omega)).trans ((o37 (h + 4) (by omega)).trans (o30 (h + 4) (by omega))))
  have hf48 := ha31.kept ((o42 (h + 5) (by omega)).trans (o37 (h + 5) (by omega)))
  have hf49 := ha38.kept (o42 (h + 6) (by omega))
  refine g_vret hx hb hr hlk hK hM dX3_copyFrom_98 ?_
  exact ⟨⟨hf43, hf44.cong (fun k hk => by simp only [pu, ↓reduceIte] <;> (repeat' split) <;> first | rfl | omega | (congr 1; omega) | (congr 2; omega)), hf45.cong (fun k hk => by simp only [pu, ↓reduceIte] <;> (repeat' split) <;> first | rfl | omega | (congr 1; omega) | (congr 2; omega)), hf46.cong (fun k hk => by simp only [pu, ↓reduceIte] <;> (repeat' split) <;> first | rfl | omega | (congr 1; omega) | (congr 2; omega)), hf47.cong (fun k hk => by simp only [pu, ↓reduceIte] <;> (repeat' split) <;> first | rfl | omega | (congr 1; omega) | (congr 2; omega)), hf48.cong (fun k hk => by simp only [pu, ↓reduceIte] <;> (repeat' split) <;> first | rfl | omega | (congr 1; omega) | (congr 2; omega)), hf49.cong (fun k hk => by simp only [pu, ↓reduceIte] <;> (repeat' split) <;> first | rfl | omega | (congr 1; omega) | (congr 2; omega))⟩, (fun q hq => ((o42 (q) (by omega)).trans ((o37 (q) (by omega)).trans ((o30 (q) (by omega)).trans ((o23 (q) (by omega)).trans ((o16 (q) (by omega)).trans ((o9 (q) (by omega)).trans (o2 (q) (by omega)))))))))⟩
