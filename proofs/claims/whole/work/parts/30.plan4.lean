def po_X5_carry (g : gE) (f : gF) (h : Nat) (P : Nat → Int) (x y a : Int) : Int64 → gF → Prop := fun r f1 => r = zL (sMvN P y a) ∧ planAt g f1 h (sMv P x y a) ∧ ∀ q, (q < h ∨ h + 23 ≤ q) → f1 q = f q
set_option maxRecDepth 100000 in
set_option maxHeartbeats 1000000 in
/-- carry(from, to, amount) -/
theorem c_X5_carry (l : Launch) (g : gE) (b0 n : Nat) (f : gF) (h : Nat) (P : Nat → Int) (x y a : Int) (hE : planAt g f h P) (hrg : b0 ≤ h ∧ h + 23 ≤ b0 + n) (hwe : wfE P 1000000000000000) (hrx : rI x) (hry : rI y) (hx1 : x = -1 ∨ (0 ≤ x ∧ x < P 7)) (hy1 : y = -1 ∨ (0 ≤ y ∧ y < P 7)) (hxy : x ≠ y) (har : 1 ≤ a ∧ a ≤ 1000000) : cL l yX5_carry cX5_carry 6 (some .long) 1 25 [.ref h, .int (zI x), .int (zI y), .int (zI a)] g b0 n f (po_X5_carry g f h P x y a) := by
  refine gs_l (cc := cX5_carry) (maxL := 6) (ret := (some .long)) (by decide) (Nat.le_of_ble_eq_true rfl) ?_
  intro p e0 s m args below meth c ls hx hb hr hml hown hts hlk hK hM hl
  have hl : lv_has ls 6 [(0, .ref h), (1, .int (zI x)), (2, .int (zI y)), (3, .int (zI a))] := hl
  have hcn7 := hwe.1
  have hzn7 := hcn7.1
  have hzm7 := hcn7.2
  have har1 := har.1
  have har2 := har.2
  refine lv_iload_n hx hb dX5_carry_0 rfl (lv_at hl 3 rfl) ?_
  refine g_i2l hx hb dX5_carry_1 ⟨by omega, by omega⟩ ?_
  refine lv_lstore (lv' := [(4, .long (zL a)), (0, .ref h), (1, .int (zI x)), (2, .int (zI y)), (3, .int (zI a))]) hx hb dX5_carry_2 hl (by decide) rfl (fun ls hl => ?_)
  refine lv_iload_n hx hb dX5_carry_4 rfl (lv_at hl 3 rfl) ?_
  refine g_iconst hx hb dX5_carry_5 ?_
  refine g_icmp_ne (tgt := 23) hx hb dX5_carry_6 (by decide) hry (by decide) (fun c6 => ?_) (fun c6 => ?_)
  · skip
    obtain ⟨t0, hzt0⟩ : ∃ q : Nat, y = q := ⟨y.toNat, by omega⟩
    subst hzt0
    obtain ⟨⟨hz1, hz2⟩, ⟨hz3, hz4⟩, hz5⟩ := hwe.2 t0 (by omega)
    refine lv_aload_n hx hb dX5_carry_23 rfl (lv_at hl 1 rfl) ?_
    obtain ⟨ho1, ho2, ho3, ho4, ho5⟩ := id hE
    refine g_get (ci := 7) (v := .ref (h + 1)) (C := RX5) (T := TX5) (N := 11) hx hb hts iU_X5 hown hK hM ⟨by omega, by omega⟩ ho1 rfl 0 (by decide) (hts _ u_164) (fun _ h9 => h9) rfl dX5_carry_24 ?_
    refine lv_iload_n hx hb dX5_carry_27 rfl (lv_at hl 3 rfl) ?_
    refine lv_iload_n hx hb dX5_carry_28 rfl (lv_at hl 4 rfl) ?_
    refine g_i2l hx hb dX5_carry_29 ⟨by omega, by omega⟩ ?_
    have hC8 := c_X2_putWhatFits l g b0 n f (h + 1) P t0 a ho2 ⟨by omega, by omega⟩ hcn7 (by omega) ⟨by omega, by omega⟩ ⟨by omega, by omega⟩ ⟨by omega, by omega⟩
    obtain ⟨ho11, ho12, ho13, ho14, ho15⟩ := id ho2
    refine g_callVl (ci := 4) (C := RX2) (T := TX2) (N := 5) (As := [.int (zI (↑t0 : Int)), .long (zL a)]) (rest := []) ⟨hx, hb, hml, hown, hts⟩ hK hM hC8 (cuV (n := 2) hts u_495 u_492 u_5 (by decide) u_493 u_494 ⟨Nat.le_of_ble_eq_true rfl, Nat.le_of_ble_eq_true rfl⟩) ⟨by omega, by omega⟩ ho11 rfl rfl hl.1 rfl (Nat.le_of_ble_eq_true rfl) dX5_carry_30 ⟨Nat.zero_le _, Nat.zero_le _⟩ (fun r30 f9 H locs hM hp10 => ?_)
    obtain ⟨rfl, hn7, o6⟩ := hp10
    obtain ⟨P1, hP1⟩ : ∃ Q : Nat → Int, Q = sPut P t0 a := ⟨_, rfl⟩
    rw [← hP1] at hn7
    have hp16 := planAt.env (P' := P1) hE hn7 o6 (fun i hi => by rw [hP1]; unfold sPut; (repeat (first | rw [pu_s] | rw [pu_n (by omega)] | rw [Int.toNat_natCast])))
    refine lv_lstore (lv' := [(4, .long (zL (sIs P t0 a))), (0, .ref h), (1, .int (zI x)), (2, .int (zI (↑t0 : Int))), (3, .int (zI a))]) hx hb dX5_carry_33 hl (by decide) rfl (fun ls hl => ?_)
    refine lv_iload_n hx hb dX5_carry_35 rfl (lv_at hl 2 rfl) ?_
    refine g_iconst hx hb dX5_carry_36 ?_
    refine g_icmp_ne (tgt := 54) hx hb dX5_carry_37 (by decide) hrx (by decide) (fun c37 => ?_) (fun c37 => ?_)
    · skip
      obtain ⟨s0, hzs0⟩ : ∃ q : Nat, x = q := ⟨x.toNat, by omega⟩
      subst hzs0
      refine lv_aload_n hx hb dX5_carry_54 rfl (lv_at hl 1 rfl) ?_
      obtain ⟨ho17, ho18, ho19, ho20, ho21⟩ := id hp16
      refine g_get (ci := 7) (v := .ref (h + 1)) (C := RX5) (T := TX5) (N := 11) hx hb hts iU_X5 hown hK hM ⟨by omega, by omega⟩ ho17 rfl 0 (by decide) (hts _ u_164) (fun _ h9 => h9) rfl dX5_carry_55 ?_
      refine lv_iload_n hx hb dX5_carry_58 rfl (lv_at hl 2 rfl) ?_
      refine lv_lload hx hb dX5_carry_59 (lv_at hl 0 rfl) ?_
      have hk7 : P1 7 = P 7 := by first | rfl | (rw [hP1]; rw [pu_n (by omega)]) | (rw [hP1]; unfold sPut; rw [pu_n (by omega)])
      have hC24 := c_X2_take l g b0 n f9 (h + 1) P1 s0 (sIs P t0 a) ho18 ⟨by omega, by omega⟩ (by rw [hk7]; exact hcn7) (by rw [hk7]; omega)
      obtain ⟨ho27, ho28, ho29, ho30, ho31⟩ := id ho18
      refine g_callVv (ci := 4) (C := RX2) (T := TX2) (N := 5) (As := [.int (zI (↑s0 : Int)), .long (zL (sIs P t0 a))]) (rest := []) ⟨hx, hb, hml, hown, hts⟩ hK hM hC24 (cuV (n := 2) hts u_524 u_521 u_5 (by decide) u_522 u_523 ⟨Nat.le_of_ble_eq_true rfl, Nat.le_of_ble_eq_true rfl⟩) ⟨by omega, by omega⟩ ho27 rfl rfl hl.1 rfl (Nat.le_of_ble_eq_true rfl) dX5_carry_61 ⟨Nat.zero_le _, Nat.zero_le _⟩ (fun f25 H locs hM hp26 => ?_)
      obtain ⟨hn23, o22⟩ := hp26
      obtain ⟨P9, hP9⟩ : ∃ Q : Nat → Int, Q = pu P1 (11 + 4 * s0) (P1 (11 + 4 * s0) - (sIs P t0 a)) := ⟨_, rfl⟩
      rw [← hP9] at hn23
      have hp32 := planAt.env (P' := P9) hp16 hn23 o22 (fun i hi => by rw [hP9]; (repeat (first | rw [pu_s] | rw [pu_n (by omega)] | rw [Int.toNat_natCast])))
      refine lv_lload hx hb dX5_carry_64 (lv_at hl 0 rfl) ?_
      obtain ⟨ho33, ho34, ho35, ho36, ho37⟩ := id hp32
      refine g_lret hx hb hr hlk hK hM dX5_carry_66 ?_
      have hN : sMvN P (↑t0 : Int) a = (sIs P t0 a) := by simp only [sMvN, ↓reduceIte, Int.toNat_natCast, show ¬ (((t0 : Nat) : Int) = -1) by omega]
      have hS : sMv P (↑s0 : Int) (↑t0 : Int) a = P9 := by
        simp only [sMv, sMvN, ↓reduceIte, Int.toNat_natCast, show ¬ (((s0 : Nat) : Int) = -1) by omega, show ¬ (((t0 : Nat) : Int) = -1) by omega]
        simp only [hP9, hP1]
      refine ⟨by rw [hN], ?_, (fun q hq => ((o22 (q) (by omega)).trans (o6 (q) (by omega))))⟩
      rw [hS]
      exact hp32
    · skip
      subst c37
      refine lv_aload_n hx hb dX5_carry_40 rfl (lv_at hl 1 rfl) ?_
      refine lv_dup hx hb dX5_carry_41 rfl ?_
      obtain ⟨ho38, ho39, ho40, ho41, ho42⟩ := id hp16
      refine g_get (ci := 7) (v := .long (zL (P1 0))) (C := RX5) (T := TX5) (N := 11) hx hb hts iU_X5 hown hK hM ⟨by omega, by omega⟩ ho38 rfl 4 (by decide) (hts _ u_172) (fun _ h9 => h9) rfl dX5_carry_42 ?_
      refine lv_lload hx hb dX5_carry_45 (lv_at hl 0 rfl) ?_
      refine g_lsub hx hb dX5_carry_47 ?_
      refine g_put (ci := 7) (v := .long (zL ((P1 0) - (sIs P t0 a)))) (ty := .long) (C := RX5) (T := TX5) (N := 11) hx hb hts iU_X5 tyX5 tyX5_ok nmX5 hown hK hM ⟨by omega, by omega⟩ ho38 rfl 4 (by decide) (hts _ u_172) (fun _ h9 => h9) rfl (by decide +kernel) rfl rfl (Nat.le_of_ble_eq_true rfl) dX5_carry_48 (fun f43 H locs hM hf45 o44 => ?_)
      have hf45 : f43 (h) = .inr (7, [.ref (h + 1), .ref (h + 6), .ref (h + 10), .ref (h + 16), .long (zL ((P1 0) - (sIs P t0 a))), .int (zI (P1 1)), .long (zL (P1 2)), .long (zL (P1 3)), .int (zI (P1 4)), .long (zL (P1 5)), .long (zL (P1 6))]) := hf45
      refine lv_goto (tgt := 64) hx hb dX5_carry_51 (by decide) ?_
      refine lv_lload hx hb dX5_carry_64 (lv_at hl 0 rfl) ?_
      have hf47 := ho39.kept (fun q h1 h2 => (o44 (q) (by omega)))
      have hf48 := ho40.kept (fun q h1 h2 => (o44 (q) (by omega)))
      have hf49 := ho41.kept (fun q h1 h2 => (o44 (q) (by omega)))
      have hf50 := ho42.kept (fun q h1 h2 => (o44 (q) (by omega)))
      obtain ⟨Q46, hQ46⟩ : ∃ Q : Nat → Int, Q = pu P1 0 ((P1 0) - (sIs P t0 a)) := ⟨_, rfl⟩
      have hp51 : planAt g f43 h Q46 := ⟨hf45.trans (by rw [hQ46]; (repeat (first | rw [pu_s] | rw [pu_n (by omega)] | rw [Int.toNat_natCast]))), hf47.cong (fun i hi => by rw [hQ46]; (repeat (first | rw [pu_s] | rw [pu_n (by omega)] | rw [Int.toNat_natCast]))), hf48.cong (fun i hi => by rw [hQ46]; (repeat (first | rw [pu_s] | rw [pu_n (by omega)] | rw [Int.toNat_natCast]))), hf49.cong (fun i hi => by rw [hQ46]; (repeat (first | rw [pu_s] | rw [pu_n (by omega)] | rw [Int.toNat_natCast]))), hf50.cong (fun i hi => by rw [hQ46]; (repeat (first | rw [pu_s] | rw [pu_n (by omega)] | rw [Int.toNat_natCast])))⟩
      refine g_lret hx hb hr hlk hK hM dX5_carry_66 ?_
      have hN : sMvN P (↑t0 : Int) a = (sIs P t0 a) := by simp only [sMvN, ↓reduceIte, Int.toNat_natCast, show ¬ (((t0 : Nat) : Int) = -1) by omega]
      have hS : sMv P (-1) (↑t0 : Int) a = Q46 := by
        simp only [sMv, sMvN, ↓reduceIte, Int.toNat_natCast, show ¬ (((t0 : Nat) : Int) = -1) by omega]
        simp only [hQ46, hP1]
      refine ⟨by rw [hN], ?_, (fun q hq => ((o44 (q) (by omega)).trans (o6 (q) (by omega))))⟩
      rw [hS]
      exact hp51
  · skip
    subst c6
    refine lv_aload_n hx hb dX5_carry_9 rfl (lv_at hl 1 rfl) ?_
    refine lv_dup hx hb dX5_carry_10 rfl ?_
    obtain ⟨ho52, ho53, ho54, ho55, ho56⟩ := id hE
    refine g_get (ci := 7) (v := .long (zL (P 0))) (C := RX5) (T := TX5) (N := 11) hx hb hts iU_X5 hown hK hM ⟨by omega, by omega⟩ ho52 rfl 4 (by decide) (hts _ u_172) (fun _ h9 => h9) rfl dX5_carry_11 ?_
    refine lv_lload hx hb dX5_carry_14 (lv_at hl 0 rfl) ?_
    refine g_ladd hx hb dX5_carry_16 ?_
    refine g_put (ci := 7) (v := .long (zL ((P 0) + a))) (ty := .long) (C := RX5) (T := TX5) (N := 11) hx hb hts iU_X5 tyX5 tyX5_ok nmX5 hown hK hM ⟨by omega, by omega⟩ ho52 rfl 4 (by decide) (hts _ u_172) (fun _ h9 => h9) rfl (by decide +kernel) rfl rfl (Nat.le_of_ble_eq_true rfl) dX5_carry_17 (fun f57 H locs hM hf59 o58 => ?_)
    have hf59 : f57 (h) = .inr (7, [.ref (h + 1), .ref (h + 6), .ref (h + 10), .ref (h + 16), .long (zL ((P 0) + a)), .int (zI (P 1)), .long (zL (P 2)), .long (zL (P 3)), .int (zI (P 4)), .long (zL (P 5)), .long (zL (P 6))]) := hf59
    refine lv_goto (tgt := 35) hx hb dX5_carry_20 (by decide) ?_
    refine lv_iload_n hx hb dX5_carry_35 rfl (lv_at hl 2 rfl) ?_
    refine g_iconst hx hb dX5_carry_36 ?_
    refine g_icmp_ne (tgt := 54) hx hb dX5_carry_37 (by decide) hrx (by decide) (fun c37 => ?_) (fun c37 => ?_)
    · skip
      obtain ⟨s0, hzs0⟩ : ∃ q : Nat, x = q := ⟨x.toNat, by omega⟩
      subst hzs0
      refine lv_aload_n hx hb dX5_carry_54 rfl (lv_at hl 1 rfl) ?_
      refine g_get (ci := 7) (v := .ref (h + 1)) (C := RX5) (T := TX5) (N := 11) hx hb hts iU_X5 hown hK hM ⟨by omega, by omega⟩ hf59 rfl 0 (by decide) (hts _ u_164) (fun _ h9 => h9) rfl dX5_carry_55 ?_
      refine lv_iload_n hx hb dX5_carry_58 rfl (lv_at hl 2 rfl) ?_
      refine lv_lload hx hb dX5_carry_59 (lv_at hl 0 rfl) ?_
      have hf61 := ho53.kept (fun q h1 h2 => (o58 (q) (by omega)))
      have hf62 := ho54.kept (fun q h1 h2 => (o58 (q) (by omega)))
      have hf63 := ho55.kept (fun q h1 h2 => (o58 (q) (by omega)))
      have hf64 := ho56.kept (fun q h1 h2 => (o58 (q) (by omega)))
      obtain ⟨Q60, hQ60⟩ : ∃ Q : Nat → Int, Q = pu P 0 ((P 0) + a) := ⟨_, rfl⟩
      have hp65 : planAt g f57 h Q60 := ⟨hf59.trans (by rw [hQ60]; (repeat (first | rw [pu_s] | rw [pu_n (by omega)] | rw [Int.toNat_natCast]))), hf61.cong (fun i hi => by rw [hQ60]; (repeat (first | rw [pu_s] | rw [pu_n (by omega)] | rw [Int.toNat_natCast]))), hf62.cong (fun i hi => by rw [hQ60]; (repeat (first | rw [pu_s] | rw [pu_n (by omega)] | rw [Int.toNat_natCast]))), hf63.cong (fun i hi => by rw [hQ60]; (repeat (first | rw [pu_s] | rw [pu_n (by omega)] | rw [Int.toNat_natCast]))), hf64.cong (fun i hi => by rw [hQ60]; (repeat (first | rw [pu_s] | rw [pu_n (by omega)] | rw [Int.toNat_natCast])))⟩
      have hk7 : Q60 7 = P 7 := by first | rfl | (rw [hQ60]; rw [pu_n (by omega)]) | (rw [hQ60]; unfold sPut; rw [pu_n (by omega)])
      obtain ⟨ho66, ho67, ho68, ho69, ho70⟩ := id hp65
      have hC73 := c_X2_take l g b0 n f57 (h + 1) Q60 s0 a ho67 ⟨by omega, by omega⟩ (by rw [hk7]; exact hcn7) (by rw [hk7]; omega)
      obtain ⟨ho76, ho77, ho78, ho79, ho80⟩ := id ho67
      refine g_callVv (ci := 4) (C := RX2) (T := TX2) (N := 5) (As := [.int (zI (↑s0 : Int)), .long (zL a)]) (rest := []) ⟨hx, hb, hml, hown, hts⟩ hK hM hC73 (cuV (n := 2) hts u_524 u_521 u_5 (by decide) u_522 u_523 ⟨Nat.le_of_ble_eq_true rfl, Nat.le_of_ble_eq_true rfl⟩) ⟨by omega, by omega⟩ ho76 rfl rfl hl.1 rfl (Nat.le_of_ble_eq_true rfl) dX5_carry_61 ⟨Nat.zero_le _, Nat.zero_le _⟩ (fun f74 H locs hM hp75 => ?_)
      obtain ⟨hn72, o71⟩ := hp75
      obtain ⟨P9, hP9⟩ : ∃ Q : Nat → Int, Q = pu Q60 (11 + 4 * s0) (Q60 (11 + 4 * s0) - a) := ⟨_, rfl⟩
      rw [← hP9] at hn72
      have hp81 := planAt.env (P' := P9) hp65 hn72 o71 (fun i hi => by rw [hP9]; (repeat (first | rw [pu_s] | rw [pu_n (by omega)] | rw [Int.toNat_natCast])))
      refine lv_lload hx hb dX5_carry_64 (lv_at hl 0 rfl) ?_
      obtain ⟨ho82, ho83, ho84, ho85, ho86⟩ := id hp81
      refine g_lret hx hb hr hlk hK hM dX5_carry_66 ?_
      have hN : sMvN P (-1) a = a := by simp only [sMvN, ↓reduceIte, Int.toNat_natCast]
      have hS : sMv P (↑s0 : Int) (-1) a = P9 := by
        simp only [sMv, sMvN, ↓reduceIte, Int.toNat_natCast, show ¬ (((s0 : Nat) : Int) = -1) by omega]
        simp only [hP9, hQ60]
      refine ⟨by rw [hN], ?_, (fun q hq => ((o71 (q) (by omega)).trans (o58 (q) (by omega))))⟩
      rw [hS]
      exact hp81
    · skip
      subst c37
      refine lv_aload_n hx hb dX5_carry_40 rfl (lv_at hl 1 rfl) ?_
      refine lv_dup hx hb dX5_carry_41 rfl ?_
      refine g_get (ci := 7) (v := .long (zL ((P 0) + a))) (C := RX5) (T := TX5) (N := 11) hx hb hts iU_X5 hown hK hM ⟨by omega, by omega⟩ hf59 rfl 4 (by decide) (hts _ u_172) (fun _ h9 => h9) rfl dX5_carry_42 ?_
      refine lv_lload hx hb dX5_carry_45 (lv_at hl 0 rfl) ?_
      refine g_lsub hx hb dX5_carry_47 ?_
      refine g_put (ci := 7) (v := .long (zL (((P 0) + a) - a))) (ty := .long) (C := RX5) (T := TX5) (N := 11) hx hb hts iU_X5 tyX5 tyX5_ok nmX5 hown hK hM ⟨by omega, by omega⟩ hf59 rfl 4 (by decide) (hts _ u_172) (fun _ h9 => h9) rfl (by decide +kernel) rfl rfl (Nat.le_of_ble_eq_true rfl) dX5_carry_48 (fun f87 H locs hM hf89 o88 => ?_)
      have hf89 : f87 (h) = .inr (7, [.ref (h + 1), .ref (h + 6), .ref (h + 10), .ref (h + 16), .long (zL (((P 0) + a) - a)), .int (zI (P 1)), .long (zL (P 2)), .long (zL (P 3)), .int (zI (P 4)), .long (zL (P 5)), .long (zL (P 6))]) := hf89
      refine lv_goto (tgt := 64) hx hb dX5_carry_51 (by decide) ?_
      refine lv_lload hx hb dX5_carry_64 (lv_at hl 0 rfl) ?_
      have hf91 := ho53.kept (fun q h1 h2 => ((o88 (q) (by omega)).trans (o58 (q) (by omega))))
      have hf92 := ho54.kept (fun q h1 h2 => ((o88 (q) (by omega)).trans (o58 (q) (by omega))))
      have hf93 := ho55.kept (fun q h1 h2 => ((o88 (q) (by omega)).trans (o58 (q) (by omega))))
      have hf94 := ho56.kept (fun q h1 h2 => ((o88 (q) (by omega)).trans (o58 (q) (by omega))))
      obtain ⟨Q90, hQ90⟩ : ∃ Q : Nat → Int, Q = pu P 0 (((P 0) + a) - a) := ⟨_, rfl⟩
      have hp95 : planAt g f87 h Q90 := ⟨hf89.trans (by rw [hQ90]; (repeat (first | rw [pu_s] | rw [pu_n (by omega)] | rw [Int.toNat_natCast]))), hf91.cong (fun i hi => by rw [hQ90]; (repeat (first | rw [pu_s] | rw [pu_n (by omega)] | rw [Int.toNat_natCast]))), hf92.cong (fun i hi => by rw [hQ90]; (repeat (first | rw [pu_s] | rw [pu_n (by omega)] | rw [Int.toNat_natCast]))), hf93.cong (fun i hi => by rw [hQ90]; (repeat (first | rw [pu_s] | rw [pu_n (by omega)] | rw [Int.toNat_natCast]))), hf94.cong (fun i hi => by rw [hQ90]; (repeat (first | rw [pu_s] | rw [pu_n (by omega)] | rw [Int.toNat_natCast])))⟩
      refine g_lret hx hb hr hlk hK hM dX5_carry_66 ?_
      exact absurd rfl hxy

def po_X5_portionFor (g : gE) (f : gF) (h : Nat) (P : Nat → Int) (r : Nat) (a x : Int) : Int64 → gF → Prop := fun r1 f1 => r1 = zL (min x (sWant P r a x)) ∧ f = f1
set_option maxRecDepth 100000 in
set_option maxHeartbeats 1000000 in
/-- portionFor(r, amount, left), a rule that is not of kind 4 -/
theorem c_X5_portionFor (l : Launch) (g : gE) (b0 n : Nat) (f : gF) (h : Nat) (P : Nat → Int) (r : Nat) (a x : Int) (hE : planAt g f h P) (hrg : b0 ≤ h ∧ h + 23 ≤ b0 + n) (hwe : wfE P 1000000000000000) (hrl : 0 ≤ P (51 + 3 * r) ∧ P (51 + 3 * r) ≤ 3 ∧ 0 ≤ P (52 + 3 * r) ∧ P (52 + 3 * r) < P 7 ∧ 0 ≤ P (53 + 3 * r) ∧ P (53 + 3 * r) ≤ 1000000) (hr6 : r < 6) (har : 0 ≤ a ∧ a ≤ 1000000) (hlr : 0 ≤ x ∧ x ≤ 1000000) : cL l yX5_portionFor cX5_portionFor 8 (some .long) 1 21 [.ref h, .int (zI (↑r : Int)), .long (zL a), .long (zL x)] g b0 n f (po_X5_portionFor g f h P r a x) := by
  refine gs_l (cc := cX5_portionFor) (maxL := 8) (ret := (some .long)) (by decide) (Nat.le_of_ble_eq_true rfl) ?_
  intro p e0 s m args below meth c ls hx hb hr hml hown hts hlk hK hM hl
  have hl : lv_has ls 8 [(0, .ref h), (1, .int (zI (↑r : Int))), (2, .long (zL a)), (4, .long (zL x))] := hl
  have hcn7 := hwe.1
  have hzn7 := hcn7.1
  have hzm7 := hcn7.2
  obtain ⟨hl1, hl2, hl3, hl4, hl5, hl6⟩ := hrl
  have har1 := har.1
  have har2 := har.2
  have hlr1 := hlr.1
  have hlr2 := hlr.2
  obtain ⟨t0, ht0⟩ : ∃ q : Nat, P (52 + 3 * r) = q := ⟨(P (52 + 3 * r)).toNat, by omega⟩
  obtain ⟨hq1, hq2, hq3⟩ := hwe.2 t0 (by omega)
  have hm1 := mul_ok har1 har2 hl5 hl6
  have hm2 := mul_ok hlr1 hlr2 hl5 hl6
  refine lv_iload_n hx hb dX5_portionFor_0 rfl (lv_at hl 1 rfl) ?_
  refine g_if_lt (tgt := 10) hx hb dX5_portionFor_1 (by decide) ⟨by omega, by omega⟩ (fun c1 => ?_) (fun c1 => ?_)
  · skip
    refine g_lconst (z := 0) hx hb dX5_portionFor_10 (by decide) ?_
    refine g_lret hx hb hr hlk hK hM dX5_portionFor_11 ?_
    exfalso; omega
  · skip
    refine lv_iload_n hx hb dX5_portionFor_4 rfl (lv_at hl 1 rfl) ?_
    refine g_bipush hx hb dX5_portionFor_5 (by decide) ?_
    refine g_icmp_lt (tgt := 12) hx hb dX5_portionFor_7 (by decide) ⟨by omega, by omega⟩ (by decide) (fun c7 => ?_) (fun c7 => ?_)
    · skip
      refine lv_aload_n hx hb dX5_portionFor_12 rfl (lv_at hl 0 rfl) ?_
      obtain ⟨ho1, ho2, ho3, ho4, ho5⟩ := id hE
      refine g_get (ci := 7) (v := .ref (h + 6)) (C := RX5) (T := TX5) (N := 11) hx hb hts iU_X5 hown hK hM ⟨by omega, by omega⟩ ho1 rfl 1 (by decide) (hts _ u_166) (fun _ h9 => h9) rfl dX5_portionFor_13 ?_
      obtain ⟨ho6, ho7, ho8, ho9⟩ := id ho3
      refine g_getN (ci := 9) (v := .ref (h + 6 + 1)) (C := RX7) (T := TX7) (N := 4) hx hb hts iU_X7 hown hK hM ⟨by omega, by omega⟩ ho6 rfl 0 (by decide) (hts _ u_82) (fun _ h9 => h9) rfl dX5_portionFor_16 ?_
      refine lv_iload_n hx hb dX5_portionFor_19 rfl (lv_at hl 1 rfl) ?_
      refine g_iald hx hb hK hM ⟨by omega, by omega⟩ ho7 (by omega) (by omega) (by decide) dX5_portionFor_20 ?_
      show W _ _ _ _ _ _ _ _ _ _ _ _ _ _ _ (F0 _ _ _ (.int (zI (P (51 + 3 * r))) :: _))
      have hz21 := zI_toInt (z := (P (51 + 3 * r))) ⟨by omega, by omega⟩
      rcases g_sw (0) (2) (P (51 + 3 * r)) with c21 | c21
      · refine lv_tableOut (tgt := 106) hx hb dX5_portionFor_21 (by rw [hz21]; exact c21) (by decide) ?_
        refine lv_aload_n hx hb dX5_portionFor_106 rfl (lv_at hl 0 rfl) ?_
        refine g_get (ci := 7) (v := .ref (h + 1)) (C := RX5) (T := TX5) (N := 11) hx hb hts iU_X5 hown hK hM ⟨by omega, by omega⟩ ho1 rfl 0 (by decide) (hts _ u_164) (fun _ h9 => h9) rfl dX5_portionFor_107 ?_
        refine lv_aload_n hx hb dX5_portionFor_110 rfl (lv_at hl 0 rfl) ?_
        refine g_get (ci := 7) (v := .ref (h + 6)) (C := RX5) (T := TX5) (N := 11) hx hb hts iU_X5 hown hK hM ⟨by omega, by omega⟩ ho1 rfl 1 (by decide) (hts _ u_166) (fun _ h9 => h9) rfl dX5_portionFor_111 ?_
        refine g_getN (ci := 9) (v := .ref (h + 6 + 2)) (C := RX7) (T := TX7) (N := 4) hx hb hts iU_X7 hown hK hM ⟨by omega, by omega⟩ ho6 rfl 1 (by decide) (hts _ u_84) (fun _ h9 => h9) rfl dX5_portionFor_114 ?_
        refine lv_iload_n hx hb dX5_portionFor_117 rfl (lv_at hl 1 rfl) ?_
        refine g_iald hx hb hK hM ⟨by omega, by omega⟩ ho8 (by omega) (by omega) (by decide) dX5_portionFor_118 ?_
        show W _ _ _ _ _ _ _ _ _ _ _ _ _ _ _ (F0 _ _ _ (.int (zI (P (52 + 3 * r))) :: _))
        rw [ht0]
        have hC10 := c_X2_isCapped l g b0 n f (h + 1) P t0 ho2 ⟨by omega, by omega⟩ hcn7 (by omega) hq2
        obtain ⟨ho13, ho14, ho15, ho16, ho17⟩ := id ho2
        refine g_callVi (ci := 4) (C := RX2) (T := TX2) (N := 5) (As := [.int (zI (↑t0 : Int))]) (rest := []) ⟨hx, hb, hml, hown, hts⟩ hK hM hC10 (cuV (n := 1) hts u_504 u_501 u_5 (by decide) u_502 u_503 ⟨Nat.le_of_ble_eq_true rfl, Nat.le_of_ble_eq_true rfl⟩) ⟨by omega, by omega⟩ ho13 rfl rfl hl.1 rfl (Nat.le_of_ble_eq_true rfl) dX5_portionFor_119 ⟨Nat.zero_le _, Nat.zero_le _⟩ (fun r119 f11 H locs hM hp12 => ?_)
        obtain ⟨rfl, rfl⟩ := hp12
        refine g_ifb_eq (tgt := 130) hx hb dX5_portionFor_122 (by decide) (fun c122 => ?_) (fun c122 => ?_)
        · skip
          refine g_lconst (z := 0) hx hb dX5_portionFor_130 (by decide) ?_
          refine lv_lstore (lv' := [(6, .long (zL 0)), (0, .ref h), (1, .int (zI (↑r : Int))), (2, .long (zL a)), (4, .long (zL x))]) hx hb dX5_portionFor_131 hl (by decide) rfl (fun ls hl => ?_)
          refine lv_lload hx hb dX5_portionFor_133 (lv_at hl 0 rfl) ?_
          refine lv_lload hx hb dX5_portionFor_135 (lv_at hl 4 rfl) ?_
          refine g_lcmp_ge (tgt := 146) hx hb dX5_portionFor_137 dX5_portionFor_138 (by decide) (by decide) ⟨by omega, by omega⟩ (fun c137 => ?_) (fun c137 => ?_)
          · skip
            refine lv_lload hx hb dX5_portionFor_146 (lv_at hl 4 rfl) ?_
            refine g_lret hx hb hr hlk hK hM dX5_portionFor_148 ?_
            refine ⟨?_, rfl⟩
            congr 1
            unfold sWant
            simp only []
            first | (rw [if_pos (by omega)]; omega) | (rw [if_neg (by omega), if_pos (by omega)]; omega) | (rw [if_neg (by omega), if_neg (by omega), if_pos (by omega)]; omega) | (rw [if_neg (by omega), if_neg (by omega), if_neg (by omega), ht0, Int.toNat_natCast, if_neg (by omega)]; omega) | (rw [if_neg (by omega), if_neg (by omega), if_neg (by omega), ht0, Int.toNat_natCast, if_pos (by omega)]; omega)
          · skip
            refine lv_lload hx hb dX5_portionFor_141 (lv_at hl 0 rfl) ?_
            refine lv_goto (tgt := 148) hx hb dX5_portionFor_143 (by decide) ?_
            refine g_lret hx hb hr hlk hK hM dX5_portionFor_148 ?_
            refine ⟨?_, rfl⟩
            congr 1
            unfold sWant
            simp only []
            first | (rw [if_pos (by omega)]; omega) | (rw [if_neg (by omega), if_pos (by omega)]; omega) | (rw [if_neg (by omega), if_neg (by omega), if_pos (by omega)]; omega) | (rw [if_neg (by omega), if_neg (by omega), if_neg (by omega), ht0, Int.toNat_natCast, if_neg (by omega)]; omega) | (rw [if_neg (by omega), if_neg (by omega), if_neg (by omega), ht0, Int.toNat_natCast, if_pos (by omega)]; omega)
        · skip
          refine lv_lload hx hb dX5_portionFor_125 (lv_at hl 3 rfl) ?_
          refine lv_goto (tgt := 131) hx hb dX5_portionFor_127 (by decide) ?_
          refine lv_lstore (lv' := [(6, .long (zL x)), (0, .ref h), (1, .int (zI (↑r : Int))), (2, .long (zL a)), (4, .long (zL x))]) hx hb dX5_portionFor_131 hl (by decide) rfl (fun ls hl => ?_)
          refine lv_lload hx hb dX5_portionFor_133 (lv_at hl 0 rfl) ?_
          refine lv_lload hx hb dX5_portionFor_135 (lv_at hl 4 rfl) ?_
          refine g_lcmp_ge (tgt := 146) hx hb dX5_portionFor_137 dX5_portionFor_138 (by decide) ⟨by omega, by omega⟩ ⟨by omega, by omega⟩ (fun c137 => ?_) (fun c137 => ?_)
          · skip
            refine lv_lload hx hb dX5_portionFor_146 (lv_at hl 4 rfl) ?_
            refine g_lret hx hb hr hlk hK hM dX5_portionFor_148 ?_
            refine ⟨?_, rfl⟩
            congr 1
            unfold sWant
            simp only []
            first | (rw [if_pos (by omega)]; omega) | (rw [if_neg (by omega), if_pos (by omega)]; omega) | (rw [if_neg (by omega), if_neg (by omega), if_pos (by omega)]; omega) | (rw [if_neg (by omega), if_neg (by omega), if_neg (by omega), ht0, Int.toNat_natCast, if_neg (by omega)]; omega) | (rw [if_neg (by omega), if_neg (by omega), if_neg (by omega), ht0, Int.toNat_natCast, if_pos (by omega)]; omega)
          · skip
            refine lv_lload hx hb dX5_portionFor_141 (lv_at hl 0 rfl) ?_
            refine lv_goto (tgt := 148) hx hb dX5_portionFor_143 (by decide) ?_
            refine g_lret hx hb hr hlk hK hM dX5_portionFor_148 ?_
            refine ⟨?_, rfl⟩
            congr 1
            unfold sWant
            simp only []
            first | (rw [if_pos (by omega)]; omega) | (rw [if_neg (by omega), if_pos (by omega)]; omega) | (rw [if_neg (by omega), if_neg (by omega), if_pos (by omega)]; omega) | (rw [if_neg (by omega), if_neg (by omega), if_neg (by omega), ht0, Int.toNat_natCast, if_neg (by omega)]; omega) | (rw [if_neg (by omega), if_neg (by omega), if_neg (by omega), ht0, Int.toNat_natCast, if_pos (by omega)]; omega)
      · rcases (show (P (51 + 3 * r)) = 0 ∨ (P (51 + 3 * r)) = 1 ∨ (P (51 + 3 * r)) = 2 by omega) with c21 | c21 | c21
        · refine lv_tableIn (off := 27) (tgt := 48) hx hb dX5_portionFor_21 (by rw [hz21, c21]; decide) (by rw [hz21, c21]; decide) (by rw [hz21, c21]; decide) (by decide) ?_
          refine lv_aload_n hx hb dX5_portionFor_48 rfl (lv_at hl 0 rfl) ?_
          refine g_get (ci := 7) (v := .ref (h + 6)) (C := RX5) (T := TX5) (N := 11) hx hb hts iU_X5 hown hK hM ⟨by omega, by omega⟩ ho1 rfl 1 (by decide) (hts _ u_166) (fun _ h9 => h9) rfl dX5_portionFor_49 ?_
          refine g_getN (ci := 9) (v := .ref (h + 6 + 3)) (C := RX7) (T := TX7) (N := 4) hx hb hts iU_X7 hown hK hM ⟨by omega, by omega⟩ ho6 rfl 2 (by decide) (hts _ u_86) (fun _ h9 => h9) rfl dX5_portionFor_52 ?_
          refine lv_iload_n hx hb dX5_portionFor_55 rfl (lv_at hl 1 rfl) ?_
          refine g_iald hx hb hK hM ⟨by omega, by omega⟩ ho9 (by omega) (by omega) (by decide) dX5_portionFor_56 ?_
          show W _ _ _ _ _ _ _ _ _ _ _ _ _ _ _ (F0 _ _ _ (.int (zI (P (53 + 3 * r))) :: _))
          refine g_i2l hx hb dX5_portionFor_57 ⟨by omega, by omega⟩ ?_
          refine lv_lstore (lv' := [(6, .long (zL (P (53 + 3 * r)))), (0, .ref h), (1, .int (zI (↑r : Int))), (2, .long (zL a)), (4, .long (zL x))]) hx hb dX5_portionFor_58 hl (by decide) rfl (fun ls hl => ?_)
          refine lv_goto (tgt := 133) hx hb dX5_portionFor_60 (by decide) ?_
          refine lv_lload hx hb dX5_portionFor_133 (lv_at hl 0 rfl) ?_
          refine lv_lload hx hb dX5_portionFor_135 (lv_at hl 4 rfl) ?_
          refine g_lcmp_ge (tgt := 146) hx hb dX5_portionFor_137 dX5_portionFor_138 (by decide) ⟨by omega, by omega⟩ ⟨by omega, by omega⟩ (fun c137 => ?_) (fun c137 => ?_)
          · skip
            refine lv_lload hx hb dX5_portionFor_146 (lv_at hl 4 rfl) ?_
            refine g_lret hx hb hr hlk hK hM dX5_portionFor_148 ?_
            refine ⟨?_, rfl⟩
            congr 1
            unfold sWant
            simp only []
            first | (rw [if_pos (by omega)]; omega) | (rw [if_neg (by omega), if_pos (by omega)]; omega) | (rw [if_neg (by omega), if_neg (by omega), if_pos (by omega)]; omega) | (rw [if_neg (by omega), if_neg (by omega), if_neg (by omega), ht0, Int.toNat_natCast, if_neg (by omega)]; omega) | (rw [if_neg (by omega), if_neg (by omega), if_neg (by omega), ht0, Int.toNat_natCast, if_pos (by omega)]; omega)
          · skip
            refine lv_lload hx hb dX5_portionFor_141 (lv_at hl 0 rfl) ?_
            refine lv_goto (tgt := 148) hx hb dX5_portionFor_143 (by decide) ?_
            refine g_lret hx hb hr hlk hK hM dX5_portionFor_148 ?_
            refine ⟨?_, rfl⟩
            congr 1
            unfold sWant
            simp only []
            first | (rw [if_pos (by omega)]; omega) | (rw [if_neg (by omega), if_pos (by omega)]; omega) | (rw [if_neg (by omega), if_neg (by omega), if_pos (by omega)]; omega) | (rw [if_neg (by omega), if_neg (by omega), if_neg (by omega), ht0, Int.toNat_natCast, if_neg (by omega)]; omega) | (rw [if_neg (by omega), if_neg (by omega), if_neg (by omega), ht0, Int.toNat_natCast, if_pos (by omega)]; omega)
        · refine lv_tableIn (off := 42) (tgt := 63) hx hb dX5_portionFor_21 (by rw [hz21, c21]; decide) (by rw [hz21, c21]; decide) (by rw [hz21, c21]; decide) (by decide) ?_
          refine lv_lload_n hx hb dX5_portionFor_63 rfl (lv_at hl 2 rfl) ?_
          refine lv_aload_n hx hb dX5_portionFor_64 rfl (lv_at hl 0 rfl) ?_
          refine g_get (ci := 7) (v := .ref (h + 6)) (C := RX5) (T := TX5) (N := 11) hx hb hts iU_X5 hown hK hM ⟨by omega, by omega⟩ ho1 rfl 1 (by decide) (hts _ u_166) (fun _ h9 => h9) rfl dX5_portionFor_65 ?_
          refine g_getN (ci := 9) (v := .ref (h + 6 + 3)) (C := RX7) (T := TX7) (N := 4) hx hb hts iU_X7 hown hK hM ⟨by omega, by omega⟩ ho6 rfl 2 (by decide) (hts _ u_86) (fun _ h9 => h9) rfl dX5_portionFor_68 ?_
          refine lv_iload_n hx hb dX5_portionFor_71 rfl (lv_at hl 1 rfl) ?_
          refine g_iald hx hb hK hM ⟨by omega, by omega⟩ ho9 (by omega) (by omega) (by decide) dX5_portionFor_72 ?_
          show W _ _ _ _ _ _ _ _ _ _ _ _ _ _ _ (F0 _ _ _ (.int (zI (P (53 + 3 * r))) :: _))
          refine g_i2l hx hb dX5_portionFor_73 ⟨by omega, by omega⟩ ?_
          refine g_lmul hx hb dX5_portionFor_74 ?_
          refine g_ldc2 (z := 100) hx hb hown (hts _ u_500) dX5_portionFor_75 (by decide) ?_
          refine g_ldiv hx hb dX5_portionFor_78 hm1.1 (by decide) (by decide) ?_
          refine lv_lstore (lv' := [(6, .long (zL (Int.tdiv (a * (P (53 + 3 * r))) 100))), (0, .ref h), (1, .int (zI (↑r : Int))), (2, .long (zL a)), (4, .long (zL x))]) hx hb dX5_portionFor_79 hl (by decide) rfl (fun ls hl => ?_)
          refine lv_goto (tgt := 133) hx hb dX5_portionFor_81 (by decide) ?_
          refine lv_lload hx hb dX5_portionFor_133 (lv_at hl 0 rfl) ?_
          refine lv_lload hx hb dX5_portionFor_135 (lv_at hl 4 rfl) ?_
          refine g_lcmp_ge (tgt := 146) hx hb dX5_portionFor_137 dX5_portionFor_138 (by decide) ⟨by have := hm1.2.1; omega, by have := hm1.2.2; omega⟩ ⟨by omega, by omega⟩ (fun c137 => ?_) (fun c137 => ?_)
          · skip
            refine lv_lload hx hb dX5_portionFor_146 (lv_at hl 4 rfl) ?_
            refine g_lret hx hb hr hlk hK hM dX5_portionFor_148 ?_
            refine ⟨?_, rfl⟩
            congr 1
            unfold sWant
            simp only []
            first | (rw [if_pos (by omega)]; omega) | (rw [if_neg (by omega), if_pos (by omega)]; omega) | (rw [if_neg (by omega), if_neg (by omega), if_pos (by omega)]; omega) | (rw [if_neg (by omega), if_neg (by omega), if_neg (by omega), ht0, Int.toNat_natCast, if_neg (by omega)]; omega) | (rw [if_neg (by omega), if_neg (by omega), if_neg (by omega), ht0, Int.toNat_natCast, if_pos (by omega)]; omega)
          · skip
            refine lv_lload hx hb dX5_portionFor_141 (lv_at hl 0 rfl) ?_
            refine lv_goto (tgt := 148) hx hb dX5_portionFor_143 (by decide) ?_
            refine g_lret hx hb hr hlk hK hM dX5_portionFor_148 ?_
            refine ⟨?_, rfl⟩
            congr 1
            unfold sWant
            simp only []
            first | (rw [if_pos (by omega)]; omega) | (rw [if_neg (by omega), if_pos (by omega)]; omega) | (rw [if_neg (by omega), if_neg (by omega), if_pos (by omega)]; omega) | (rw [if_neg (by omega), if_neg (by omega), if_neg (by omega), ht0, Int.toNat_natCast, if_neg (by omega)]; omega) | (rw [if_neg (by omega), if_neg (by omega), if_neg (by omega), ht0, Int.toNat_natCast, if_pos (by omega)]; omega)
        · refine lv_tableIn (off := 63) (tgt := 84) hx hb dX5_portionFor_21 (by rw [hz21, c21]; decide) (by rw [hz21, c21]; decide) (by rw [hz21, c21]; decide) (by decide) ?_
          refine lv_lload hx hb dX5_portionFor_84 (lv_at hl 3 rfl) ?_
          refine lv_aload_n hx hb dX5_portionFor_86 rfl (lv_at hl 0 rfl) ?_
          refine g_get (ci := 7) (v := .ref (h + 6)) (C := RX5) (T := TX5) (N := 11) hx hb hts iU_X5 hown hK hM ⟨by omega, by omega⟩ ho1 rfl 1 (by decide) (hts _ u_166) (fun _ h9 => h9) rfl dX5_portionFor_87 ?_
          refine g_getN (ci := 9) (v := .ref (h + 6 + 3)) (C := RX7) (T := TX7) (N := 4) hx hb hts iU_X7 hown hK hM ⟨by omega, by omega⟩ ho6 rfl 2 (by decide) (hts _ u_86) (fun _ h9 => h9) rfl dX5_portionFor_90 ?_
          refine lv_iload_n hx hb dX5_portionFor_93 rfl (lv_at hl 1 rfl) ?_
          refine g_iald hx hb hK hM ⟨by omega, by omega⟩ ho9 (by omega) (by omega) (by decide) dX5_portionFor_94 ?_
          show W _ _ _ _ _ _ _ _ _ _ _ _ _ _ _ (F0 _ _ _ (.int (zI (P (53 + 3 * r))) :: _))
          refine g_i2l hx hb dX5_portionFor_95 ⟨by omega, by omega⟩ ?_
          refine g_lmul hx hb dX5_portionFor_96 ?_
          refine g_ldc2 (z := 100) hx hb hown (hts _ u_500) dX5_portionFor_97 (by decide) ?_
          refine g_ldiv hx hb dX5_portionFor_100 hm2.1 (by decide) (by decide) ?_
          refine lv_lstore (lv' := [(6, .long (zL (Int.tdiv (x * (P (53 + 3 * r))) 100))), (0, .ref h), (1, .int (zI (↑r : Int))), (2, .long (zL a)), (4, .long (zL x))]) hx hb dX5_portionFor_101 hl (by decide) rfl (fun ls hl => ?_)
          refine lv_goto (tgt := 133) hx hb dX5_portionFor_103 (by decide) ?_
          refine lv_lload hx hb dX5_portionFor_133 (lv_at hl 0 rfl) ?_
          refine lv_lload hx hb dX5_portionFor_135 (lv_at hl 4 rfl) ?_
          refine g_lcmp_ge (tgt := 146) hx hb dX5_portionFor_137 dX5_portionFor_138 (by decide) ⟨by have := hm2.2.1; omega, by have := hm2.2.2; omega⟩ ⟨by omega, by omega⟩ (fun c137 => ?_) (fun c137 => ?_)
          · skip
            refine lv_lload hx hb dX5_portionFor_146 (lv_at hl 4 rfl) ?_
            refine g_lret hx hb hr hlk hK hM dX5_portionFor_148 ?_
            refine ⟨?_, rfl⟩
            congr 1
            unfold sWant
            simp only []
            first | (rw [if_pos (by omega)]; omega) | (rw [if_neg (by omega), if_pos (by omega)]; omega) | (rw [if_neg (by omega), if_neg (by omega), if_pos (by omega)]; omega) | (rw [if_neg (by omega), if_neg (by omega), if_neg (by omega), ht0, Int.toNat_natCast, if_neg (by omega)]; omega) | (rw [if_neg (by omega), if_neg (by omega), if_neg (by omega), ht0, Int.toNat_natCast, if_pos (by omega)]; omega)
          · skip
            refine lv_lload hx hb dX5_portionFor_141 (lv_at hl 0 rfl) ?_
            refine lv_goto (tgt := 148) hx hb dX5_portionFor_143 (by decide) ?_
            refine g_lret hx hb hr hlk hK hM dX5_portionFor_148 ?_
            refine ⟨?_, rfl⟩
            congr 1
            unfold sWant
            simp only []
            first | (rw [if_pos (by omega)]; omega) | (rw [if_neg (by omega), if_pos (by omega)]; omega) | (rw [if_neg (by omega), if_neg (by omega), if_pos (by omega)]; omega) | (rw [if_neg (by omega), if_neg (by omega), if_neg (by omega), ht0, Int.toNat_natCast, if_neg (by omega)]; omega) | (rw [if_neg (by omega), if_neg (by omega), if_neg (by omega), ht0, Int.toNat_natCast, if_pos (by omega)]; omega)
    · skip
      refine g_lconst (z := 0) hx hb dX5_portionFor_10 (by decide) ?_
      refine g_lret hx hb hr hlk hK hM dX5_portionFor_11 ?_
      exfalso; omega
