def po_X5_takeIncome (g : gE) (f : gF) (h : Nat) (P : Nat → Int) (a : Int) : Int64 → gF → Prop := fun r1 f1 => r1 = zL (sInc P a).1 ∧ planAt g f1 h (sInc P a).2 ∧ ∀ q, (q < h ∨ h + 23 ≤ q) → f1 q = f q
set_option maxRecDepth 100000 in
set_option maxHeartbeats 1000000 in
/-- takeIncome(amount) -/
theorem c_X5_takeIncome (l : Launch) (g : gE) (b0 n : Nat) (f : gF) (h : Nat) (P : Nat → Int) (a : Int) (hE : planAt g f h P) (hrg : b0 ≤ h ∧ h + 23 ≤ b0 + n) (hwe : wfE P 900000000000000) (hrk0 : rlOk P) (har : 0 ≤ a ∧ a ≤ 1000000) : cL l yX5_takeIncome cX5_takeIncome 6 (some .long) 2 58 [.ref h, .int (zI a)] g b0 n f (po_X5_takeIncome g f h P a) := by
  refine gs_l (cc := cX5_takeIncome) (maxL := 6) (ret := (some .long)) (by decide) (Nat.le_of_ble_eq_true rfl) ?_
  intro p e0 s m args below meth c ls hx hb hr hml hown hts hlk hK hM hl
  have hl : lv_has ls 6 [(0, .ref h), (1, .int (zI a))] := hl
  have hcn7 := hwe.1
  have hzn7 := hcn7.1
  have hzm7 := hcn7.2
  have har1 := har.1
  have har2 := har.2
  have hr81 := hrk0.1.1
  have hr82 := hrk0.1.2
  refine lv_aload_n hx hb dX5_takeIncome_0 rfl (lv_at hl 0 rfl) ?_
  refine lv_dup hx hb dX5_takeIncome_1 rfl ?_
  obtain ⟨ho1, ho2, ho3, ho4, ho5⟩ := id hE
  refine g_get (ci := 7) (v := .long (zL (P 2))) (C := RX5) (T := TX5) (N := 11) hx hb hts iU_X5 hown hK hM ⟨by omega, by omega⟩ ho1 rfl 6 (by decide) (hts _ u_176) (fun _ h9 => h9) rfl dX5_takeIncome_2 ?_
  refine lv_iload_n hx hb dX5_takeIncome_5 rfl (lv_at hl 1 rfl) ?_
  refine g_i2l hx hb dX5_takeIncome_6 ⟨by omega, by omega⟩ ?_
  refine g_ladd hx hb dX5_takeIncome_7 ?_
  refine g_put (ci := 7) (v := .long (zL ((P 2) + a))) (ty := .long) (C := RX5) (T := TX5) (N := 11) hx hb hts iU_X5 tyX5 tyX5_ok nmX5 hown hK hM ⟨by omega, by omega⟩ ho1 rfl 6 (by decide) (hts _ u_176) (fun _ h9 => h9) rfl (by decide +kernel) rfl rfl (Nat.le_of_ble_eq_true rfl) dX5_takeIncome_8 (fun f6 H locs hM hf8 o7 => ?_)
  have hf8 : f6 (h) = .inr (7, [.ref (h + 1), .ref (h + 6), .ref (h + 10), .ref (h + 16), .long (zL (P 0)), .int (zI (P 1)), .long (zL ((P 2) + a)), .long (zL (P 3)), .int (zI (P 4)), .long (zL (P 5)), .long (zL (P 6))]) := hf8
  refine lv_iload_n hx hb dX5_takeIncome_11 rfl (lv_at hl 1 rfl) ?_
  refine g_i2l hx hb dX5_takeIncome_12 ⟨by omega, by omega⟩ ?_
  refine lv_lstore_n (lv' := [(2, .long (zL a)), (0, .ref h), (1, .int (zI a))]) hx hb dX5_takeIncome_13 rfl hl (by decide) rfl (fun ls hl => ?_)
  refine g_iconst hx hb dX5_takeIncome_14 ?_
  refine lv_istore (lv' := [(4, .int (zI 0)), (2, .long (zL a)), (0, .ref h), (1, .int (zI a))]) hx hb dX5_takeIncome_15 hl (by decide) rfl (fun ls hl => ?_)
  have lp17 : ∀ (k : Nat), ∀ (k9 : Nat) (ri : Nat) (x1 : Int) (Pk : Nat → Int) (fL : gF) (H : Heap) (locs : List Loc) (ls : Array Slot), (6 - ri < k) → ((ri, x1, Pk) = sIt (sRecT a) (0, a, (pu P 2 (P 2 + a))) k9) → (k9 ≤ ri) → ((ri : Int) ≤ P 8) → (0 ≤ x1 ∧ x1 ≤ a) → (wfE Pk (900000000000000 + ri * 10000000000)) → (∀ j, 51 ≤ j → Pk j = P j) → (Pk 7 = P 7) → (Pk 8 = P 8) → (∀ q, (q < h ∨ h + 23 ≤ q) → fL q = f q) → gH g b0 n fL s.heap H locs → (planAt g fL h Pk) → lv_has ls 6 [(0, .ref h), (1, .int (zI a)), (2, .long (zL x1)), (4, .int (zI (↑ri : Int)))] → W p l e0 { frames := 2, cells := 0, slots := 0, locals := 58 } s m args below meth c H locs 0 0 (MQ below (va_Ql (po_X5_takeIncome g f h P a) (gB g b0 n) (gA b0)) args s 0 0 (gA b0)) (F0 m 17 ls []) := by
    intro k
    induction k with
    | zero =>
      intro k9 ri x1 Pk fL H locs ls hk hst hk9 hri hx1 hwk hkp hk7 hk8 hfr hM hL hl
      exact absurd hk (Nat.not_lt_zero _)
    | succ k ih =>
      intro k9 ri x1 Pk fL H locs ls hk hst hk9 hri hx1 hwk hkp hk7 hk8 hfr hM hL hl
      have hrk := rlOk_of hrk0 hk7 hk8 hkp
      refine lv_iload hx hb dX5_takeIncome_17 (lv_at hl 3 rfl) ?_
      refine lv_aload_n hx hb dX5_takeIncome_19 rfl (lv_at hl 0 rfl) ?_
      obtain ⟨ho9, ho10, ho11, ho12, ho13⟩ := id hL
      refine g_get (ci := 7) (v := .ref (h + 6)) (C := RX5) (T := TX5) (N := 11) hx hb hts iU_X5 hown hK hM ⟨by omega, by omega⟩ ho9 rfl 1 (by decide) (hts _ u_166) (fun _ h9 => h9) rfl dX5_takeIncome_20 ?_
      obtain ⟨ho14, ho15, ho16, ho17⟩ := id ho11
      refine g_getN (ci := 9) (v := .int (zI (Pk 8))) (C := RX7) (T := TX7) (N := 4) hx hb hts iU_X7 hown hK hM ⟨by omega, by omega⟩ ho14 rfl 3 (by decide) (hts _ u_88) (fun _ h9 => h9) rfl dX5_takeIncome_23 ?_
      refine g_icmp_ge (tgt := 129) hx hb dX5_takeIncome_26 (by decide) ⟨by omega, by omega⟩ ⟨by omega, by omega⟩ (fun c26 => ?_) (fun c26 => ?_)
      · skip
        refine lv_aload_n hx hb dX5_takeIncome_129 rfl (lv_at hl 0 rfl) ?_
        refine lv_dup hx hb dX5_takeIncome_130 rfl ?_
        refine g_get (ci := 7) (v := .long (zL (Pk 0))) (C := RX5) (T := TX5) (N := 11) hx hb hts iU_X5 hown hK hM ⟨by omega, by omega⟩ ho9 rfl 4 (by decide) (hts _ u_172) (fun _ h9 => h9) rfl dX5_takeIncome_131 ?_
        refine lv_lload_n hx hb dX5_takeIncome_134 rfl (lv_at hl 2 rfl) ?_
        refine g_ladd hx hb dX5_takeIncome_135 ?_
        refine g_put (ci := 7) (v := .long (zL ((Pk 0) + x1))) (ty := .long) (C := RX5) (T := TX5) (N := 11) hx hb hts iU_X5 tyX5 tyX5_ok nmX5 hown hK hM ⟨by omega, by omega⟩ ho9 rfl 4 (by decide) (hts _ u_172) (fun _ h9 => h9) rfl (by decide +kernel) rfl rfl (Nat.le_of_ble_eq_true rfl) dX5_takeIncome_136 (fun f18 H locs hM hf20 o19 => ?_)
        have hf20 : f18 (h) = .inr (7, [.ref (h + 1), .ref (h + 6), .ref (h + 10), .ref (h + 16), .long (zL ((Pk 0) + x1)), .int (zI (Pk 1)), .long (zL (Pk 2)), .long (zL (Pk 3)), .int (zI (Pk 4)), .long (zL (Pk 5)), .long (zL (Pk 6))]) := hf20
        refine lv_lload_n hx hb dX5_takeIncome_139 rfl (lv_at hl 2 rfl) ?_
        have hf22 := ho10.kept (fun q h1 h2 => (o19 (q) (by omega)))
        have hf23 := ho11.kept (fun q h1 h2 => (o19 (q) (by omega)))
        have hf24 := ho12.kept (fun q h1 h2 => (o19 (q) (by omega)))
        have hf25 := ho13.kept (fun q h1 h2 => (o19 (q) (by omega)))
        obtain ⟨Q21, hQ21⟩ : ∃ Q : Nat → Int, Q = pu Pk 0 ((Pk 0) + x1) := ⟨_, rfl⟩
        have hp26 : planAt g f18 h Q21 := ⟨hf20.trans (by rw [hQ21]; (repeat (first | rw [pu_s] | rw [pu_n (by omega)] | rw [Int.toNat_natCast]))), hf22.cong (fun i hi => by rw [hQ21]; (repeat (first | rw [pu_s] | rw [pu_n (by omega)] | rw [Int.toNat_natCast]))), hf23.cong (fun i hi => by rw [hQ21]; (repeat (first | rw [pu_s] | rw [pu_n (by omega)] | rw [Int.toNat_natCast]))), hf24.cong (fun i hi => by rw [hQ21]; (repeat (first | rw [pu_s] | rw [pu_n (by omega)] | rw [Int.toNat_natCast]))), hf25.cong (fun i hi => by rw [hQ21]; (repeat (first | rw [pu_s] | rw [pu_n (by omega)] | rw [Int.toNat_natCast])))⟩
        refine g_lret hx hb hr hlk hK hM dX5_takeIncome_140 ?_
        have h6 : sIt (sRecT a) (0, a, pu P 2 (P 2 + a)) 6 = (ri, x1, Pk) := by
          have := sIt_stab (d := 6 - k9) (s := (ri, x1, Pk)) (fun k => by simp only [sRecT]; rw [if_neg (by omega)]) hst.symm
          rwa [show k9 + (6 - k9) = 6 by omega] at this
        have hS : sInc P a = (x1, Q21) := by unfold sInc; simp only [h6]; rw [hQ21]
        refine ⟨by rw [hS], ?_, (fun q hq => ((o19 (q) (by omega)).trans (hfr (q) (by omega))))⟩
        rw [hS]
        exact hp26
      · skip
        refine lv_iload hx hb dX5_takeIncome_29 (lv_at hl 3 rfl) ?_
        refine g_bipush hx hb dX5_takeIncome_31 (by decide) ?_
        refine g_icmp_ge (tgt := 129) hx hb dX5_takeIncome_33 (by decide) ⟨by omega, by omega⟩ (by decide) (fun c33 => ?_) (fun c33 => ?_)
        · skip
          refine lv_aload_n hx hb dX5_takeIncome_129 rfl (lv_at hl 0 rfl) ?_
          refine lv_dup hx hb dX5_takeIncome_130 rfl ?_
          refine g_get (ci := 7) (v := .long (zL (Pk 0))) (C := RX5) (T := TX5) (N := 11) hx hb hts iU_X5 hown hK hM ⟨by omega, by omega⟩ ho9 rfl 4 (by decide) (hts _ u_172) (fun _ h9 => h9) rfl dX5_takeIncome_131 ?_
          refine lv_lload_n hx hb dX5_takeIncome_134 rfl (lv_at hl 2 rfl) ?_
          refine g_ladd hx hb dX5_takeIncome_135 ?_
          refine g_put (ci := 7) (v := .long (zL ((Pk 0) + x1))) (ty := .long) (C := RX5) (T := TX5) (N := 11) hx hb hts iU_X5 tyX5 tyX5_ok nmX5 hown hK hM ⟨by omega, by omega⟩ ho9 rfl 4 (by decide) (hts _ u_172) (fun _ h9 => h9) rfl (by decide +kernel) rfl rfl (Nat.le_of_ble_eq_true rfl) dX5_takeIncome_136 (fun f27 H locs hM hf29 o28 => ?_)
          have hf29 : f27 (h) = .inr (7, [.ref (h + 1), .ref (h + 6), .ref (h + 10), .ref (h + 16), .long (zL ((Pk 0) + x1)), .int (zI (Pk 1)), .long (zL (Pk 2)), .long (zL (Pk 3)), .int (zI (Pk 4)), .long (zL (Pk 5)), .long (zL (Pk 6))]) := hf29
          refine lv_lload_n hx hb dX5_takeIncome_139 rfl (lv_at hl 2 rfl) ?_
          have hf31 := ho10.kept (fun q h1 h2 => (o28 (q) (by omega)))
          have hf32 := ho11.kept (fun q h1 h2 => (o28 (q) (by omega)))
          have hf33 := ho12.kept (fun q h1 h2 => (o28 (q) (by omega)))
          have hf34 := ho13.kept (fun q h1 h2 => (o28 (q) (by omega)))
          obtain ⟨Q30, hQ30⟩ : ∃ Q : Nat → Int, Q = pu Pk 0 ((Pk 0) + x1) := ⟨_, rfl⟩
          have hp35 : planAt g f27 h Q30 := ⟨hf29.trans (by rw [hQ30]; (repeat (first | rw [pu_s] | rw [pu_n (by omega)] | rw [Int.toNat_natCast]))), hf31.cong (fun i hi => by rw [hQ30]; (repeat (first | rw [pu_s] | rw [pu_n (by omega)] | rw [Int.toNat_natCast]))), hf32.cong (fun i hi => by rw [hQ30]; (repeat (first | rw [pu_s] | rw [pu_n (by omega)] | rw [Int.toNat_natCast]))), hf33.cong (fun i hi => by rw [hQ30]; (repeat (first | rw [pu_s] | rw [pu_n (by omega)] | rw [Int.toNat_natCast]))), hf34.cong (fun i hi => by rw [hQ30]; (repeat (first | rw [pu_s] | rw [pu_n (by omega)] | rw [Int.toNat_natCast])))⟩
          refine g_lret hx hb hr hlk hK hM dX5_takeIncome_140 ?_
          have h6 : sIt (sRecT a) (0, a, pu P 2 (P 2 + a)) 6 = (ri, x1, Pk) := by
            have := sIt_stab (d := 6 - k9) (s := (ri, x1, Pk)) (fun k => by simp only [sRecT]; rw [if_neg (by omega)]) hst.symm
            rwa [show k9 + (6 - k9) = 6 by omega] at this
          have hS : sInc P a = (x1, Q30) := by unfold sInc; simp only [h6]; rw [hQ30]
          refine ⟨by rw [hS], ?_, (fun q hq => ((o28 (q) (by omega)).trans (hfr (q) (by omega))))⟩
          rw [hS]
          exact hp35
        · skip
          have hrlt : (ri : Int) < Pk 8 := by omega
          obtain ⟨hn1, hn2, hn3, hn4, hn5, hn6, hn7⟩ := hrk.2 ri hrlt
          refine lv_aload_n hx hb dX5_takeIncome_36 rfl (lv_at hl 0 rfl) ?_
          refine g_get (ci := 7) (v := .ref (h + 6)) (C := RX5) (T := TX5) (N := 11) hx hb hts iU_X5 hown hK hM ⟨by omega, by omega⟩ ho9 rfl 1 (by decide) (hts _ u_166) (fun _ h9 => h9) rfl dX5_takeIncome_37 ?_
          refine g_getN (ci := 9) (v := .ref (h + 6 + 1)) (C := RX7) (T := TX7) (N := 4) hx hb hts iU_X7 hown hK hM ⟨by omega, by omega⟩ ho14 rfl 0 (by decide) (hts _ u_82) (fun _ h9 => h9) rfl dX5_takeIncome_40 ?_
          refine lv_iload hx hb dX5_takeIncome_43 (lv_at hl 3 rfl) ?_
          refine g_iald hx hb hK hM ⟨by omega, by omega⟩ ho15 (by omega) (by omega) (by decide) dX5_takeIncome_45 ?_
          show W _ _ _ _ _ _ _ _ _ _ _ _ _ _ _ (F0 _ _ _ (.int (zI (Pk (51 + 3 * ri))) :: _))
          refine g_iconst hx hb dX5_takeIncome_46 ?_
          refine g_icmp_ne (tgt := 94) hx hb dX5_takeIncome_47 (by decide) ⟨by omega, by omega⟩ (by decide) (fun c47 => ?_) (fun c47 => ?_)
          · skip
            have hk4 : ¬ Pk (51 + 3 * ri) = 4 := by omega
            obtain ⟨t0, ht0⟩ : ∃ q : Nat, Pk (52 + 3 * ri) = q := ⟨(Pk (52 + 3 * ri)).toNat, by omega⟩
            refine lv_lload_n hx hb dX5_takeIncome_94 rfl (lv_at hl 2 rfl) ?_
            refine lv_aload_n hx hb dX5_takeIncome_95 rfl (lv_at hl 0 rfl) ?_
            refine g_get (ci := 7) (v := .ref (h + 1)) (C := RX5) (T := TX5) (N := 11) hx hb hts iU_X5 hown hK hM ⟨by omega, by omega⟩ ho9 rfl 0 (by decide) (hts _ u_164) (fun _ h9 => h9) rfl dX5_takeIncome_96 ?_
            refine lv_aload_n hx hb dX5_takeIncome_99 rfl (lv_at hl 0 rfl) ?_
            refine g_get (ci := 7) (v := .ref (h + 6)) (C := RX5) (T := TX5) (N := 11) hx hb hts iU_X5 hown hK hM ⟨by omega, by omega⟩ ho9 rfl 1 (by decide) (hts _ u_166) (fun _ h9 => h9) rfl dX5_takeIncome_100 ?_
            refine g_getN (ci := 9) (v := .ref (h + 6 + 2)) (C := RX7) (T := TX7) (N := 4) hx hb hts iU_X7 hown hK hM ⟨by omega, by omega⟩ ho14 rfl 1 (by decide) (hts _ u_84) (fun _ h9 => h9) rfl dX5_takeIncome_103 ?_
            refine lv_iload hx hb dX5_takeIncome_106 (lv_at hl 3 rfl) ?_
            refine g_iald hx hb hK hM ⟨by omega, by omega⟩ ho16 (by omega) (by omega) (by decide) dX5_takeIncome_108 ?_
            show W _ _ _ _ _ _ _ _ _ _ _ _ _ _ _ (F0 _ _ _ (.int (zI (Pk (52 + 3 * ri))) :: _))
            rw [ht0]
            refine lv_aload_n hx hb dX5_takeIncome_109 rfl (lv_at hl 0 rfl) ?_
            refine lv_iload hx hb dX5_takeIncome_110 (lv_at hl 3 rfl) ?_
            refine lv_iload_n hx hb dX5_takeIncome_112 rfl (lv_at hl 1 rfl) ?_
            refine g_i2l hx hb dX5_takeIncome_113 ⟨by omega, by omega⟩ ?_
            refine lv_lload_n hx hb dX5_takeIncome_114 rfl (lv_at hl 2 rfl) ?_
            have hC36 := c_X5_portionFor l g b0 n fL h Pk ri a x1 hL hrg (wfE_mono hwk (by omega)) ⟨by omega, by omega, by omega, by omega, by omega, by omega⟩ (by omega) har ⟨by omega, by omega⟩
            refine g_callVl (ci := 7) (C := RX5) (T := TX5) (N := 11) (As := [.int (zI (↑ri : Int)), .long (zL a), .long (zL x1)]) (rest := [.int (zI (↑t0 : Int)), .ref (h + 1), .long (zL x1)]) ⟨hx, hb, hml, hown, hts⟩ hK hM hC36 (cuV (n := 3) hts u_499 u_496 u_4 (by decide) u_498 us_17 ⟨Nat.le_of_ble_eq_true rfl, Nat.le_of_ble_eq_true rfl⟩) ⟨by omega, by omega⟩ ho9 rfl rfl hl.1 rfl (Nat.le_of_ble_eq_true rfl) dX5_takeIncome_115 ⟨Nat.zero_le _, Nat.zero_le _⟩ (fun r115 f37 H locs hM hp38 => ?_)
            obtain ⟨rfl, rfl⟩ := hp38
            have hwn := want_in (P := Pk) (r := ri) (a := a) (x := x1) ⟨by omega, by omega⟩ har ⟨by omega, by omega⟩
            obtain ⟨⟨hz1, hz2⟩, ⟨hz3, hz4⟩, hz5⟩ := hwk.2 t0 (by omega)
            have hC41 := c_X2_putWhatFits l g b0 n fL (h + 1) Pk t0 (min x1 (sWant Pk ri a x1)) ho10 ⟨by omega, by omega⟩ hwk.1 (by omega) ⟨by omega, by omega⟩ ⟨by omega, by omega⟩ ⟨by omega, by omega⟩
            obtain ⟨ho44, ho45, ho46, ho47, ho48⟩ := id ho10
            refine g_callVl (ci := 4) (C := RX2) (T := TX2) (N := 5) (As := [.int (zI (↑t0 : Int)), .long (zL (min x1 (sWant Pk ri a x1)))]) (rest := [.long (zL x1)]) ⟨hx, hb, hml, hown, hts⟩ hK hM hC41 (cuV (n := 2) hts u_495 u_492 u_5 (by decide) u_493 u_494 ⟨Nat.le_of_ble_eq_true rfl, Nat.le_of_ble_eq_true rfl⟩) ⟨by omega, by omega⟩ ho44 rfl rfl hl.1 rfl (Nat.le_of_ble_eq_true rfl) dX5_takeIncome_118 ⟨Nat.zero_le _, Nat.zero_le _⟩ (fun r118 f42 H locs hM hp43 => ?_)
            obtain ⟨rfl, hn40, o39⟩ := hp43
            obtain ⟨P1, hP1⟩ : ∃ Q : Nat → Int, Q = sPut Pk t0 (min x1 (sWant Pk ri a x1)) := ⟨_, rfl⟩
            rw [← hP1] at hn40
            have hp49 := planAt.env (P' := P1) hL hn40 o39 (fun i hi => by rw [hP1]; unfold sPut; (repeat (first | rw [pu_s] | rw [pu_n (by omega)] | rw [Int.toNat_natCast])))
            refine g_lsub hx hb dX5_takeIncome_121 ?_
            refine lv_lstore_n (lv' := [(2, .long (zL (x1 - (sIs Pk t0 (min x1 (sWant Pk ri a x1)))))), (0, .ref h), (1, .int (zI a)), (4, .int (zI (↑ri : Int)))]) hx hb dX5_takeIncome_122 rfl hl (by decide) rfl (fun ls hl => ?_)
            refine lv_iinc (v := zI ((↑ri : Int) + 1)) (lv' := [(4, .int (zI ((↑ri : Int) + 1))), (2, .long (zL (x1 - (sIs Pk t0 (min x1 (sWant Pk ri a x1)))))), (0, .ref h), (1, .int (zI a))]) hx hb dX5_takeIncome_123 hl (k := 3) rfl (zI_add _ _) (by decide) rfl (fun ls hl => ?_)
            refine lv_goto (tgt := 17) hx hb dX5_takeIncome_126 (by decide) ?_
            obtain ⟨ho50, ho51, ho52, ho53, ho54⟩ := id hp49
            have hil := sIs_le (P := Pk) (e := t0) (a := min x1 (sWant Pk ri a x1)) (by omega)
            exact ih (k9 + 1) (ri + 1) (x1 - (sIs Pk t0 (min x1 (sWant Pk ri a x1)))) P1 f42 _ _ _ (by omega) (by rw [sIt_succ, ← hst, hP1]; simp only [sRecT]; rw [if_pos hrlt, if_neg hk4, ht0, Int.toNat_natCast]) (by omega) (by omega) ⟨by omega, by omega⟩ (by rw [hP1]; exact wfE_mono (wfE_put (d := 1000000) hwk (by omega) (by omega) (by omega)) (by omega)) (fun j hj => by rw [hP1, sPut_n (by omega)]; exact hkp j hj) (by rw [hP1, sPut_n (by omega)]; exact hk7) (by rw [hP1, sPut_n (by omega)]; exact hk8) (fun q hq => ((o39 (q) (by omega)).trans (hfr (q) (by omega)))) hM hp49 (lv_sub hl [2, 3, 1, 0] rfl)
          · skip
            have hk4 : Pk (51 + 3 * ri) = 4 := by omega
            refine lv_aload_n hx hb dX5_takeIncome_50 rfl (lv_at hl 0 rfl) ?_
            refine g_get (ci := 7) (v := .ref (h + 6)) (C := RX5) (T := TX5) (N := 11) hx hb hts iU_X5 hown hK hM ⟨by omega, by omega⟩ ho9 rfl 1 (by decide) (hts _ u_166) (fun _ h9 => h9) rfl dX5_takeIncome_51 ?_
            refine lv_iload hx hb dX5_takeIncome_54 (lv_at hl 3 rfl) ?_
            have hC55 := c_X7_endOfShares l g b0 n fL (h + 6) Pk ri ho11 ⟨by omega, by omega⟩ hrk.1 hrlt (fun j hj => ⟨by have := hrk.2 j hj; omega, by have := hrk.2 j hj; omega⟩)
            refine g_callVi (ci := 9) (C := RX7) (T := TX7) (N := 4) (As := [.int (zI (↑ri : Int))]) (rest := []) ⟨hx, hb, hml, hown, hts⟩ hK hM hC55 (cuV (n := 1) hts u_487 u_484 u_6 (by decide) u_485 u_486 ⟨Nat.le_of_ble_eq_true rfl, Nat.le_of_ble_eq_true rfl⟩) ⟨by omega, by omega⟩ ho14 rfl rfl hl.1 rfl (Nat.le_of_ble_eq_true rfl) dX5_takeIncome_56 ⟨Nat.zero_le _, Nat.zero_le _⟩ (fun r56 f56 H locs hM hp57 => ?_)
            obtain ⟨rfl, rfl⟩ := hp57
            refine lv_istore (lv' := [(5, .int (zI (↑(ri + sRun Pk 6 ri) : Int))), (0, .ref h), (1, .int (zI a)), (2, .long (zL x1)), (4, .int (zI (↑ri : Int)))]) hx hb dX5_takeIncome_59 hl (by decide) rfl (fun ls hl => ?_)
            have hso := shOk_of hrk hrlt hk4
            have hso1 := hso.1.1
            have hso2 := hso.1.2.1
            have hso3 := hso.2
            have hsi := sShare_in hso.1 hwk (by omega : 0 ≤ x1) (by omega)
            have hsi1 := hsi.1.1
            have hsi2 := hsi.1.2
            refine lv_lload_n hx hb dX5_takeIncome_61 rfl (lv_at hl 3 rfl) ?_
            refine lv_aload_n hx hb dX5_takeIncome_62 rfl (lv_at hl 1 rfl) ?_
            refine lv_iload hx hb dX5_takeIncome_63 (lv_at hl 4 rfl) ?_
            refine lv_iload hx hb dX5_takeIncome_65 (lv_at hl 0 rfl) ?_
            refine lv_lload_n hx hb dX5_takeIncome_67 rfl (lv_at hl 3 rfl) ?_
            have hC60 := c_X5_shareOut l g b0 n fL h Pk ri (sRun Pk 6 ri) x1 hL hrg (wfE_mono hwk (by omega)) hso.1 ⟨by omega, by omega⟩
            refine g_callVl (ci := 7) (C := RX5) (T := TX5) (N := 11) (As := [.int (zI (↑ri : Int)), .int (zI (↑(ri + sRun Pk 6 ri) : Int)), .long (zL x1)]) (rest := [.long (zL x1)]) ⟨hx, hb, hml, hown, hts⟩ hK hM hC60 (cuV (n := 3) hts u_491 u_488 u_4 (by decide) u_490 us_16 ⟨Nat.le_of_ble_eq_true rfl, Nat.le_of_ble_eq_true rfl⟩) ⟨by omega, by omega⟩ ho9 rfl rfl hl.1 rfl (Nat.le_of_ble_eq_true rfl) dX5_takeIncome_68 ⟨Nat.zero_le _, Nat.zero_le _⟩ (fun r68 f61 H locs hM hp62 => ?_)
            obtain ⟨rfl, hn59, o58⟩ := hp62
            obtain ⟨P1, hP1⟩ : ∃ Q : Nat → Int, Q = (sShare Pk ri (sRun Pk 6 ri) x1).2 := ⟨_, rfl⟩
            rw [← hP1] at hn59
            refine g_lsub hx hb dX5_takeIncome_71 ?_
            refine lv_lstore_n (lv' := [(2, .long (zL (x1 - ((sShare Pk ri (sRun Pk 6 ri) x1).1)))), (5, .int (zI (↑(ri + sRun Pk 6 ri) : Int))), (0, .ref h), (1, .int (zI a)), (4, .int (zI (↑ri : Int)))]) hx hb dX5_takeIncome_72 rfl hl (by decide) rfl (fun ls hl => ?_)
            refine lv_iload hx hb dX5_takeIncome_73 (lv_at hl 1 rfl) ?_
            refine lv_iload hx hb dX5_takeIncome_75 (lv_at hl 4 rfl) ?_
            refine g_icmp_le (tgt := 85) hx hb dX5_takeIncome_77 (by decide) ⟨by omega, by omega⟩ ⟨by omega, by omega⟩ (fun c77 => ?_) (fun c77 => ?_)
            · skip
              exfalso; omega
            · skip
              refine lv_iload hx hb dX5_takeIncome_80 (lv_at hl 1 rfl) ?_
              refine lv_goto (tgt := 89) hx hb dX5_takeIncome_82 (by decide) ?_
              refine lv_istore (lv' := [(4, .int (zI (↑(ri + sRun Pk 6 ri) : Int))), (2, .long (zL (x1 - ((sShare Pk ri (sRun Pk 6 ri) x1).1)))), (5, .int (zI (↑(ri + sRun Pk 6 ri) : Int))), (0, .ref h), (1, .int (zI a))]) hx hb dX5_takeIncome_89 hl (by decide) rfl (fun ls hl => ?_)
              refine lv_goto (tgt := 17) hx hb dX5_takeIncome_91 (by decide) ?_
              obtain ⟨ho63, ho64, ho65, ho66, ho67⟩ := id hn59
              exact ih (k9 + 1) (ri + sRun Pk 6 ri) (x1 - ((sShare Pk ri (sRun Pk 6 ri) x1).1)) P1 f61 _ _ _ (by omega) (by rw [sIt_succ, ← hst, hP1]; simp only [sRecT]; rw [if_pos hrlt, if_pos hk4]) (by omega) (by omega) ⟨by omega, by omega⟩ (by rw [hP1]; exact wfE_mono hsi.2.1 (by omega)) (fun j hj => by rw [hP1, hsi.2.2 j (by omega)]; exact hkp j hj) (by rw [hP1, hsi.2.2 7 (by omega)]; exact hk7) (by rw [hP1, hsi.2.2 8 (by omega)]; exact hk8) (fun q hq => ((o58 (q) (by omega)).trans (hfr (q) (by omega)))) hM hn59 (lv_sub hl [3, 4, 1, 0] rfl)
  have hf69 := ho2.kept (fun q h1 h2 => (o7 (q) (by omega)))
  have hf70 := ho3.kept (fun q h1 h2 => (o7 (q) (by omega)))
  have hf71 := ho4.kept (fun q h1 h2 => (o7 (q) (by omega)))
  have hf72 := ho5.kept (fun q h1 h2 => (o7 (q) (by omega)))
  obtain ⟨Q68, hQ68⟩ : ∃ Q : Nat → Int, Q = pu P 2 ((P 2) + a) := ⟨_, rfl⟩
  have hp73 : planAt g f6 h Q68 := ⟨hf8.trans (by rw [hQ68]; (repeat (first | rw [pu_s] | rw [pu_n (by omega)] | rw [Int.toNat_natCast]))), hf69.cong (fun i hi => by rw [hQ68]; (repeat (first | rw [pu_s] | rw [pu_n (by omega)] | rw [Int.toNat_natCast]))), hf70.cong (fun i hi => by rw [hQ68]; (repeat (first | rw [pu_s] | rw [pu_n (by omega)] | rw [Int.toNat_natCast]))), hf71.cong (fun i hi => by rw [hQ68]; (repeat (first | rw [pu_s] | rw [pu_n (by omega)] | rw [Int.toNat_natCast]))), hf72.cong (fun i hi => by rw [hQ68]; (repeat (first | rw [pu_s] | rw [pu_n (by omega)] | rw [Int.toNat_natCast])))⟩
  exact lp17 (7) 0 0 a Q68 f6 _ _ _ (by omega) (by rw [hQ68]; rfl) (by omega) (by omega) ⟨by omega, by omega⟩ (wfE_mono (u := 900000000000000) (by rw [hQ68]; exact ⟨by rw [pu_n (by omega)]; exact hwe.1, fun j hj => by rw [pu_n (by omega), pu_n (by omega), pu_n (by omega)]; exact hwe.2 j hj⟩) (by omega)) (fun j hj => by rw [hQ68, pu_n (by omega)]) (by rw [hQ68, pu_n (by omega)]) (by rw [hQ68, pu_n (by omega)]) (fun q hq => (o7 (q) (by omega))) hM hp73 (lv_sub hl [2, 3, 1, 0] rfl)
