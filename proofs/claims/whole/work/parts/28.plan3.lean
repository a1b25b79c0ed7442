def po_X5_rollOver (g : gE) (f : gF) (h : Nat) (P : Nat → Int) : gF → Prop := fun f1 => planAt g f1 h (sRoll P) ∧ ∀ q, (q < h ∨ h + 23 ≤ q) → f1 q = f q
set_option maxRecDepth 100000 in
set_option maxHeartbeats 1000000 in
/-- rollOver() -/
theorem c_X5_rollOver (l : Launch) (g : gE) (b0 n : Nat) (f : gF) (h : Nat) (P : Nat → Int) (hE : planAt g f h P) (hrg : b0 ≤ h ∧ h + 23 ≤ b0 + n) (hwe : wfE P 1000000000000000) : cV l yX5_rollOver cX5_rollOver 4 none 1 23 [.ref h] g b0 n f (po_X5_rollOver g f h P) := by
  refine gs_v (cc := cX5_rollOver) (maxL := 4) (ret := none) (by decide) (Nat.le_of_ble_eq_true rfl) ?_
  intro p e0 s m args below meth c ls hx hb hr hml hown hts hlk hK hM hl
  have hl : lv_has ls 4 [(0, .ref h)] := hl
  have hcn7 := hwe.1
  have hzn7 := hcn7.1
  have hzm7 := hcn7.2
  refine g_iconst hx hb dX5_rollOver_0 ?_
  refine lv_istore_n (lv' := [(1, .int (zI 0)), (0, .ref h)]) hx hb dX5_rollOver_1 rfl hl (by decide) rfl (fun ls hl => ?_)
  have lp2 : ∀ (k : Nat), ∀ (i : Nat) (Pk : Nat → Int) (fL : gF) (H : Heap) (locs : List Loc) (ls : Array Slot), (10 - i < k) → ((i : Int) ≤ P 7) → (Pk = sIt sRolT P i) → (∀ q, (q < h ∨ h + 23 ≤ q) → fL q = f q) → gH g b0 n fL s.heap H locs → (planAt g fL h Pk) → lv_has ls 4 [(0, .ref h), (1, .int (zI (↑i : Int)))] → W p l e0 { frames := 1, cells := 0, slots := 0, locals := 23 } s m args below meth c H locs 0 0 (MQ below (va_Qv (po_X5_rollOver g f h P) (gB g b0 n) (gA b0)) args s 0 0 (gA b0)) (F0 m 2 ls []) := by
    intro k
    induction k with
    | zero =>
      intro i Pk fL H locs ls hk hi hPk hfr hM hL hl
      exact absurd hk (Nat.not_lt_zero _)
    | succ k ih =>
      intro i Pk fL H locs ls hk hi hPk hfr hM hL hl
      obtain ⟨hwk, hk7⟩ := wfE_roll hwe i (by omega)
      rw [← hPk] at hwk hk7
      refine lv_iload_n hx hb dX5_rollOver_2 rfl (lv_at hl 1 rfl) ?_
      refine lv_aload_n hx hb dX5_rollOver_3 rfl (lv_at hl 0 rfl) ?_
      obtain ⟨ho1, ho2, ho3, ho4, ho5⟩ := id hL
      refine g_get (ci := 7) (v := .ref (h + 1)) (C := RX5) (T := TX5) (N := 11) hx hb hts iU_X5 hown hK hM ⟨by omega, by omega⟩ ho1 rfl 0 (by decide) (hts _ u_164) (fun _ h9 => h9) rfl dX5_rollOver_4 ?_
      obtain ⟨ho6, ho7, ho8, ho9, ho10⟩ := id ho2
      refine g_getN (ci := 4) (v := .int (zI (Pk 7))) (C := RX2) (T := TX2) (N := 5) hx hb hts iU_X2 hown hK hM ⟨by omega, by omega⟩ ho6 rfl 4 (by decide) (hts _ u_61) (fun _ h9 => h9) rfl dX5_rollOver_7 ?_
      refine g_icmp_ge (tgt := 48) hx hb dX5_rollOver_10 (by decide) ⟨by omega, by omega⟩ ⟨by omega, by omega⟩ (fun c10 => ?_) (fun c10 => ?_)
      · skip
        refine g_vret hx hb hr hlk hK hM dX5_rollOver_48 ?_
        refine ⟨?_, (fun q hq => (hfr (q) (by omega)))⟩
        have hi2 : i = (P 7).toNat := by omega
        unfold sRoll
        rw [← hi2, ← hPk]
        exact hL
      · skip
        obtain ⟨⟨hz1, hz2⟩, hz3, ⟨hz4, hz5⟩⟩ := hwk.2 i (by omega)
        refine lv_aload_n hx hb dX5_rollOver_13 rfl (lv_at hl 0 rfl) ?_
        refine g_get (ci := 7) (v := .ref (h + 1)) (C := RX5) (T := TX5) (N := 11) hx hb hts iU_X5 hown hK hM ⟨by omega, by omega⟩ ho1 rfl 0 (by decide) (hts _ u_164) (fun _ h9 => h9) rfl dX5_rollOver_14 ?_
        refine lv_iload_n hx hb dX5_rollOver_17 rfl (lv_at hl 1 rfl) ?_
        have hC13 := c_X2_release l g b0 n fL (h + 1) Pk i ho2 ⟨by omega, by omega⟩ hwk.1 (by omega) ⟨by omega, by omega⟩ ⟨by omega, by omega⟩
        refine g_callVl (ci := 4) (C := RX2) (T := TX2) (N := 5) (As := [.int (zI (↑i : Int))]) (rest := []) ⟨hx, hb, hml, hown, hts⟩ hK hM hC13 (cuV (n := 1) hts u_532 u_529 u_5 (by decide) u_530 u_531 ⟨Nat.le_of_ble_eq_true rfl, Nat.le_of_ble_eq_true rfl⟩) ⟨by omega, by omega⟩ ho6 rfl rfl hl.1 rfl (Nat.le_of_ble_eq_true rfl) dX5_rollOver_18 ⟨Nat.zero_le _, Nat.zero_le _⟩ (fun r18 f14 H locs hM hp15 => ?_)
        obtain ⟨rfl, hn12, o11⟩ := hp15
        obtain ⟨P1, hP1⟩ : ∃ Q : Nat → Int, Q = pu Pk (11 + 4 * i) (Pk (11 + 4 * i) - sRel Pk i) := ⟨_, rfl⟩
        rw [← hP1] at hn12
        have hp16 := planAt.env (P' := P1) hL hn12 o11 (fun i hi => by rw [hP1]; (repeat (first | rw [pu_s] | rw [pu_n (by omega)] | rw [Int.toNat_natCast])))
        refine lv_lstore_n (lv' := [(2, .long (zL (sRel Pk i))), (0, .ref h), (1, .int (zI (↑i : Int)))]) hx hb dX5_rollOver_21 rfl hl (by decide) rfl (fun ls hl => ?_)
        refine lv_aload_n hx hb dX5_rollOver_22 rfl (lv_at hl 1 rfl) ?_
        refine lv_dup hx hb dX5_rollOver_23 rfl ?_
        obtain ⟨ho17, ho18, ho19, ho20, ho21⟩ := id hp16
        refine g_get (ci := 7) (v := .long (zL (P1 0))) (C := RX5) (T := TX5) (N := 11) hx hb hts iU_X5 hown hK hM ⟨by omega, by omega⟩ ho17 rfl 4 (by decide) (hts _ u_172) (fun _ h9 => h9) rfl dX5_rollOver_24 ?_
        refine lv_lload_n hx hb dX5_rollOver_27 rfl (lv_at hl 0 rfl) ?_
        refine g_ladd hx hb dX5_rollOver_28 ?_
        refine g_put (ci := 7) (v := .long (zL ((P1 0) + (sRel Pk i)))) (ty := .long) (C := RX5) (T := TX5) (N := 11) hx hb hts iU_X5 tyX5 tyX5_ok nmX5 hown hK hM ⟨by omega, by omega⟩ ho17 rfl 4 (by decide) (hts _ u_172) (fun _ h9 => h9) rfl (by decide +kernel) rfl rfl (Nat.le_of_ble_eq_true rfl) dX5_rollOver_29 (fun f22 H locs hM hf24 o23 => ?_)
        have hf24 : f22 (h) = .inr (7, [.ref (h + 1), .ref (h + 6), .ref (h + 10), .ref (h + 16), .long (zL ((P1 0) + (sRel Pk i))), .int (zI (P1 1)), .long (zL (P1 2)), .long (zL (P1 3)), .int (zI (P1 4)), .long (zL (P1 5)), .long (zL (P1 6))]) := hf24
        refine lv_aload_n hx hb dX5_rollOver_32 rfl (lv_at hl 1 rfl) ?_
        refine lv_dup hx hb dX5_rollOver_33 rfl ?_
        refine g_get (ci := 7) (v := .long (zL (P1 6))) (C := RX5) (T := TX5) (N := 11) hx hb hts iU_X5 hown hK hM ⟨by omega, by omega⟩ hf24 rfl 10 (by decide) (hts _ u_182) (fun _ h9 => h9) rfl dX5_rollOver_34 ?_
        refine lv_lload_n hx hb dX5_rollOver_37 rfl (lv_at hl 0 rfl) ?_
        refine g_ladd hx hb dX5_rollOver_38 ?_
        refine g_put (ci := 7) (v := .long (zL ((P1 6) + (sRel Pk i)))) (ty := .long) (C := RX5) (T := TX5) (N := 11) hx hb hts iU_X5 tyX5 tyX5_ok nmX5 hown hK hM ⟨by omega, by omega⟩ hf24 rfl 10 (by decide) (hts _ u_182) (fun _ h9 => h9) rfl (by decide +kernel) rfl rfl (Nat.le_of_ble_eq_true rfl) dX5_rollOver_39 (fun f25 H locs hM hf27 o26 => ?_)
        have hf27 : f25 (h) = .inr (7, [.ref (h + 1), .ref (h + 6), .ref (h + 10), .ref (h + 16), .long (zL ((P1 0) + (sRel Pk i))), .int (zI (P1 1)), .long (zL (P1 2)), .long (zL (P1 3)), .int (zI (P1 4)), .long (zL (P1 5)), .long (zL ((P1 6) + (sRel Pk i)))]) := hf27
        refine lv_iinc (v := zI ((↑i : Int) + 1)) (lv' := [(1, .int (zI ((↑i : Int) + 1))), (2, .long (zL (sRel Pk i))), (0, .ref h)]) hx hb dX5_rollOver_42 hl (k := 2) rfl (zI_add _ _) (by decide) rfl (fun ls hl => ?_)
        refine lv_goto (tgt := 2) hx hb dX5_rollOver_45 (by decide) ?_
        have hf29 := ho18.kept (fun q h1 h2 => ((o26 (q) (by omega)).trans (o23 (q) (by omega))))
        have hf30 := ho19.kept (fun q h1 h2 => ((o26 (q) (by omega)).trans (o23 (q) (by omega))))
        have hf31 := ho20.kept (fun q h1 h2 => ((o26 (q) (by omega)).trans (o23 (q) (by omega))))
        have hf32 := ho21.kept (fun q h1 h2 => ((o26 (q) (by omega)).trans (o23 (q) (by omega))))
        obtain ⟨Q28, hQ28⟩ : ∃ Q : Nat → Int, Q = pu (pu P1 0 ((P1 0) + (sRel Pk i))) 6 ((P1 6) + (sRel Pk i)) := ⟨_, rfl⟩
        have hp33 : planAt g f25 h Q28 := ⟨hf27.trans (by rw [hQ28]; (repeat (first | rw [pu_s] | rw [pu_n (by omega)] | rw [Int.toNat_natCast]))), hf29.cong (fun i hi => by rw [hQ28]; (repeat (first | rw [pu_s] | rw [pu_n (by omega)] | rw [Int.toNat_natCast]))), hf30.cong (fun i hi => by rw [hQ28]; (repeat (first | rw [pu_s] | rw [pu_n (by omega)] | rw [Int.toNat_natCast]))), hf31.cong (fun i hi => by rw [hQ28]; (repeat (first | rw [pu_s] | rw [pu_n (by omega)] | rw [Int.toNat_natCast]))), hf32.cong (fun i hi => by rw [hQ28]; (repeat (first | rw [pu_s] | rw [pu_n (by omega)] | rw [Int.toNat_natCast])))⟩
        exact ih (i + 1) Q28 f25 _ _ _ (by omega) (by omega) (by rw [hQ28, hP1, hPk]; rfl) (fun q hq => ((o26 (q) (by omega)).trans ((o23 (q) (by omega)).trans ((o11 (q) (by omega)).trans (hfr (q) (by omega)))))) hM hp33 (lv_sub hl [2, 0] rfl)
  obtain ⟨ho34, ho35, ho36, ho37, ho38⟩ := id hE
  exact lp2 (11) 0 P f _ _ _ (by omega) (by omega) rfl (fun q hq => rfl) hM hE (lv_sub hl [1, 0] rfl)
