def po_X2_init (g : gE) (f : gF) (h : Nat) : gF → Prop := fun f1 => envAt g f1 h (fun _ => 0) ∧ ∀ q, q < h → f1 q = f q
set_option maxRecDepth 100000 in
set_option maxHeartbeats 4000000 in
/-- X2.<init> -/
theorem c_X2_init (l : Launch) (g : gE) (b0 n : Nat) (f : gF) (h : Nat) (hb0 : b0 ≤ h) (hna : h + 1 = b0 + n) (hO : f h = .inr (4, [.null, .null, .null, .null, .int (zI 0)])) : cN l yX2_init cX2_init 1 1 12 4 40 [.ref h] g b0 n (n + 4) f (po_X2_init g f h) := by
  refine gs_n (cc := cX2_init) (maxL := 1) (by decide) (Nat.le_of_ble_eq_true rfl) ?_
  intro p e0 s m args below meth c ls hx hb hr hml hown hin hts hlk hK hM hz0 hl
  have hl : lv_has ls 1 [(0, .ref h)] := hl
  refine lv_aload_n hx hb dX2_init_0 rfl (lv_at hl 0 rfl) ?_
  refine W.objInit hx hb hown (hts _ u_55) (hts _ u_30) (hts _ u_31) rfl (by rw [hml]; exact hl.1) rfl dX2_init_1 (Nat.le_of_ble_eq_true rfl) (Nat.le_of_ble_eq_true rfl) ?_
  refine W.eq (g2 := F0 m 4 ls []) rfl ?_
  refine lv_aload_n hx hb dX2_init_4 rfl (lv_at hl 0 rfl) ?_
  refine g_bipush hx hb dX2_init_5 (by decide) ?_
  refine g_size hM (by omega) (by omega) (fun hz => ?_)
  refine g_newaJ hx hb hts u_73 hK hM hz (a := h + 1) (by omega) 10 (by omega) (by decide) (by decide) (by decide) dX2_init_7 (fun f1 H hM _ ho3 o2 => ?_)
  clear hz
  have hf4 : f1 (h) = .inr (4, [.null, .null, .null, .null, .int (zI 0)]) := (o2 (h) (by first | exact ad_ne (by decide) | exact ad_n0 (by decide) | exact ad_0n (by decide) | exact ad_lt hq | exact ad_l0 hq | omega)).trans hO
  refine g_putF (ci := 4) (v := .ref (h + 1)) (ty := .array .long) (C := RX2) (T := TX2) (N := 5) hx hb hts iU_X2 tyX2 tyX2_ok nmX2 hown hK hM ⟨by omega, by omega⟩ hf4 rfl 0 (by decide) (hts _ u_56) (fun _ h9 => h9) rfl hin rfl (by decide +kernel) rfl rfl (Nat.le_of_ble_eq_true rfl) dX2_init_9 (fun f5 H locs hM hf7 o6 => ?_)
  have hf7 : f5 (h) = .inr (4, [.ref (h + 1), .null, .null, .null, .int (zI 0)]) := hf7
  refine lv_aload_n hx hb dX2_init_12 rfl (lv_at hl 0 rfl) ?_
  refine g_bipush hx hb dX2_init_13 (by decide) ?_
  refine g_size hM (by omega) (by omega) (fun hz => ?_)
  refine g_newaI hx hb hts u_74 hK hM hz (a := h + 2) (by omega) 10 (by omega) (by decide) (by decide) (by decide) dX2_init_15 (fun f8 H hM _ ho10 o9 => ?_)
  clear hz
  have hf11 : f8 (h) = .inr (4, [.ref (h + 1), .null, .null, .null, .int (zI 0)]) := (o9 (h) (by first | exact ad_ne (by decide) | exact ad_n0 (by decide) | exact ad_0n (by decide) | exact ad_lt hq | exact ad_l0 hq | omega)).trans hf7
  refine g_putF (ci := 4) (v := .ref (h + 2)) (ty := .array .int) (C := RX2) (T := TX2) (N := 5) hx hb hts iU_X2 tyX2 tyX2_ok nmX2 hown hK hM ⟨by omega, by omega⟩ hf11 rfl 1 (by decide) (hts _ u_57) (fun _ h9 => h9) rfl hin rfl (by decide +kernel) rfl rfl (Nat.le_of_ble_eq_true rfl) dX2_init_17 (fun f12 H locs hM hf14 o13 => ?_)
  have hf14 : f12 (h) = .inr (4, [.ref (h + 1), .ref (h + 2), .null, .null, .int (zI 0)]) := hf14
  refine lv_aload_n hx hb dX2_init_20 rfl (lv_at hl 0 rfl) ?_
  refine g_bipush hx hb dX2_init_21 (by decide) ?_
  refine g_size hM (by omega) (by omega) (fun hz => ?_)
  refine g_newaI hx hb hts u_74 hK hM hz (a := h + 3) (by omega) 10 (by omega) (by decide) (by decide) (by decide) dX2_init_23 (fun f15 H hM _ ho17 o16 => ?_)
  clear hz
  have hf18 : f15 (h) = .inr (4, [.ref (h + 1), .ref (h + 2), .null, .null, .int (zI 0)]) := (o16 (h) (by first | exact ad_ne (by decide) | exact ad_n0 (by decide) | exact ad_0n (by decide) | exact ad_lt hq | exact ad_l0 hq | omega)).trans hf14
  refine g_putF (ci := 4) (v := .ref (h + 3)) (ty := .array .int) (C := RX2) (T := TX2) (N := 5) hx hb hts iU_X2 tyX2 tyX2_ok nmX2 hown hK hM ⟨by omega, by omega⟩ hf18 rfl 2 (by decide) (hts _ u_58) (fun _ h9 => h9) rfl hin rfl (by decide +kernel) rfl rfl (Nat.le_of_ble_eq_true rfl) dX2_init_25 (fun f19 H locs hM hf21 o20 => ?_)
  have hf21 : f19 (h) = .inr (4, [.ref (h + 1), .ref (h + 2), .ref (h + 3), .null, .int (zI 0)]) := hf21
  refine lv_aload_n hx hb dX2_init_28 rfl (lv_at hl 0 rfl) ?_
  refine g_bipush hx hb dX2_init_29 (by decide) ?_
  refine g_size hM (by omega) (by omega) (fun hz => ?_)
  refine g_newaJ hx hb hts u_73 hK hM hz (a := h + 4) (by omega) 10 (by omega) (by decide) (by decide) (by decide) dX2_init_31 (fun f22 H hM _ ho24 o23 => ?_)
  clear hz
  have hf25 : f22 (h) = .inr (4, [.ref (h + 1), .ref (h + 2), .ref (h + 3), .null, .int (zI 0)]) := (o23 (h) (by first | exact ad_ne (by decide) | exact ad_n0 (by decide) | exact ad_0n (by decide) | exact ad_lt hq | exact ad_l0 hq | omega)).trans hf21
  refine g_putF (ci := 4) (v := .ref (h + 4)) (ty := .array .long) (C := RX2) (T := TX2) (N := 5) hx hb hts iU_X2 tyX2 tyX2_ok nmX2 hown hK hM ⟨by omega, by omega⟩ hf25 rfl 3 (by decide) (hts _ u_59) (fun _ h9 => h9) rfl hin rfl (by decide +kernel) rfl rfl (Nat.le_of_ble_eq_true rfl) dX2_init_33 (fun f26 H locs hM hf28 o27 => ?_)
  have hf28 : f26 (h) = .inr (4, [.ref (h + 1), .ref (h + 2), .ref (h + 3), .ref (h + 4), .int (zI 0)]) := hf28
  have hf29 := ho3.kept ((o27 (h + 1) (by first | exact ad_ne (by decide) | exact ad_n0 (by decide) | exact ad_0n (by decide) | exact ad_lt hq | exact ad_l0 hq | omega)).trans ((o23 (h + 1) (by first | exact ad_ne (by decide) | exact ad_n0 (by decide) | exact ad_0n (by decide) | exact ad_lt hq | exact ad_l0 hq | omega)).trans ((o20 (h + 1) (by first | exact ad_ne (by decide) | exact ad_n0 (by decide) | exact ad_0n (by decide) | exact ad_lt hq | exact ad_l0 hq | omega)).trans ((o16 (h + 1) (by first | exact ad_ne (by decide) | exact ad_n0 (by decide) | exact ad_0n (by decide) | exact ad_lt hq | exact ad_l0 hq | omega)).trans ((o13 (h + 1) (by first | exact ad_ne (by decide) | exact ad_n0 (by decide) | exact ad_0n (by decide) | exact ad_lt hq | exact ad_l0 hq | omega)).trans ((o9 (h + 1) (by first | exact ad_ne (by decide) | exact ad_n0 (by decide) | exact ad_0n (by decide) | exact ad_lt hq | exact ad_l0 hq | omega)).trans (o6 (h + 1) (by first | exact ad_ne (by decide) | exact ad_n0 (by decide) | exact ad_0n (by decide) | exact ad_lt hq | exact ad_l0 hq | omega))))))))
  have hf30 := ho10.kept ((o27 (h + 2) (by first | exact ad_ne (by decide) | exact ad_n0 (by decide) | exact ad_0n (by decide) | exact ad_lt hq | exact ad_l0 hq | omega)).trans ((o23 (h + 2) (by first | exact ad_ne (by decide) | exact ad_n0 (by decide) | exact ad_0n (by decide) | exact ad_lt hq | exact ad_l0 hq | omega)).trans ((o20 (h + 2) (by first | exact ad_ne (by decide) | exact ad_n0 (by decide) | exact ad_0n (by decide) | exact ad_lt hq | exact ad_l0 hq | omega)).trans ((o16 (h + 2) (by first | exact ad_ne (by decide) | exact ad_n0 (by decide) | exact ad_0n (by decide) | exact ad_lt hq | exact ad_l0 hq | omega)).trans (o13 (h + 2) (by first | exact ad_ne (by decide) | exact ad_n0 (by decide) | exact ad_0n (by decide) | exact ad_lt hq | exact ad_l0 hq | omega))))))
  have hf31 := ho17.kept ((o27 (h + 3) (by first | exact ad_ne (by decide) | exact ad_n0 (by decide) | exact ad_0n (by decide) | exact ad_lt hq | exact ad_l0 hq | omega)).trans ((o23 (h + 3) (by first | exact ad_ne (by decide) | exact ad_n0 (by decide) | exact ad_0n (by decide) | exact ad_lt hq | exact ad_l0 hq | omega)).trans (o20 (h + 3) (by first | exact ad_ne (by decide) | exact ad_n0 (by decide) | exact ad_0n (by decide) | exact ad_lt hq | exact ad_l0 hq | omega))))
  have hf32 := ho24.kept (o27 (h + 4) (by first | exact ad_ne (by decide) | exact ad_n0 (by decide) | exact ad_0n (by decide) | exact ad_lt hq | exact ad_l0 hq | omega))
  refine g_size hM (by omega) (by omega) (fun hz => ?_)
  refine g_nret hx hb hr hlk hK hM hz dX2_init_36 ?_
  exact ⟨⟨hf28, hf29, hf30, hf31, hf32⟩, (fun q hq => ((o27 (q) (by first | exact ad_ne (by decide) | exact ad_n0 (by decide) | exact ad_0n (by decide) | exact ad_lt hq | exact ad_l0 hq | omega)).trans ((o23 (q) (by first | exact ad_ne (by decide) | exact ad_n0 (by decide) | exact ad_0n (by decide) | exact ad_lt hq | exact ad_l0 hq | omega)).trans ((o20 (q) (by first | exact ad_ne (by decide) | exact ad_n0 (by decide) | exact ad_0n (by decide) | exact ad_lt hq | exact ad_l0 hq | omega)).trans ((o16 (q) (by first | exact ad_ne (by decide) | exact ad_n0 (by decide) | exact ad_0n (by decide) | exact ad_lt hq | exact ad_l0 hq | omega)).trans ((o13 (q) (by first | exact ad_ne (by decide) | exact ad_n0 (by decide) | exact ad_0n (by decide) | exact ad_lt hq | exact ad_l0 hq | omega)).trans ((o9 (q) (by first | exact ad_ne (by decide) | exact ad_n0 (by decide) | exact ad_0n (by decide) | exact ad_lt hq | exact ad_l0 hq | omega)).trans ((o6 (q) (by first | exact ad_ne (by decide) | exact ad_n0 (by decide) | exact ad_0n (by decide) | exact ad_lt hq | exact ad_l0 hq | omega)).trans (o2 (q) (by first | exact ad_ne (by decide) | exact ad_n0 (by decide) | exact ad_0n (by decide) | exact ad_lt hq | exact ad_l0 hq | omega))))))))))⟩

def po_X7_init (g : gE) (f : gF) (h : Nat) : gF → Prop := fun f1 => ruleAt g f1 h (fun _ => 0) ∧ ∀ q, q < h → f1 q = f q
set_option maxRecDepth 100000 in
set_option maxHeartbeats 4000000 in
/-- X7.<init> -/
theorem c_X7_init (l : Launch) (g : gE) (b0 n : Nat) (f : gF) (h : Nat) (hb0 : b0 ≤ h) (hna : h + 1 = b0 + n) (hO : f h = .inr (9, [.null, .null, .null, .int (zI 0)])) : cN l yX7_init cX7_init 1 1 12 3 18 [.ref h] g b0 n (n + 3) f (po_X7_init g f h) := by
  refine gs_n (cc := cX7_init) (maxL := 1) (by decide) (Nat.le_of_ble_eq_true rfl) ?_
  intro p e0 s m args below meth c ls hx hb hr hml hown hin hts hlk hK hM hz0 hl
  have hl : lv_has ls 1 [(0, .ref h)] := hl
  refine lv_aload_n hx hb dX7_init_0 rfl (lv_at hl 0 rfl) ?_
  refine W.objInit hx hb hown (hts _ u_80) (hts _ u_30) (hts _ u_31) rfl (by rw [hml]; exact hl.1) rfl dX7_init_1 (Nat.le_of_ble_eq_true rfl) (Nat.le_of_ble_eq_true rfl) ?_
  refine W.eq (g2 := F0 m 4 ls []) rfl ?_
  refine lv_aload_n hx hb dX7_init_4 rfl (lv_at hl 0 rfl) ?_
  refine g_bipush hx hb dX7_init_5 (by decide) ?_
  refine g_size hM (by omega) (by omega) (fun hz => ?_)
  refine g_newaI hx hb hts u_74 hK hM hz (a := h + 1) (by omega) 6 (by omega) (by decide) (by decide) (by decide) dX7_init_7 (fun f1 H hM _ ho3 o2 => ?_)
  clear hz
  have hf4 : f1 (h) = .inr (9, [.null, .null, .null, .int (zI 0)]) := (o2 (h) (by first | exact ad_ne (by decide) | exact ad_n0 (by decide) | exact ad_0n (by decide) | exact ad_lt hq | exact ad_l0 hq | omega)).trans hO
  refine g_putF (ci := 9) (v := .ref (h + 1)) (ty := .array .int) (C := RX7) (T := TX7) (N := 4) hx hb hts iU_X7 tyX7 tyX7_ok nmX7 hown hK hM ⟨by omega, by omega⟩ hf4 rfl 0 (by decide) (hts _ u_81) (fun _ h9 => h9) rfl hin rfl (by decide +kernel) rfl rfl (Nat.le_of_ble_eq_true rfl) dX7_init_9 (fun f5 H locs hM hf7 o6 => ?_)
  have hf7 : f5 (h) = .inr (9, [.ref (h + 1), .null, .null, .int (zI 0)]) := hf7
  refine lv_aload_n hx hb dX7_init_12 rfl (lv_at hl 0 rfl) ?_
  refine g_bipush hx hb dX7_init_13 (by decide) ?_
  refine g_size hM (by omega) (by omega) (fun hz => ?_)
  refine g_newaI hx hb hts u_74 hK hM hz (a := h + 2) (by omega) 6 (by omega) (by decide) (by decide) (by decide) dX7_init_15 (fun f8 H hM _ ho10 o9 => ?_)
  clear hz
  have hf11 : f8 (h) = .inr (9, [.ref (h + 1), .null, .null, .int (zI 0)]) := (o9 (h) (by first | exact ad_ne (by decide) | exact ad_n0 (by decide) | exact ad_0n (by decide) | exact ad_lt hq | exact ad_l0 hq | omega)).trans hf7
  refine g_putF (ci := 9) (v := .ref (h + 2)) (ty := .array .int) (C := RX7) (T := TX7) (N := 4) hx hb hts iU_X7 tyX7 tyX7_ok nmX7 hown hK hM ⟨by omega, by omega⟩ hf11 rfl 1 (by decide) (hts _ u_83) (fun _ h9 => h9) rfl hin rfl (by decide +kernel) rfl rfl (Nat.le_of_ble_eq_true rfl) dX7_init_17 (fun f12 H locs hM hf14 o13 => ?_)
  have hf14 : f12 (h) = .inr (9, [.ref (h + 1), .ref (h + 2), .null, .int (zI 0)]) := hf14
  refine lv_aload_n hx hb dX7_init_20 rfl (lv_at hl 0 rfl) ?_
  refine g_bipush hx hb dX7_init_21 (by decide) ?_
  refine g_size hM (by omega) (by omega) (fun hz => ?_)
  refine g_newaI hx hb hts u_74 hK hM hz (a := h + 3) (by omega) 6 (by omega) (by decide) (by decide) (by decide) dX7_init_23 (fun f15 H hM _ ho17 o16 => ?_)
  clear hz
  have hf18 : f15 (h) = .inr (9, [.ref (h + 1), .ref (h + 2), .null, .int (zI 0)]) := (o16 (h) (by first | exact ad_ne (by decide) | exact ad_n0 (by decide) | exact ad_0n (by decide) | exact ad_lt hq | exact ad_l0 hq | omega)).trans hf14
  refine g_putF (ci := 9) (v := .ref (h + 3)) (ty := .array .int) (C := RX7) (T := TX7) (N := 4) hx hb hts iU_X7 tyX7 tyX7_ok nmX7 hown hK hM ⟨by omega, by omega⟩ hf18 rfl 2 (by decide) (hts _ u_85) (fun _ h9 => h9) rfl hin rfl (by decide +kernel) rfl rfl (Nat.le_of_ble_eq_true rfl) dX7_init_25 (fun f19 H locs hM hf21 o20 => ?_)
  have hf21 : f19 (h) = .inr (9, [.ref (h + 1), .ref (h + 2), .ref (h + 3), .int (zI 0)]) := hf21
  have hf22 := ho3.kept ((o20 (h + 1) (by first | exact ad_ne (by decide) | exact ad_n0 (by decide) | exact ad_0n (by decide) | exact ad_lt hq | exact ad_l0 hq | omega)).trans ((o16 (h + 1) (by first | exact ad_ne (by decide) | exact ad_n0 (by decide) | exact ad_0n (by decide) | exact ad_lt hq | exact ad_l0 hq | omega)).trans ((o13 (h + 1) (by first | exact ad_ne (by decide) | exact ad_n0 (by decide) | exact ad_0n (by decide) | exact ad_lt hq | exact ad_l0 hq | omega)).trans ((o9 (h + 1) (by first | exact ad_ne (by decide) | exact ad_n0 (by decide) | exact ad_0n (by decide) | exact ad_lt hq | exact ad_l0 hq | omega)).trans (o6 (h + 1) (by first | exact ad_ne (by decide) | exact ad_n0 (by decide) | exact ad_0n (by decide) | exact ad_lt hq | exact ad_l0 hq | omega))))))
  have hf23 := ho10.kept ((o20 (h + 2) (by first | exact ad_ne (by decide) | exact ad_n0 (by decide) | exact ad_0n (by decide) | exact ad_lt hq | exact ad_l0 hq | omega)).trans ((o16 (h + 2) (by first | exact ad_ne (by decide) | exact ad_n0 (by decide) | exact ad_0n (by decide) | exact ad_lt hq | exact ad_l0 hq | omega)).trans (o13 (h + 2) (by first | exact ad_ne (by decide) | exact ad_n0 (by decide) | exact ad_0n (by decide) | exact ad_lt hq | exact ad_l0 hq | omega))))
  have hf24 := ho17.kept (o20 (h + 3) (by first | exact ad_ne (by decide) | exact ad_n0 (by decide) | exact ad_0n (by decide) | exact ad_lt hq | exact ad_l0 hq | omega))
  refine g_size hM (by omega) (by omega) (fun hz => ?_)
  refine g_nret hx hb hr hlk hK hM hz dX7_init_28 ?_
  exact ⟨⟨hf21, hf22, hf23, hf24⟩, (fun q hq => ((o20 (q) (by first | exact ad_ne (by decide) | exact ad_n0 (by decide) | exact ad_0n (by decide) | exact ad_lt hq | exact ad_l0 hq | omega)).trans ((o16 (q) (by first | exact ad_ne (by decide) | exact ad_n0 (by decide) | exact ad_0n (by decide) | exact ad_lt hq | exact ad_l0 hq | omega)).trans ((o13 (q) (by first | exact ad_ne (by decide) | exact ad_n0 (by decide) | exact ad_0n (by decide) | exact ad_lt hq | exact ad_l0 hq | omega)).trans ((o9 (q) (by first | exact ad_ne (by decide) | exact ad_n0 (by decide) | exact ad_0n (by decide) | exact ad_lt hq | exact ad_l0 hq | omega)).trans ((o6 (q) (by first | exact ad_ne (by decide) | exact ad_n0 (by decide) | exact ad_0n (by decide) | exact ad_lt hq | exact ad_l0 hq | omega)).trans (o2 (q) (by first | exact ad_ne (by decide) | exact ad_n0 (by decide) | exact ad_0n (by decide) | exact ad_lt hq | exact ad_l0 hq | omega))))))))⟩

def po_X4_init (g : gE) (f : gF) (h : Nat) : gF → Prop := fun f1 => linkAt g f1 h (fun _ => 0) ∧ ∀ q, q < h → f1 q = f q
set_option maxRecDepth 100000 in
set_option maxHeartbeats 4000000 in
/-- X4.<init> -/
theorem c_X4_init (l : Launch) (g : gE) (b0 n : Nat) (f : gF) (h : Nat) (hb0 : b0 ≤ h) (hna : h + 1 = b0 + n) (hO : f h = .inr (6, [.null, .null, .null, .null, .null, .int (zI 0)])) : cN l yX4_init cX4_init 1 1 12 5 30 [.ref h] g b0 n (n + 5) f (po_X4_init g f h) := by
  refine gs_n (cc := cX4_init) (maxL := 1) (by decide) (Nat.le_of_ble_eq_true rfl) ?_
  intro p e0 s m args below meth c ls hx hb hr hml hown hin hts hlk hK hM hz0 hl
  have hl : lv_has ls 1 [(0, .ref h)] := hl
  refine lv_aload_n hx hb dX4_init_0 rfl (lv_at hl 0 rfl) ?_
  refine W.objInit hx hb hown (hts _ u_103) (hts _ u_30) (hts _ u_31) rfl (by rw [hml]; exact hl.1) rfl dX4_init_1 (Nat.le_of_ble_eq_true rfl) (Nat.le_of_ble_eq_true rfl) ?_
  refine W.eq (g2 := F0 m 4 ls []) rfl ?_
  refine lv_aload_n hx hb dX4_init_4 rfl (lv_at hl 0 rfl) ?_
  refine g_bipush hx hb dX4_init_5 (by decide) ?_
  refine g_size hM (by omega) (by omega) (fun hz => ?_)
  refine g_newaI hx hb hts u_74 hK hM hz (a := h + 1) (by omega) 6 (by omega) (by decide) (by decide) (by decide) dX4_init_7 (fun f1 H hM _ ho3 o2 => ?_)
  clear hz
  have hf4 : f1 (h) = .inr (6, [.null, .null, .null, .null, .null, .int (zI 0)]) := (o2 (h) (by first | exact ad_ne (by decide) | exact ad_n0 (by decide) | exact ad_0n (by decide) | exact ad_lt hq | exact ad_l0 hq | omega)).trans hO
  refine g_putF (ci := 6) (v := .ref (h + 1)) (ty := .array .int) (C := RX4) (T := TX4) (N := 6) hx hb hts iU_X4 tyX4 tyX4_ok nmX4 hown hK hM ⟨by omega, by omega⟩ hf4 rfl 0 (by decide) (hts _ u_104) (fun _ h9 => h9) rfl hin rfl (by decide +kernel) rfl rfl (Nat.le_of_ble_eq_true rfl) dX4_init_9 (fun f5 H locs hM hf7 o6 => ?_)
  have hf7 : f5 (h) = .inr (6, [.ref (h + 1), .null, .null, .null, .null, .int (zI 0)]) := hf7
  refine lv_aload_n hx hb dX4_init_12 rfl (lv_at hl 0 rfl) ?_
  refine g_bipush hx hb dX4_init_13 (by decide) ?_
  refine g_size hM (by omega) (by omega) (fun hz => ?_)
  refine g_newaI hx hb hts u_74 hK hM hz (a := h + 2) (by omega) 6 (by omega) (by decide) (by decide) (by decide) dX4_init_15 (fun f8 H hM _ ho10 o9 => ?_)
  clear hz
  have hf11 : f8 (h) = .inr (6, [.ref (h + 1), .null, .null, .null, .null, .int (zI 0)]) := (o9 (h) (by first | exact ad_ne (by decide) | exact ad_n0 (by decide) | exact ad_0n (by decide) | exact ad_lt hq | exact ad_l0 hq | omega)).trans hf7
  refine g_putF (ci := 6) (v := .ref (h + 2)) (ty := .array .int) (C := RX4) (T := TX4) (N := 6) hx hb hts iU_X4 tyX4 tyX4_ok nmX4 hown hK hM ⟨by omega, by omega⟩ hf11 rfl 1 (by decide) (hts _ u_106) (fun _ h9 => h9) rfl hin rfl (by decide +kernel) rfl rfl (Nat.le_of_ble_eq_true rfl) dX4_init_17 (fun f12 H locs hM hf14 o13 => ?_)
  have hf14 : f12 (h) = .inr (6, [.ref (h + 1), .ref (h + 2), .null, .null, .null, .int (zI 0)]) := hf14
  refine lv_aload_n hx hb dX4_init_20 rfl (lv_at hl 0 rfl) ?_
  refine g_bipush hx hb dX4_init_21 (by decide) ?_
  refine g_size hM (by omega) (by omega) (fun hz => ?_)
  refine g_newaI hx hb hts u_74 hK hM hz (a := h + 3) (by omega) 6 (by omega) (by decide) (by decide) (by decide) dX4_init_23 (fun f15 H hM _ ho17 o16 => ?_)
  clear hz
  have hf18 : f15 (h) = .inr (6, [.ref (h + 1), .ref (h + 2), .null, .null, .null, .int (zI 0)]) := (o16 (h) (by first | exact ad_ne (by decide) | exact ad_n0 (by decide) | exact ad_0n (by decide) | exact ad_lt hq | exact ad_l0 hq | omega)).trans hf14
  refine g_putF (ci := 6) (v := .ref (h + 3)) (ty := .array .int) (C := RX4) (T := TX4) (N := 6) hx hb hts iU_X4 tyX4 tyX4_ok nmX4 hown hK hM ⟨by omega, by omega⟩ hf18 rfl 2 (by decide) (hts _ u_108) (fun _ h9 => h9) rfl hin rfl (by decide +kernel) rfl rfl (Nat.le_of_ble_eq_true rfl) dX4_init_25 (fun f19 H locs hM hf21 o20 => ?_)
  have hf21 : f19 (h) = .inr (6, [.ref (h + 1), .ref (h + 2), .ref (h + 3), .null, .null, .int (zI 0)]) := hf21
  refine lv_aload_n hx hb dX4_init_28 rfl (lv_at hl 0 rfl) ?_
  refine g_bipush hx hb dX4_init_29 (by decide) ?_
  refine g_size hM (by omega) (by omega) (fun hz => ?_)
  refine g_newaI hx hb hts u_74 hK hM hz (a := h + 4) (by omega) 6 (by omega) (by decide) (by decide) (by decide) dX4_init_31 (fun f22 H hM _ ho24 o23 => ?_)
  clear hz
  have hf25 : f22 (h) = .inr (6, [.ref (h + 1), .ref (h + 2), .ref (h + 3), .null, .null, .int (zI 0)]) := (o23 (h) (by first | exact ad_ne (by decide) | exact ad_n0 (by decide) | exact ad_0n (by decide) | exact ad_lt hq | exact ad_l0 hq | omega)).trans hf21
  refine g_putF (ci := 6) (v := .ref (h + 4)) (ty := .array .int) (C := RX4) (T := TX4) (N := 6) hx hb hts iU_X4 tyX4 tyX4_ok nmX4 hown hK hM ⟨by omega, by omega⟩ hf25 rfl 3 (by decide) (hts _ u_110) (fun _ h9 => h9) rfl hin rfl (by decide +kernel) rfl rfl (Nat.le_of_ble_eq_true rfl) dX4_init_33 (fun f26 H locs hM hf28 o27 => ?_)
  have hf28 : f26 (h) = .inr (6, [.ref (h + 1), .ref (h + 2), .ref (h + 3), .ref (h + 4), .null, .int (zI 0)]) := hf28
  refine lv_aload_n hx hb dX4_init_36 rfl (lv_at hl 0 rfl) ?_
  refine g_bipush hx hb dX4_init_37 (by decide) ?_
  refine g_size hM (by omega) (by omega) (fun hz => ?_)
  refine g_newaJ hx hb hts u_73 hK hM hz (a := h + 5) (by omega) 6 (by omega) (by decide) (by decide) (by decide) dX4_init_39 (fun f29 H hM _ ho31 o30 => ?_)
  clear hz
  have hf32 : f29 (h) = .inr (6, [.ref (h + 1), .ref (h + 2), .ref (h + 3), .ref (h + 4), .null, .int (zI 0)]) := (o30 (h) (by first | exact ad_ne (by decide) | exact ad_n0 (by decide) | exact ad_0n (by decide) | exact ad_lt hq | exact ad_l0 hq | omega)).trans hf28
  refine g_putF (ci := 6) (v := .ref (h + 5)) (ty := .array .long) (C := RX4) (T := TX4) (N := 6) hx hb hts iU_X4 tyX4 tyX4_ok nmX4 hown hK hM ⟨by omega, by omega⟩ hf32 rfl 4 (by decide) (hts _ u_112) (fun _ h9 => h9) rfl hin rfl (by decide +kernel) rfl rfl (Nat.le_of_ble_eq_true rfl) dX4_init_41 (fun f33 H locs hM hf35 o34 => ?_)
  have hf35 : f33 (h) = .inr (6, [.ref (h + 1), .ref (h + 2), .ref (h + 3), .ref (h + 4), .ref (h + 5), .int (zI 0)]) := hf35
  have hf36 := ho3.kept ((o34 (h + 1) (by first | exact ad_ne (by decide) | exact ad_n0 (by decide) | exact ad_0n (by decide) | exact ad_lt hq | exact ad_l0 hq | omega)).trans ((o30 (h + 1) (by first | exact ad_ne (by decide) | exact ad_n0 (by decide) | exact ad_0n (by decide) | exact ad_lt hq | exact ad_l0 hq | omega)).trans ((o27 (h + 1) (by first | exact ad_ne (by decide) | exact ad_n0 (by decide) | exact ad_0n (by decide) | exact ad_lt hq | exact ad_l0 hq | omega)).trans ((o23 (h + 1) (by first | exact ad_ne (by decide) | exact ad_n0 (by decide) | exact ad_0n (by decide) | exact ad_lt hq | exact ad_l0 hq | omega)).trans ((o20 (h + 1) (by first | exact ad_ne (by decide) | exact ad_n0 (by decide) | exact ad_0n (by decide) | exact ad_lt hq | exact ad_l0 hq | omega)).trans ((o16 (h + 1) (by first | exact ad_ne (by decide) | exact ad_n0 (by decide) | exact ad_0n (by decide) | exact ad_lt hq | exact ad_l0 hq | omega)).trans ((o13 (h + 1) (by first | exact ad_ne (by decide) | exact ad_n0 (by decide) | exact ad_0n (by decide) | exact ad_lt hq | exact ad_l0 hq | omega)).trans ((o9 (h + 1) (by first | exact ad_ne (by decide) | exact ad_n0 (by decide) | exact ad_0n (by decide) | exact ad_lt hq | exact ad_l0 hq | omega)).trans (o6 (h + 1) (by first | exact ad_ne (by decide) | exact ad_n0 (by decide) | exact ad_0n (by decide) | exact ad_lt hq | exact ad_l0 hq | omega))))))))))
  have hf37 := ho10.kept ((o34 (h + 2) (by first | exact ad_ne (by decide) | exact ad_n0 (by decide) | exact ad_0n (by decide) | exact ad_lt hq | exact ad_l0 hq | omega)).trans ((o30 (h + 2) (by first | exact ad_ne (by decide) | exact ad_n0 (by decide) | exact ad_0n (by decide) | exact ad_lt hq | exact ad_l0 hq | omega)).trans ((o27 (h + 2) (by first | exact ad_ne (by decide) | exact ad_n0 (by decide) | exact ad_0n (by decide) | exact ad_lt hq | exact ad_l0 hq | omega)).trans ((o23 (h + 2) (by first | exact ad_ne (by decide) | exact ad_n0 (by decide) | exact ad_0n (by decide) | exact ad_lt hq | exact ad_l0 hq | omega)).trans ((o20 (h + 2) (by first | exact ad_ne (by decide) | exact ad_n0 (by decide) | exact ad_0n (by decide) | exact ad_lt hq | exact ad_l0 hq | omega)).trans ((o16 (h + 2) (by first | exact ad_ne (by decide) | exact ad_n0 (by decide) | exact ad_0n (by decide) | exact ad_lt hq | exact ad_l0 hq | omega)).trans (o13 (h + 2) (by first | exact ad_ne (by decide) | exact ad_n0 (by decide) | exact ad_0n (by decide) | exact ad_lt hq | exact ad_l0 hq | omega))))))))
  have hf38 := ho17.kept ((o34 (h + 3) (by first | exact ad_ne (by decide) | exact ad_n0 (by decide) | exact ad_0n (by decide) | exact ad_lt hq | exact ad_l0 hq | omega)).trans ((o30 (h + 3) (by first | exact ad_ne (by decide) | exact ad_n0 (by decide) | exact ad_0n (by decide) | exact ad_lt hq | exact ad_l0 hq | omega)).trans ((o27 (h + 3) (by first | exact ad_ne (by decide) | exact ad_n0 (by decide) | exact ad_0n (by decide) | exact ad_lt hq | exact ad_l0 hq | omega)).trans ((o23 (h + 3) (by first | exact ad_ne (by decide) | exact ad_n0 (by decide) | exact ad_0n (by decide) | exact ad_lt hq | exact ad_l0 hq | omega)).trans (o20 (h + 3) (by first | exact ad_ne (by decide) | exact ad_n0 (by decide) | exact ad_0n (by decide) | exact ad_lt hq | exact ad_l0 hq | omega))))))
  have hf39 := ho24.kept ((o34 (h + 4) (by first | exact ad_ne (by decide) | exact ad_n0 (by decide) | exact ad_0n (by decide) | exact ad_lt hq | exact ad_l0 hq | omega)).trans ((o30 (h + 4) (by first | exact ad_ne (by decide) | exact ad_n0 (by decide) | exact ad_0n (by decide) | exact ad_lt hq | exact ad_l0 hq | omega)).trans (o27 (h + 4) (by first | exact ad_ne (by decide) | exact ad_n0 (by decide) | exact ad_0n (by decide) | exact ad_lt hq | exact ad_l0 hq | omega))))
  have hf40 := ho31.kept (o34 (h + 5) (by first | exact ad_ne (by decide) | exact ad_n0 (by decide) | exact ad_0n (by decide) | exact ad_lt hq | exact ad_l0 hq | omega))
  refine g_size hM (by omega) (by omega) (fun hz => ?_)
  refine g_nret hx hb hr hlk hK hM hz dX4_init_44 ?_
  exact ⟨⟨hf35, hf36, hf37, hf38, hf39, hf40⟩, (fun q hq => ((o34 (q) (by first | exact ad_ne (by decide) | exact ad_n0 (by decide) | exact ad_0n (by decide) | exact ad_lt hq | exact ad_l0 hq | omega)).trans ((o30 (q) (by first | exact ad_ne (by decide) | exact ad_n0 (by decide) | exact ad_0n (by decide) | exact ad_lt hq | exact ad_l0 hq | omega)).trans ((o27 (q) (by first | exact ad_ne (by decide) | exact ad_n0 (by decide) | exact ad_0n (by decide) | exact ad_lt hq | exact ad_l0 hq | omega)).trans ((o23 (q) (by first | exact ad_ne (by decide) | exact ad_n0 (by decide) | exact ad_0n (by decide) | exact ad_lt hq | exact ad_l0 hq | omega)).trans ((o20 (q) (by first | exact ad_ne (by decide) | exact ad_n0 (by decide) | exact ad_0n (by decide) | exact ad_lt hq | exact ad_l0 hq | omega)).trans ((o16 (q) (by first | exact ad_ne (by decide) | exact ad_n0 (by decide) | exact ad_0n (by decide) | exact ad_lt hq | exact ad_l0 hq | omega)).trans ((o13 (q) (by first | exact ad_ne (by decide) | exact ad_n0 (by decide) | exact ad_0n (by decide) | exact ad_lt hq | exact ad_l0 hq | omega)).trans ((o9 (q) (by first | exact ad_ne (by decide) | exact ad_n0 (by decide) | exact ad_0n (by decide) | exact ad_lt hq | exact ad_l0 hq | omega)).trans ((o6 (q) (by first | exact ad_ne (by decide) | exact ad_n0 (by decide) | exact ad_0n (by decide) | exact ad_lt hq | exact ad_l0 hq | omega)).trans (o2 (q) (by first | exact ad_ne (by decide) | exact ad_n0 (by decide) | exact ad_0n (by decide) | exact ad_lt hq | exact ad_l0 hq | omega))))))))))))⟩

def po_X3_init (g : gE) (f : gF) (h : Nat) : gF → Prop := fun f1 => itemAt g f1 h (fun _ => 0) ∧ ∀ q, q < h → f1 q = f q
set_option maxRecDepth 100000 in
set_option maxHeartbeats 4000000 in
/-- X3.<init> -/
theorem c_X3_init (l : Launch) (g : gE) (b0 n : Nat) (f : gF) (h : Nat) (hb0 : b0 ≤ h) (hna : h + 1 = b0 + n) (hO : f h = .inr (5, [.null, .null, .null, .null, .null, .null, .int (zI 0)])) : cN l yX3_init cX3_init 1 1 12 6 48 [.ref h] g b0 n (n + 6) f (po_X3_init g f h) := by
  refine gs_n (cc := cX3_init) (maxL := 1) (by decide) (Nat.le_of_ble_eq_true rfl) ?_
  intro p e0 s m args below meth c ls hx hb hr hml hown hin hts hlk hK hM hz0 hl
  have hl : lv_has ls 1 [(0, .ref h)] := hl
  refine lv_aload_n hx hb dX3_init_0 rfl (lv_at hl 0 rfl) ?_
  refine W.objInit hx hb hown (hts _ u_134) (hts _ u_30) (hts _ u_31) rfl (by rw [hml]; exact hl.1) rfl dX3_init_1 (Nat.le_of_ble_eq_true rfl) (Nat.le_of_ble_eq_true rfl) ?_
  refine W.eq (g2 := F0 m 4 ls []) rfl ?_
  refine lv_aload_n hx hb dX3_init_4 rfl (lv_at hl 0 rfl) ?_
  refine g_bipush hx hb dX3_init_5 (by decide) ?_
  refine g_size hM (by omega) (by omega) (fun hz => ?_)
  refine g_newaI hx hb hts u_74 hK hM hz (a := h + 1) (by omega) 8 (by omega) (by decide) (by decide) (by decide) dX3_init_7 (fun f1 H hM _ ho3 o2 => ?_)
  clear hz
  have hf4 : f1 (h) = .inr (5, [.null, .null, .null, .null, .null, .null, .int (zI 0)]) := (o2 (h) (by first | exact ad_ne (by decide) | exact ad_n0 (by decide) | exact ad_0n (by decide) | exact ad_lt hq | exact ad_l0 hq | omega)).trans hO
  refine g_putF (ci := 5) (v := .ref (h + 1)) (ty := .array .int) (C := RX3) (T := TX3) (N := 7) hx hb hts iU_X3 tyX3 tyX3_ok nmX3 hown hK hM ⟨by omega, by omega⟩ hf4 rfl 0 (by decide) (hts _ u_135) (fun _ h9 => h9) rfl hin rfl (by decide +kernel) rfl rfl (Nat.le_of_ble_eq_true rfl) dX3_init_9 (fun f5 H locs hM hf7 o6 => ?_)
  have hf7 : f5 (h) = .inr (5, [.ref (h + 1), .null, .null, .null, .null, .null, .int (zI 0)]) := hf7
  refine lv_aload_n hx hb dX3_init_12 rfl (lv_at hl 0 rfl) ?_
  refine g_bipush hx hb dX3_init_13 (by decide) ?_
  refine g_size hM (by omega) (by omega) (fun hz => ?_)
  refine g_newaI hx hb hts u_74 hK hM hz (a := h + 2) (by omega) 8 (by omega) (by decide) (by decide) (by decide) dX3_init_15 (fun f8 H hM _ ho10 o9 => ?_)
  clear hz
  have hf11 : f8 (h) = .inr (5, [.ref (h + 1), .null, .null, .null, .null, .null, .int (zI 0)]) := (o9 (h) (by first | exact ad_ne (by decide) | exact ad_n0 (by decide) | exact ad_0n (by decide) | exact ad_lt hq | exact ad_l0 hq | omega)).trans hf7
  refine g_putF (ci := 5) (v := .ref (h + 2)) (ty := .array .int) (C := RX3) (T := TX3) (N := 7) hx hb hts iU_X3 tyX3 tyX3_ok nmX3 hown hK hM ⟨by omega, by omega⟩ hf11 rfl 1 (by decide) (hts _ u_137) (fun _ h9 => h9) rfl hin rfl (by decide +kernel) rfl rfl (Nat.le_of_ble_eq_true rfl) dX3_init_17 (fun f12 H locs hM hf14 o13 => ?_)
  have hf14 : f12 (h) = .inr (5, [.ref (h + 1), .ref (h + 2), .null, .null, .null, .null, .int (zI 0)]) := hf14
  refine lv_aload_n hx hb dX3_init_20 rfl (lv_at hl 0 rfl) ?_
  refine g_bipush hx hb dX3_init_21 (by decide) ?_
  refine g_size hM (by omega) (by omega) (fun hz => ?_)
  refine g_newaI hx hb hts u_74 hK hM hz (a := h + 3) (by omega) 8 (by omega) (by decide) (by decide) (by decide) dX3_init_23 (fun f15 H hM _ ho17 o16 => ?_)
  clear hz
  have hf18 : f15 (h) = .inr (5, [.ref (h + 1), .ref (h + 2), .null, .null, .null, .null, .int (zI 0)]) := (o16 (h) (by first | exact ad_ne (by decide) | exact ad_n0 (by decide) | exact ad_0n (by decide) | exact ad_lt hq | exact ad_l0 hq | omega)).trans hf14
  refine g_putF (ci := 5) (v := .ref (h + 3)) (ty := .array .int) (C := RX3) (T := TX3) (N := 7) hx hb hts iU_X3 tyX3 tyX3_ok nmX3 hown hK hM ⟨by omega, by omega⟩ hf18 rfl 2 (by decide) (hts _ u_139) (fun _ h9 => h9) rfl hin rfl (by decide +kernel) rfl rfl (Nat.le_of_ble_eq_true rfl) dX3_init_25 (fun f19 H locs hM hf21 o20 => ?_)
  have hf21 : f19 (h) = .inr (5, [.ref (h + 1), .ref (h + 2), .ref (h + 3), .null, .null, .null, .int (zI 0)]) := hf21
  refine lv_aload_n hx hb dX3_init_28 rfl (lv_at hl 0 rfl) ?_
  refine g_bipush hx hb dX3_init_29 (by decide) ?_
  refine g_size hM (by omega) (by omega) (fun hz => ?_)
  refine g_newaI hx hb hts u_74 hK hM hz (a := h + 4) (by omega) 8 (by omega) (by decide) (by decide) (by decide) dX3_init_31 (fun f22 H hM _ ho24 o23 => ?_)
  clear hz
  have hf25 : f22 (h) = .inr (5, [.ref (h + 1), .ref (h + 2), .ref (h + 3), .null, .null, .null, .int (zI 0)]) := (o23 (h) (by first | exact ad_ne (by decide) | exact ad_n0 (by decide) | exact ad_0n (by decide) | exact ad_lt hq | exact ad_l0 hq | omega)).trans hf21
  refine g_putF (ci := 5) (v := .ref (h + 4)) (ty := .array .int) (C := RX3) (T := TX3) (N := 7) hx hb hts iU_X3 tyX3 tyX3_ok nmX3 hown hK hM ⟨by omega, by omega⟩ hf25 rfl 3 (by decide) (hts _ u_141) (fun _ h9 => h9) rfl hin rfl (by decide +kernel) rfl rfl (Nat.le_of_ble_eq_true rfl) dX3_init_33 (fun f26 H locs hM hf28 o27 => ?_)
  have hf28 : f26 (h) = .inr (5, [.ref (h + 1), .ref (h + 2), .ref (h + 3), .ref (h + 4), .null, .null, .int (zI 0)]) := hf28
  refine lv_aload_n hx hb dX3_init_36 rfl (lv_at hl 0 rfl) ?_
  refine g_bipush hx hb dX3_init_37 (by decide) ?_
  refine g_size hM (by omega) (by omega) (fun hz => ?_)
  refine g_newaI hx hb hts u_74 hK hM hz (a := h + 5) (by omega) 8 (by omega) (by decide) (by decide) (by decide) dX3_init_39 (fun f29 H hM _ ho31 o30 => ?_)
  clear hz
  have hf32 : f29 (h) = .inr (5, [.ref (h + 1), .ref (h + 2), .ref (h + 3), .ref (h + 4), .null, .null, .int (zI 0)]) := (o30 (h) (by first | exact ad_ne (by decide) | exact ad_n0 (by decide) | exact ad_0n (by decide) | exact ad_lt hq | exact ad_l0 hq | omega)).trans hf28
  refine g_putF (ci := 5) (v := .ref (h + 5)) (ty := .array .int) (C := RX3) (T := TX3) (N := 7) hx hb hts iU_X3 tyX3 tyX3_ok nmX3 hown hK hM ⟨by omega, by omega⟩ hf32 rfl 4 (by decide) (hts _ u_143) (fun _ h9 => h9) rfl hin rfl (by decide +kernel) rfl rfl (Nat.le_of_ble_eq_true rfl) dX3_init_41 (fun f33 H locs hM hf35 o34 => ?_)
  have hf35 : f33 (h) = .inr (5, [.ref (h + 1), .ref (h + 2), .ref (h + 3), .ref (h + 4), .ref (h + 5), .null, .int (zI 0)]) := hf35
  refine lv_aload_n hx hb dX3_init_44 rfl (lv_at hl 0 rfl) ?_
  refine g_bipush hx hb dX3_init_45 (by decide) ?_
  refine g_size hM (by omega) (by omega) (fun hz => ?_)
  refine g_newaI hx hb hts u_74 hK hM hz (a := h + 6) (by omega) 8 (by omega) (by decide) (by decide) (by decide) dX3_init_47 (fun f36 H hM _ ho38 o37 => ?_)
  clear hz
  have hf39 : f36 (h) = .inr (5, [.ref (h + 1), .ref (h + 2), .ref (h + 3), .ref (h + 4), .ref (h + 5), .null, .int (zI 0)]) := (o37 (h) (by first | exact ad_ne (by decide) | exact ad_n0 (by decide) | exact ad_0n (by decide) | exact ad_lt hq | exact ad_l0 hq | omega)).trans hf35
  refine g_putF (ci := 5) (v := .ref (h + 6)) (ty := .array .int) (C := RX3) (T := TX3) (N := 7) hx hb hts iU_X3 tyX3 tyX3_ok nmX3 hown hK hM ⟨by omega, by omega⟩ hf39 rfl 5 (by decide) (hts _ u_145) (fun _ h9 => h9) rfl hin rfl (by decide +kernel) rfl rfl (Nat.le_of_ble_eq_true rfl) dX3_init_49 (fun f40 H locs hM hf42 o41 => ?_)
  have hf42 : f40 (h) = .inr (5, [.ref (h + 1), .ref (h + 2), .ref (h + 3), .ref (h + 4), .ref (h + 5), .ref (h + 6), .int (zI 0)]) := hf42
  have hf43 := ho3.kept ((o41 (h + 1) (by first | exact ad_ne (by decide) | exact ad_n0 (by decide) | exact ad_0n (by decide) | exact ad_lt hq | exact ad_l0 hq | omega)).trans ((o37 (h + 1) (by first | exact ad_ne (by decide) | exact ad_n0 (by decide) | exact ad_0n (by decide) | exact ad_lt hq | exact ad_l0 hq | omega)).trans ((o34 (h + 1) (by first | exact ad_ne (by decide) | exact ad_n0 (by decide) | exact ad_0n (by decide) | exact ad_lt hq | exact ad_l0 hq | omega)).trans ((o30 (h + 1) (by first | exact ad_ne (by decide) | exact ad_n0 (by decide) | exact ad_0n (by decide) | exact ad_lt hq | exact ad_l0 hq | omega)).trans ((o27 (h + 1) (by first | exact ad_ne (by decide) | exact ad_n0 (by decide) | exact ad_0n (by decide) | exact ad_lt hq | exact ad_l0 hq | omega)).trans ((o23 (h + 1) (by first | exact ad_ne (by decide) | exact ad_n0 (by decide) | exact ad_0n (by decide) | exact ad_lt hq | exact ad_l0 hq | omega)).trans ((o20 (h + 1) (by first | exact ad_ne (by decide) | exact ad_n0 (by decide) | exact ad_0n (by decide) | exact ad_lt hq | exact ad_l0 hq | omega)).trans ((o16 (h + 1) (by first | exact ad_ne (by decide) | exact ad_n0 (by decide) | exact ad_0n (by decide) | exact ad_lt hq | exact ad_l0 hq | omega)).trans ((o13 (h + 1) (by first | exact ad_ne (by decide) | exact ad_n0 (by decide) | exact ad_0n (by decide) | exact ad_lt hq | exact ad_l0 hq | omega)).trans ((o9 (h + 1) (by first | exact ad_ne (by decide) | exact ad_n0 (by decide) | exact ad_0n (by decide) | exact ad_lt hq | exact ad_l0 hq | omega)).trans (o6 (h + 1) (by first | exact ad_ne (by decide) | exact ad_n0 (by decide) | exact ad_0n (by decide) | exact ad_lt hq | exact ad_l0 hq | omega))))))))))))
  have hf44 := ho10.kept ((o41 (h + 2) (by first | exact ad_ne (by decide) | exact ad_n0 (by decide) | exact ad_0n (by decide) | exact ad_lt hq | exact ad_l0 hq | omega)).trans ((o37 (h + 2) (by first | exact ad_ne (by decide) | exact ad_n0 (by decide) | exact ad_0n (by decide) | exact ad_lt hq | exact ad_l0 hq | omega)).trans ((o34 (h + 2) (by first | exact ad_ne (by decide) | exact ad_n0 (by decide) | exact ad_0n (by decide) | exact ad_lt hq | exact ad_l0 hq | omega)).trans ((o30 (h + 2) (by first | exact ad_ne (by decide) | exact ad_n0 (by decide) | exact ad_0n (by decide) | exact ad_lt hq | exact ad_l0 hq | omega)).trans ((o27 (h + 2) (by first | exact ad_ne (by decide) | exact ad_n0 (by decide) | exact ad_0n (by decide) | exact ad_lt hq | exact ad_l0 hq | omega)).trans ((o23 (h + 2) (by first | exact ad_ne (by decide) | exact ad_n0 (by decide) | exact ad_0n (by decide) | exact ad_lt hq | exact ad_l0 hq | omega)).trans ((o20 (h + 2) (by first | exact ad_ne (by decide) | exact ad_n0 (by decide) | exact ad_0n (by decide) | exact ad_lt hq | exact ad_l0 hq | omega)).trans ((o16 (h + 2) (by first | exact ad_ne (by decide) | exact ad_n0 (by decide) | exact ad_0n (by decide) | exact ad_lt hq | exact ad_l0 hq | omega)).trans (o13 (h + 2) (by first | exact ad_ne (by decide) | exact ad_n0 (by decide) | exact ad_0n (by decide) | exact ad_lt hq | exact ad_l0 hq | omega))))))))))
  have hf45 := ho17.kept ((o41 (h + 3) (by first | exact ad_ne (by decide) | exact ad_n0 (by decide) | exact ad_0n (by decide) | exact ad_lt hq | exact ad_l0 hq | omega)).trans ((o37 (h + 3) (by first | exact ad_ne (by decide) | exact ad_n0 (by decide) | exact ad_0n (by decide) | exact ad_lt hq | exact ad_l0 hq | omega)).trans ((o34 (h + 3) (by first | exact ad_ne (by decide) | exact ad_n0 (by decide) | exact ad_0n (by decide) | exact ad_lt hq | exact ad_l0 hq | omega)).trans ((o30 (h + 3) (by first | exact ad_ne (by decide) | exact ad_n0 (by decide) | exact ad_0n (by decide) | exact ad_lt hq | exact ad_l0 hq | omega)).trans ((o27 (h + 3) (by first | exact ad_ne (by decide) | exact ad_n0 (by decide) | exact ad_0n (by decide) | exact ad_lt hq | exact ad_l0 hq | omega)).trans ((o23 (h + 3) (by first | exact ad_ne (by decide) | exact ad_n0 (by decide) | exact ad_0n (by decide) | exact ad_lt hq | exact ad_l0 hq | omega)).trans (o20 (h + 3) (by first | exact ad_ne (by decide) | exact ad_n0 (by decide) | exact ad_0n (by decide) | exact ad_lt hq | exact ad_l0 hq | omega))))))))
  have hf46 := ho24.kept ((o41 (h + 4) (by first | exact ad_ne (by decide) | exact ad_n0 (by decide) | exact ad_0n (by decide) | exact ad_lt hq | exact ad_l0 hq | omega)).trans ((o37 (h + 4) (by first | exact ad_ne (by decide) | exact ad_n0 (by decide) | exact ad_0n (by decide) | exact ad_lt hq | exact ad_l0 hq | omega)).trans ((o34 (h + 4) (by first | exact ad_ne (by decide) | exact ad_n0 (by decide) | exact ad_0n (by decide) | exact ad_lt hq | exact ad_l0 hq | omega)).trans ((o30 (h + 4) (by first | exact ad_ne (by decide) | exact ad_n0 (by decide) | exact ad_0n (by decide) | exact ad_lt hq | exact ad_l0 hq | omega)).trans (o27 (h + 4) (by first | exact ad_ne (by decide) | exact ad_n0 (by decide) | exact ad_0n (by decide) | exact ad_lt hq | exact ad_l0 hq | omega))))))
  have hf47 := ho31.kept ((o41 (h + 5) (by first | exact ad_ne (by decide) | exact ad_n0 (by decide) | exact ad_0n (by decide) | exact ad_lt hq | exact ad_l0 hq | omega)).trans ((o37 (h + 5) (by first | exact ad_ne (by decide) | exact ad_n0 (by decide) | exact ad_0n (by decide) | exact ad_lt hq | exact ad_l0 hq | omega)).trans (o34 (h + 5) (by first | exact ad_ne (by decide) | exact ad_n0 (by decide) | exact ad_0n (by decide) | exact ad_lt hq | exact ad_l0 hq | omega))))
  have hf48 := ho38.kept (o41 (h + 6) (by first | exact ad_ne (by decide) | exact ad_n0 (by decide) | exact ad_0n (by decide) | exact ad_lt hq | exact ad_l0 hq | omega))
  refine g_size hM (by omega) (by omega) (fun hz => ?_)
  refine g_nret hx hb hr hlk hK hM hz dX3_init_52 ?_
  exact ⟨⟨hf42, hf43, hf44, hf45, hf46, hf47, hf48⟩, (fun q hq => ((o41 (q) (by first | exact ad_ne (by decide) | exact ad_n0 (by decide) | exact ad_0n (by decide) | exact ad_lt hq | exact ad_l0 hq | omega)).trans ((o37 (q) (by first | exact ad_ne (by decide) | exact ad_n0 (by decide) | exact ad_0n (by decide) | exact ad_lt hq | exact ad_l0 hq | omega)).trans ((o34 (q) (by first | exact ad_ne (by decide) | exact ad_n0 (by decide) | exact ad_0n (by decide) | exact ad_lt hq | exact ad_l0 hq | omega)).trans ((o30 (q) (by first | exact ad_ne (by decide) | exact ad_n0 (by decide) | exact ad_0n (by decide) | exact ad_lt hq | exact ad_l0 hq | omega)).trans ((o27 (q) (by first | exact ad_ne (by decide) | exact ad_n0 (by decide) | exact ad_0n (by decide) | exact ad_lt hq | exact ad_l0 hq | omega)).trans ((o23 (q) (by first | exact ad_ne (by decide) | exact ad_n0 (by decide) | exact ad_0n (by decide) | exact ad_lt hq | exact ad_l0 hq | omega)).trans ((o20 (q) (by first | exact ad_ne (by decide) | exact ad_n0 (by decide) | exact ad_0n (by decide) | exact ad_lt hq | exact ad_l0 hq | omega)).trans ((o16 (q) (by first | exact ad_ne (by decide) | exact ad_n0 (by decide) | exact ad_0n (by decide) | exact ad_lt hq | exact ad_l0 hq | omega)).trans ((o13 (q) (by first | exact ad_ne (by decide) | exact ad_n0 (by decide) | exact ad_0n (by decide) | exact ad_lt hq | exact ad_l0 hq | omega)).trans ((o9 (q) (by first | exact ad_ne (by decide) | exact ad_n0 (by decide) | exact ad_0n (by decide) | exact ad_lt hq | exact ad_l0 hq | omega)).trans ((o6 (q) (by first | exact ad_ne (by decide) | exact ad_n0 (by decide) | exact ad_0n (by decide) | exact ad_lt hq | exact ad_l0 hq | omega)).trans (o2 (q) (by first | exact ad_ne (by decide) | exact ad_n0 (by decide) | exact ad_0n (by decide) | exact ad_lt hq | exact ad_l0 hq | omega))))))))))))))⟩

def po_X5_init (g : gE) (f : gF) (h : Nat) : gF → Prop := fun f1 => planAt g f1 h (fun _ => 0) ∧ ∀ q, q < h → f1 q = f q
set_option maxRecDepth 100000 in
set_option maxHeartbeats 4000000 in
/-- X5.<init> -/
theorem c_X5_init (l : Launch) (g : gE) (b0 n : Nat) (f : gF) (h : Nat) (hb0 : b0 ≤ h) (hna : h + 1 = b0 + n) (hO : f h = .inr (7, [.null, .null, .null, .null, .long (zL 0), .int (zI 0), .long (zL 0), .long (zL 0), .int (zI 0), .long (zL 0), .long (zL 0)])) : cN l yX5_init cX5_init 1 2 32 22 158 [.ref h] g b0 n (n + 22) f (po_X5_init g f h) := by
  refine gs_n (cc := cX5_init) (maxL := 1) (by decide) (Nat.le_of_ble_eq_true rfl) ?_
  intro p e0 s m args below meth c ls hx hb hr hml hown hin hts hlk hK hM hz0 hl
  have hl : lv_has ls 1 [(0, .ref h)] := hl
  refine lv_aload_n hx hb dX5_init_0 rfl (lv_at hl 0 rfl) ?_
  refine W.objInit hx hb hown (hts _ u_49) (hts _ u_30) (hts _ u_31) rfl (by rw [hml]; exact hl.1) rfl dX5_init_1 (Nat.le_of_ble_eq_true rfl) (Nat.le_of_ble_eq_true rfl) ?_
  refine W.eq (g2 := F0 m 4 ls []) rfl ?_
  refine lv_aload_n hx hb dX5_init_4 rfl (lv_at hl 0 rfl) ?_
  refine g_size hM (by omega) (by omega) (fun hz => ?_)
  refine g_new (ci := 4) (C := RX2) (T := TX2) (N := 5) (a := h + 1) hx hb hts iU_X2 tyX2 tyX2_ok hown u_50 u_51 u_5 hK hM hz (by omega) rfl [.null, .null, .null, .null, .int (zI 0)] (by decide +kernel) (by decide) (by decide) dX5_init_5 (fun f1 H hM _ ho3 o2 => ?_)
  clear hz
  refine lv_dup hx hb dX5_init_8 rfl ?_
  refine g_size hM (by omega) (by omega) (fun hz => ?_)
  have hC4 := c_X2_init l g b0 (n + 1) f1 (h + 1) (by omega) (by omega) ho3
  refine g_callIN (As := []) (rest := [.ref (h + 1), .ref h]) ⟨hx, hb, hml, hown, hts⟩ hK hM hz hC4 (cuIN (k := 0) hts u_54 u_52 u_5 (by decide) u_53 ⟨Nat.le_of_ble_eq_true rfl, Nat.le_of_ble_eq_true rfl⟩ rfl) rfl hl.1 rfl (Nat.le_of_ble_eq_true rfl) dX5_init_9 ⟨Nat.le_of_ble_eq_true rfl, Nat.le_of_ble_eq_true rfl⟩ (fun f5 H locs hM hp6 => ?_)
  clear hz
  obtain ⟨hn7, o8⟩ := hp6
  have hf9 : f5 (h) = .inr (7, [.null, .null, .null, .null, .long (zL 0), .int (zI 0), .long (zL 0), .long (zL 0), .int (zI 0), .long (zL 0), .long (zL 0)]) := ((o8 (h) (by omega)).trans (o2 (h) (by first | exact ad_ne (by decide) | exact ad_n0 (by decide) | exact ad_0n (by decide) | exact ad_lt hq | exact ad_l0 hq | omega))).trans hO
  refine g_putF (ci := 7) (v := .ref (h + 1)) (ty := .object "EnvelopePlanner$Envelopes") (C := RX5) (T := TX5) (N := 11) hx hb hts iU_X5 tyX5 tyX5_ok nmX5 hown hK hM ⟨by omega, by omega⟩ hf9 rfl 0 (by decide) (hts _ u_164) (fun _ h9 => h9) rfl hin rfl (by decide +kernel) rfl rfl (Nat.le_of_ble_eq_true rfl) dX5_init_12 (fun f10 H locs hM hf12 o11 => ?_)
  have hf12 : f10 (h) = .inr (7, [.ref (h + 1), .null, .null, .null, .long (zL 0), .int (zI 0), .long (zL 0), .long (zL 0), .int (zI 0), .long (zL 0), .long (zL 0)]) := hf12
  refine lv_aload_n hx hb dX5_init_15 rfl (lv_at hl 0 rfl) ?_
  refine g_size hM (by omega) (by omega) (fun hz => ?_)
  refine g_new (ci := 9) (C := RX7) (T := TX7) (N := 4) (a := h + 6) hx hb hts iU_X7 tyX7 tyX7_ok hown u_75 u_76 u_6 hK hM hz (by omega) rfl [.null, .null, .null, .int (zI 0)] (by decide +kernel) (by decide) (by decide) dX5_init_16 (fun f13 H hM _ ho15 o14 => ?_)
  clear hz
  refine lv_dup hx hb dX5_init_19 rfl ?_
  refine g_size hM (by omega) (by omega) (fun hz => ?_)
  have hC16 := c_X7_init l g b0 (n + 1 + 4 + 1) f13 (h + 6) (by omega) (by omega) ho15
  refine g_callIN (As := []) (rest := [.ref (h + 6), .ref h]) ⟨hx, hb, hml, hown, hts⟩ hK hM hz hC16 (cuIN (k := 0) hts u_79 u_77 u_6 (by decide) u_78 ⟨Nat.le_of_ble_eq_true rfl, Nat.le_of_ble_eq_true rfl⟩ rfl) rfl hl.1 rfl (Nat.le_of_ble_eq_true rfl) dX5_init_20 ⟨Nat.le_of_ble_eq_true rfl, Nat.le_of_ble_eq_true rfl⟩ (fun f17 H locs hM hp18 => ?_)
  clear hz
  obtain ⟨hn19, o20⟩ := hp18
  have hf21 : f17 (h) = .inr (7, [.ref (h + 1), .null, .null, .null, .long (zL 0), .int (zI 0), .long (zL 0), .long (zL 0), .int (zI 0), .long (zL 0), .long (zL 0)]) := ((o20 (h) (by omega)).trans (o14 (h) (by first | exact ad_ne (by decide) | exact ad_n0 (by decide) | exact ad_0n (by decide) | exact ad_lt hq | exact ad_l0 hq | omega))).trans hf12
  refine g_putF (ci := 7) (v := .ref (h + 6)) (ty := .object "EnvelopePlanner$Rules") (C := RX5) (T := TX5) (N := 11) hx hb hts iU_X5 tyX5 tyX5_ok nmX5 hown hK hM ⟨by omega, by omega⟩ hf21 rfl 1 (by decide) (hts _ u_166) (fun _ h9 => h9) rfl hin rfl (by decide +kernel) rfl rfl (Nat.le_of_ble_eq_true rfl) dX5_init_23 (fun f22 H locs hM hf24 o23 => ?_)
  have hf24 : f22 (h) = .inr (7, [.ref (h + 1), .ref (h + 6), .null, .null, .long (zL 0), .int (zI 0), .long (zL 0), .long (zL 0), .int (zI 0), .long (zL 0), .long (zL 0)]) := hf24
  refine lv_aload_n hx hb dX5_init_26 rfl (lv_at hl 0 rfl) ?_
  refine g_size hM (by omega) (by omega) (fun hz => ?_)
  refine g_new (ci := 6) (C := RX4) (T := TX4) (N := 6) (a := h + 10) hx hb hts iU_X4 tyX4 tyX4_ok hown u_98 u_99 u_7 hK hM hz (by omega) rfl [.null, .null, .null, .null, .null, .int (zI 0)] (by decide +kernel) (by decide) (by decide) dX5_init_27 (fun f25 H hM _ ho27 o26 => ?_)
  clear hz
  refine lv_dup hx hb dX5_init_30 rfl ?_
  refine g_size hM (by omega) (by omega) (fun hz => ?_)
  have hC28 := c_X4_init l g b0 (n + 1 + 4 + 1 + 3 + 1) f25 (h + 10) (by omega) (by omega) ho27
  refine g_callIN (As := []) (rest := [.ref (h + 10), .ref h]) ⟨hx, hb, hml, hown, hts⟩ hK hM hz hC28 (cuIN (k := 0) hts u_102 u_100 u_7 (by decide) u_101 ⟨Nat.le_of_ble_eq_true rfl, Nat.le_of_ble_eq_true rfl⟩ rfl) rfl hl.1 rfl (Nat.le_of_ble_eq_true rfl) dX5_init_31 ⟨Nat.le_of_ble_eq_true rfl, Nat.le_of_ble_eq_true rfl⟩ (fun f29 H locs hM hp30 => ?_)
  clear hz
  obtain ⟨hn31, o32⟩ := hp30
  have hf33 : f29 (h) = .inr (7, [.ref (h + 1), .ref (h + 6), .null, .null, .long (zL 0), .int (zI 0), .long (zL 0), .long (zL 0), .int (zI 0), .long (zL 0), .long (zL 0)]) := ((o32 (h) (by omega)).trans (o26 (h) (by first | exact ad_ne (by decide) | exact ad_n0 (by decide) | exact ad_0n (by decide) | exact ad_lt hq | exact ad_l0 hq | omega))).trans hf24
  refine g_putF (ci := 7) (v := .ref (h + 10)) (ty := .object "EnvelopePlanner$Links") (C := RX5) (T := TX5) (N := 11) hx hb hts iU_X5 tyX5 tyX5_ok nmX5 hown hK hM ⟨by omega, by omega⟩ hf33 rfl 2 (by decide) (hts _ u_168) (fun _ h9 => h9) rfl hin rfl (by decide +kernel) rfl rfl (Nat.le_of_ble_eq_true rfl) dX5_init_34 (fun f34 H locs hM hf36 o35 => ?_)
  have hf36 : f34 (h) = .inr (7, [.ref (h + 1), .ref (h + 6), .ref (h + 10), .null, .long (zL 0), .int (zI 0), .long (zL 0), .long (zL 0), .int (zI 0), .long (zL 0), .long (zL 0)]) := hf36
  refine lv_aload_n hx hb dX5_init_37 rfl (lv_at hl 0 rfl) ?_
  refine g_size hM (by omega) (by omega) (fun hz => ?_)
  refine g_new (ci := 5) (C := RX3) (T := TX3) (N := 7) (a := h + 16) hx hb hts iU_X3 tyX3 tyX3_ok hown u_129 u_130 u_8 hK hM hz (by omega) rfl [.null, .null, .null, .null, .null, .null, .int (zI 0)] (by decide +kernel) (by decide) (by decide) dX5_init_38 (fun f37 H hM _ ho39 o38 => ?_)
  clear hz
  refine lv_dup hx hb dX5_init_41 rfl ?_
  refine g_size hM (by omega) (by omega) (fun hz => ?_)
  have hC40 := c_X3_init l g b0 (n + 1 + 4 + 1 + 3 + 1 + 5 + 1) f37 (h + 16) (by omega) (by omega) ho39
  refine g_callIN (As := []) (rest := [.ref (h + 16), .ref h]) ⟨hx, hb, hml, hown, hts⟩ hK hM hz hC40 (cuIN (k := 0) hts u_133 u_131 u_8 (by decide) u_132 ⟨Nat.le_of_ble_eq_true rfl, Nat.le_of_ble_eq_true rfl⟩ rfl) rfl hl.1 rfl (Nat.le_of_ble_eq_true rfl) dX5_init_42 ⟨Nat.le_of_ble_eq_true rfl, Nat.le_of_ble_eq_true rfl⟩ (fun f41 H locs hM hp42 => ?_)
  clear hz
  obtain ⟨hn43, o44⟩ := hp42
  have hf45 : f41 (h) = .inr (7, [.ref (h + 1), .ref (h + 6), .ref (h + 10), .null, .long (zL 0), .int (zI 0), .long (zL 0), .long (zL 0), .int (zI 0), .long (zL 0), .long (zL 0)]) := ((o44 (h) (by omega)).trans (o38 (h) (by first | exact ad_ne (by decide) | exact ad_n0 (by decide) | exact ad_0n (by decide) | exact ad_lt hq | exact ad_l0 hq | omega))).trans hf36
  refine g_putF (ci := 7) (v := .ref (h + 16)) (ty := .object "EnvelopePlanner$Items") (C := RX5) (T := TX5) (N := 11) hx hb hts iU_X5 tyX5 tyX5_ok nmX5 hown hK hM ⟨by omega, by omega⟩ hf45 rfl 3 (by decide) (hts _ u_170) (fun _ h9 => h9) rfl hin rfl (by decide +kernel) rfl rfl (Nat.le_of_ble_eq_true rfl) dX5_init_45 (fun f46 H locs hM hf48 o47 => ?_)
  have hf48 : f46 (h) = .inr (7, [.ref (h + 1), .ref (h + 6), .ref (h + 10), .ref (h + 16), .long (zL 0), .int (zI 0), .long (zL 0), .long (zL 0), .int (zI 0), .long (zL 0), .long (zL 0)]) := hf48
  have hf49 := hn7.kept (fun q h1 h2 => ((o47 (q) (by first | exact ad_ne (by decide) | exact ad_n0 (by decide) | exact ad_0n (by decide) | exact ad_lt hq | exact ad_l0 hq | omega)).trans ((o44 (q) (by omega)).trans ((o38 (q) (by first | exact ad_ne (by decide) | exact ad_n0 (by decide) | exact ad_0n (by decide) | exact ad_lt hq | exact ad_l0 hq | omega)).trans ((o35 (q) (by first | exact ad_ne (by decide) | exact ad_n0 (by decide) | exact ad_0n (by decide) | exact ad_lt hq | exact ad_l0 hq | omega)).trans ((o32 (q) (by omega)).trans ((o26 (q) (by first | exact ad_ne (by decide) | exact ad_n0 (by decide) | exact ad_0n (by decide) | exact ad_lt hq | exact ad_l0 hq | omega)).trans ((o23 (q) (by first | exact ad_ne (by decide) | exact ad_n0 (by decide) | exact ad_0n (by decide) | exact ad_lt hq | exact ad_l0 hq | omega)).trans ((o20 (q) (by omega)).trans ((o14 (q) (by first | exact ad_ne (by decide) | exact ad_n0 (by decide) | exact ad_0n (by decide) | exact ad_lt hq | exact ad_l0 hq | omega)).trans (o11 (q) (by first | exact ad_ne (by decide) | exact ad_n0 (by decide) | exact ad_0n (by decide) | exact ad_lt hq | exact ad_l0 hq | omega))))))))))))
  have hf50 := hn19.kept (fun q h1 h2 => ((o47 (q) (by first | exact ad_ne (by decide) | exact ad_n0 (by decide) | exact ad_0n (by decide) | exact ad_lt hq | exact ad_l0 hq | omega)).trans ((o44 (q) (by omega)).trans ((o38 (q) (by first | exact ad_ne (by decide) | exact ad_n0 (by decide) | exact ad_0n (by decide) | exact ad_lt hq | exact ad_l0 hq | omega)).trans ((o35 (q) (by first | exact ad_ne (by decide) | exact ad_n0 (by decide) | exact ad_0n (by decide) | exact ad_lt hq | exact ad_l0 hq | omega)).trans ((o32 (q) (by omega)).trans ((o26 (q) (by first | exact ad_ne (by decide) | exact ad_n0 (by decide) | exact ad_0n (by decide) | exact ad_lt hq | exact ad_l0 hq | omega)).trans (o23 (q) (by first | exact ad_ne (by decide) | exact ad_n0 (by decide) | exact ad_0n (by decide) | exact ad_lt hq | exact ad_l0 hq | omega)))))))))
  have hf51 := hn31.kept (fun q h1 h2 => ((o47 (q) (by first | exact ad_ne (by decide) | exact ad_n0 (by decide) | exact ad_0n (by decide) | exact ad_lt hq | exact ad_l0 hq | omega)).trans ((o44 (q) (by omega)).trans ((o38 (q) (by first | exact ad_ne (by decide) | exact ad_n0 (by decide) | exact ad_0n (by decide) | exact ad_lt hq | exact ad_l0 hq | omega)).trans (o35 (q) (by first | exact ad_ne (by decide) | exact ad_n0 (by decide) | exact ad_0n (by decide) | exact ad_lt hq | exact ad_l0 hq | omega))))))
  have hf52 := hn43.kept (fun q h1 h2 => (o47 (q) (by first | exact ad_ne (by decide) | exact ad_n0 (by decide) | exact ad_0n (by decide) | exact ad_lt hq | exact ad_l0 hq | omega)))
  refine g_size hM (by omega) (by omega) (fun hz => ?_)
  refine g_nret hx hb hr hlk hK hM hz dX5_init_48 ?_
  exact ⟨⟨hf48, hf49, hf50, hf51, hf52⟩, (fun q hq => ((o47 (q) (by first | exact ad_ne (by decide) | exact ad_n0 (by decide) | exact ad_0n (by decide) | exact ad_lt hq | exact ad_l0 hq | omega)).trans ((o44 (q) (by omega)).trans ((o38 (q) (by first | exact ad_ne (by decide) | exact ad_n0 (by decide) | exact ad_0n (by decide) | exact ad_lt hq | exact ad_l0 hq | omega)).trans ((o35 (q) (by first | exact ad_ne (by decide) | exact ad_n0 (by decide) | exact ad_0n (by decide) | exact ad_lt hq | exact ad_l0 hq | omega)).trans ((o32 (q) (by omega)).trans ((o26 (q) (by first | exact ad_ne (by decide) | exact ad_n0 (by decide) | exact ad_0n (by decide) | exact ad_lt hq | exact ad_l0 hq | omega)).trans ((o23 (q) (by first | exact ad_ne (by decide) | exact ad_n0 (by decide) | exact ad_0n (by decide) | exact ad_lt hq | exact ad_l0 hq | omega)).trans ((o20 (q) (by omega)).trans ((o14 (q) (by first | exact ad_ne (by decide) | exact ad_n0 (by decide) | exact ad_0n (by decide) | exact ad_lt hq | exact ad_l0 hq | omega)).trans ((o11 (q) (by first | exact ad_ne (by decide) | exact ad_n0 (by decide) | exact ad_0n (by decide) | exact ad_lt hq | exact ad_l0 hq | omega)).trans ((o8 (q) (by omega)).trans (o2 (q) (by first | exact ad_ne (by decide) | exact ad_n0 (by decide) | exact ad_0n (by decide) | exact ad_lt hq | exact ad_l0 hq | omega))))))))))))))⟩

def po_X6_init (g : gE) (f : gF) (h : Nat) : gF → Prop := fun f1 => rdAt g f1 h (fun _ => 0) (fun _ => 0) 0 0 0 0 ∧ ∀ q, q < h → f1 q = f q
set_option maxRecDepth 100000 in
set_option maxHeartbeats 4000000 in
/-- X6.<init> -/
theorem c_X6_init (l : Launch) (g : gE) (b0 n : Nat) (f : gF) (h : Nat) (hb0 : b0 ≤ h) (hna : h + 1 = b0 + n) (hO : f h = .inr (8, [.null, .null, .int (zI 0), .int (zI 0), .int (zI 0), .int (zI 0)])) : cN l yX6_init cX6_init 1 1 12 2 180 [.ref h] g b0 n (n + 2) f (po_X6_init g f h) := by
  refine gs_n (cc := cX6_init) (maxL := 1) (by decide) (Nat.le_of_ble_eq_true rfl) ?_
  intro p e0 s m args below meth c ls hx hb hr hml hown hin hts hlk hK hM hz0 hl
  have hl : lv_has ls 1 [(0, .ref h)] := hl
  refine lv_aload_n hx hb dX6_init_0 rfl (lv_at hl 0 rfl) ?_
  refine W.objInit hx hb hown (hts _ u_252) (hts _ u_30) (hts _ u_31) rfl (by rw [hml]; exact hl.1) rfl dX6_init_1 (Nat.le_of_ble_eq_true rfl) (Nat.le_of_ble_eq_true rfl) ?_
  refine W.eq (g2 := F0 m 4 ls []) rfl ?_
  refine lv_aload_n hx hb dX6_init_4 rfl (lv_at hl 0 rfl) ?_
  refine g_bipush hx hb dX6_init_5 (by decide) ?_
  refine g_size hM (by omega) (by omega) (fun hz => ?_)
  refine g_newaC hx hb hts u_274 hK hM hz (a := h + 1) (by omega) 60 (by omega) (by decide) (by decide) (by decide) dX6_init_7 (fun f1 H hM _ ho3 o2 => ?_)
  clear hz
  have hf4 : f1 (h) = .inr (8, [.null, .null, .int (zI 0), .int (zI 0), .int (zI 0), .int (zI 0)]) := (o2 (h) (by first | exact ad_ne (by decide) | exact ad_n0 (by decide) | exact ad_0n (by decide) | exact ad_lt hq | exact ad_l0 hq | omega)).trans hO
  refine g_putF (ci := 8) (v := .ref (h + 1)) (ty := .array .char) (C := RX6) (T := TX6) (N := 6) hx hb hts iU_X6 tyX6 tyX6_ok nmX6 hown hK hM ⟨by omega, by omega⟩ hf4 rfl 0 (by decide) (hts _ u_253) (fun _ h9 => h9) rfl hin rfl (by decide +kernel) rfl rfl (Nat.le_of_ble_eq_true rfl) dX6_init_9 (fun f5 H locs hM hf7 o6 => ?_)
  have hf7 : f5 (h) = .inr (8, [.ref (h + 1), .null, .int (zI 0), .int (zI 0), .int (zI 0), .int (zI 0)]) := hf7
  refine lv_aload_n hx hb dX6_init_12 rfl (lv_at hl 0 rfl) ?_
  refine g_bipush hx hb dX6_init_13 (by decide) ?_
  refine g_size hM (by omega) (by omega) (fun hz => ?_)
  refine g_newaI hx hb hts u_74 hK hM hz (a := h + 2) (by omega) 120 (by omega) (by decide) (by decide) (by decide) dX6_init_15 (fun f8 H hM _ ho10 o9 => ?_)
  clear hz
  have hf11 : f8 (h) = .inr (8, [.ref (h + 1), .null, .int (zI 0), .int (zI 0), .int (zI 0), .int (zI 0)]) := (o9 (h) (by first | exact ad_ne (by decide) | exact ad_n0 (by decide) | exact ad_0n (by decide) | exact ad_lt hq | exact ad_l0 hq | omega)).trans hf7
  refine g_putF (ci := 8) (v := .ref (h + 2)) (ty := .array .int) (C := RX6) (T := TX6) (N := 6) hx hb hts iU_X6 tyX6 tyX6_ok nmX6 hown hK hM ⟨by omega, by omega⟩ hf11 rfl 1 (by decide) (hts _ u_254) (fun _ h9 => h9) rfl hin rfl (by decide +kernel) rfl rfl (Nat.le_of_ble_eq_true rfl) dX6_init_17 (fun f12 H locs hM hf14 o13 => ?_)
  have hf14 : f12 (h) = .inr (8, [.ref (h + 1), .ref (h + 2), .int (zI 0), .int (zI 0), .int (zI 0), .int (zI 0)]) := hf14
  have hf15 := ho3.kept ((o13 (h + 1) (by first | exact ad_ne (by decide) | exact ad_n0 (by decide) | exact ad_0n (by decide) | exact ad_lt hq | exact ad_l0 hq | omega)).trans ((o9 (h + 1) (by first | exact ad_ne (by decide) | exact ad_n0 (by decide) | exact ad_0n (by decide) | exact ad_lt hq | exact ad_l0 hq | omega)).trans (o6 (h + 1) (by first | exact ad_ne (by decide) | exact ad_n0 (by decide) | exact ad_0n (by decide) | exact ad_lt hq | exact ad_l0 hq | omega))))
  have hf16 := ho10.kept (o13 (h + 2) (by first | exact ad_ne (by decide) | exact ad_n0 (by decide) | exact ad_0n (by decide) | exact ad_lt hq | exact ad_l0 hq | omega))
  refine g_size hM (by omega) (by omega) (fun hz => ?_)
  refine g_nret hx hb hr hlk hK hM hz dX6_init_20 ?_
  exact ⟨⟨hf14, hf15, hf16⟩, (fun q hq => ((o13 (q) (by first | exact ad_ne (by decide) | exact ad_n0 (by decide) | exact ad_0n (by decide) | exact ad_lt hq | exact ad_l0 hq | omega)).trans ((o9 (q) (by first | exact ad_ne (by decide) | exact ad_n0 (by decide) | exact ad_0n (by decide) | exact ad_lt hq | exact ad_l0 hq | omega)).trans ((o6 (q) (by first | exact ad_ne (by decide) | exact ad_n0 (by decide) | exact ad_0n (by decide) | exact ad_lt hq | exact ad_l0 hq | omega)).trans (o2 (q) (by first | exact ad_ne (by decide) | exact ad_n0 (by decide) | exact ad_0n (by decide) | exact ad_lt hq | exact ad_l0 hq | omega))))))⟩

def po_X0_init (g : gE) (f : gF) (h : Nat) : gF → Prop := fun f1 => brAt g f1 h (fun _ => 0) (fun _ => 0) (fun _ => 0) 0 (-1) 0 ∧ ∀ q, q < h → f1 q = f q
set_option maxRecDepth 100000 in
set_option maxHeartbeats 4000000 in
/-- X0.<init> -/
theorem c_X0_init (l : Launch) (g : gE) (b0 n : Nat) (f : gF) (h : Nat) (hb0 : b0 ≤ h) (hna : h + 1 = b0 + n) (hO : f h = .inr (2, [.null, .null, .null, .int (zI 0), .int (zI 0), .int (zI 0)])) : cN l yX0_init cX0_init 1 3 52 47 638 [.ref h] g b0 n (n + 47) f (po_X0_init g f h) := by
  refine gs_n (cc := cX0_init) (maxL := 1) (by decide) (Nat.le_of_ble_eq_true rfl) ?_
  intro p e0 s m args below meth c ls hx hb hr hml hown hin hts hlk hK hM hz0 hl
  have hl : lv_has ls 1 [(0, .ref h)] := hl
  refine lv_aload_n hx hb dX0_init_0 rfl (lv_at hl 0 rfl) ?_
  refine W.objInit hx hb hown (hts _ u_43) (hts _ u_30) (hts _ u_31) rfl (by rw [hml]; exact hl.1) rfl dX0_init_1 (Nat.le_of_ble_eq_true rfl) (Nat.le_of_ble_eq_true rfl) ?_
  refine W.eq (g2 := F0 m 4 ls []) rfl ?_
  refine lv_aload_n hx hb dX0_init_4 rfl (lv_at hl 0 rfl) ?_
  refine g_size hM (by omega) (by omega) (fun hz => ?_)
  refine g_new (ci := 7) (C := RX5) (T := TX5) (N := 11) (a := h + 1) hx hb hts iU_X5 tyX5 tyX5_ok hown u_44 u_45 u_4 hK hM hz (by omega) rfl [.null, .null, .null, .null, .long (zL 0), .int (zI 0), .long (zL 0), .long (zL 0), .int (zI 0), .long (zL 0), .long (zL 0)] (by decide +kernel) (by decide) (by decide) dX0_init_5 (fun f1 H hM _ ho3 o2 => ?_)
  clear hz
  refine lv_dup hx hb dX0_init_8 rfl ?_
  refine g_size hM (by omega) (by omega) (fun hz => ?_)
  have hC4 := c_X5_init l g b0 (n + 1) f1 (h + 1) (by omega) (by omega) ho3
  refine g_callIN (As := []) (rest := [.ref (h + 1), .ref h]) ⟨hx, hb, hml, hown, hts⟩ hK hM hz hC4 (cuIN (k := 0) hts u_48 u_46 u_4 (by decide) u_47 ⟨Nat.le_of_ble_eq_true rfl, Nat.le_of_ble_eq_true rfl⟩ rfl) rfl hl.1 rfl (Nat.le_of_ble_eq_true rfl) dX0_init_9 ⟨Nat.le_of_ble_eq_true rfl, Nat.le_of_ble_eq_true rfl⟩ (fun f5 H locs hM hp6 => ?_)
  clear hz
  obtain ⟨hn7, o8⟩ := hp6
  have hf9 : f5 (h) = .inr (2, [.null, .null, .null, .int (zI 0), .int (zI 0), .int (zI 0)]) := ((o8 (h) (by omega)).trans (o2 (h) (by first | exact ad_ne (by decide) | exact ad_n0 (by decide) | exact ad_0n (by decide) | exact ad_lt hq | exact ad_l0 hq | omega))).trans hO
  refine g_putF (ci := 2) (v := .ref (h + 1)) (ty := .object "EnvelopePlanner$Plan") (C := RX0) (T := TX0) (N := 6) hx hb hts iU_X0 tyX0 tyX0_ok nmX0 hown hK hM ⟨by omega, by omega⟩ hf9 rfl 0 (by decide) (hts _ u_206) (fun _ h9 => h9) rfl hin rfl (by decide +kernel) rfl rfl (Nat.le_of_ble_eq_true rfl) dX0_init_12 (fun f10 H locs hM hf12 o11 => ?_)
  have hf12 : f10 (h) = .inr (2, [.ref (h + 1), .null, .null, .int (zI 0), .int (zI 0), .int (zI 0)]) := hf12
  refine lv_aload_n hx hb dX0_init_15 rfl (lv_at hl 0 rfl) ?_
  refine g_size hM (by omega) (by omega) (fun hz => ?_)
  refine g_new (ci := 7) (C := RX5) (T := TX5) (N := 11) (a := h + 24) hx hb hts iU_X5 tyX5 tyX5_ok hown u_44 u_45 u_4 hK hM hz (by omega) rfl [.null, .null, .null, .null, .long (zL 0), .int (zI 0), .long (zL 0), .long (zL 0), .int (zI 0), .long (zL 0), .long (zL 0)] (by decide +kernel) (by decide) (by decide) dX0_init_16 (fun f13 H hM _ ho15 o14 => ?_)
  clear hz
  refine lv_dup hx hb dX0_init_19 rfl ?_
  refine g_size hM (by omega) (by omega) (fun hz => ?_)
  have hC16 := c_X5_init l g b0 (n + 1 + 22 + 1) f13 (h + 24) (by omega) (by omega) ho15
  refine g_callIN (As := []) (rest := [.ref (h + 24), .ref h]) ⟨hx, hb, hml, hown, hts⟩ hK hM hz hC16 (cuIN (k := 0) hts u_48 u_46 u_4 (by decide) u_47 ⟨Nat.le_of_ble_eq_true rfl, Nat.le_of_ble_eq_true rfl⟩ rfl) rfl hl.1 rfl (Nat.le_of_ble_eq_true rfl) dX0_init_20 ⟨Nat.le_of_ble_eq_true rfl, Nat.le_of_ble_eq_true rfl⟩ (fun f17 H locs hM hp18 => ?_)
  clear hz
  obtain ⟨hn19, o20⟩ := hp18
  have hf21 : f17 (h) = .inr (2, [.ref (h + 1), .null, .null, .int (zI 0), .int (zI 0), .int (zI 0)]) := ((o20 (h) (by omega)).trans (o14 (h) (by first | exact ad_ne (by decide) | exact ad_n0 (by decide) | exact ad_0n (by decide) | exact ad_lt hq | exact ad_l0 hq | omega))).trans hf12
  refine g_putF (ci := 2) (v := .ref (h + 24)) (ty := .object "EnvelopePlanner$Plan") (C := RX0) (T := TX0) (N := 6) hx hb hts iU_X0 tyX0 tyX0_ok nmX0 hown hK hM ⟨by omega, by omega⟩ hf21 rfl 1 (by decide) (hts _ u_208) (fun _ h9 => h9) rfl hin rfl (by decide +kernel) rfl rfl (Nat.le_of_ble_eq_true rfl) dX0_init_23 (fun f22 H locs hM hf24 o23 => ?_)
  have hf24 : f22 (h) = .inr (2, [.ref (h + 1), .ref (h + 24), .null, .int (zI 0), .int (zI 0), .int (zI 0)]) := hf24
  refine lv_aload_n hx hb dX0_init_26 rfl (lv_at hl 0 rfl) ?_
  refine g_sipush hx hb dX0_init_27 (by decide) ?_
  refine g_size hM (by omega) (by omega) (fun hz => ?_)
  refine g_newaI hx hb hts u_74 hK hM hz (a := h + 47) (by omega) 300 (by omega) (by decide) (by decide) (by decide) dX0_init_30 (fun f25 H hM _ ho27 o26 => ?_)
  clear hz
  have hf28 : f25 (h) = .inr (2, [.ref (h + 1), .ref (h + 24), .null, .int (zI 0), .int (zI 0), .int (zI 0)]) := (o26 (h) (by first | exact ad_ne (by decide) | exact ad_n0 (by decide) | exact ad_0n (by decide) | exact ad_lt hq | exact ad_l0 hq | omega)).trans hf24
  refine g_putF (ci := 2) (v := .ref (h + 47)) (ty := .array .int) (C := RX0) (T := TX0) (N := 6) hx hb hts iU_X0 tyX0 tyX0_ok nmX0 hown hK hM ⟨by omega, by omega⟩ hf28 rfl 2 (by decide) (hts _ u_211) (fun _ h9 => h9) rfl hin rfl (by decide +kernel) rfl rfl (Nat.le_of_ble_eq_true rfl) dX0_init_32 (fun f29 H locs hM hf31 o30 => ?_)
  have hf31 : f29 (h) = .inr (2, [.ref (h + 1), .ref (h + 24), .ref (h + 47), .int (zI 0), .int (zI 0), .int (zI 0)]) := hf31
  refine lv_aload_n hx hb dX0_init_35 rfl (lv_at hl 0 rfl) ?_
  refine g_iconst hx hb dX0_init_36 ?_
  refine g_put (ci := 2) (v := .int (zI (-1))) (ty := .int) (C := RX0) (T := TX0) (N := 6) hx hb hts iU_X0 tyX0 tyX0_ok nmX0 hown hK hM ⟨by omega, by omega⟩ hf31 rfl 4 (by decide) (hts _ u_214) (fun _ h9 => h9) rfl (by decide +kernel) rfl rfl (Nat.le_of_ble_eq_true rfl) dX0_init_37 (fun f32 H locs hM hf34 o33 => ?_)
  have hf34 : f32 (h) = .inr (2, [.ref (h + 1), .ref (h + 24), .ref (h + 47), .int (zI 0), .int (zI (-1)), .int (zI 0)]) := hf34
  have hf35 := hn7.kept (fun q h1 h2 => ((o33 (q) (by first | exact ad_ne (by decide) | exact ad_n0 (by decide) | exact ad_0n (by decide) | exact ad_lt hq | exact ad_l0 hq | omega)).trans ((o30 (q) (by first | exact ad_ne (by decide) | exact ad_n0 (by decide) | exact ad_0n (by decide) | exact ad_lt hq | exact ad_l0 hq | omega)).trans ((o26 (q) (by first | exact ad_ne (by decide) | exact ad_n0 (by decide) | exact ad_0n (by decide) | exact ad_lt hq | exact ad_l0 hq | omega)).trans ((o23 (q) (by first | exact ad_ne (by decide) | exact ad_n0 (by decide) | exact ad_0n (by decide) | exact ad_lt hq | exact ad_l0 hq | omega)).trans ((o20 (q) (by omega)).trans ((o14 (q) (by first | exact ad_ne (by decide) | exact ad_n0 (by decide) | exact ad_0n (by decide) | exact ad_lt hq | exact ad_l0 hq | omega)).trans (o11 (q) (by first | exact ad_ne (by decide) | exact ad_n0 (by decide) | exact ad_0n (by decide) | exact ad_lt hq | exact ad_l0 hq | omega)))))))))
  have hf36 := hn19.kept (fun q h1 h2 => ((o33 (q) (by first | exact ad_ne (by decide) | exact ad_n0 (by decide) | exact ad_0n (by decide) | exact ad_lt hq | exact ad_l0 hq | omega)).trans ((o30 (q) (by first | exact ad_ne (by decide) | exact ad_n0 (by decide) | exact ad_0n (by decide) | exact ad_lt hq | exact ad_l0 hq | omega)).trans ((o26 (q) (by first | exact ad_ne (by decide) | exact ad_n0 (by decide) | exact ad_0n (by decide) | exact ad_lt hq | exact ad_l0 hq | omega)).trans (o23 (q) (by first | exact ad_ne (by decide) | exact ad_n0 (by decide) | exact ad_0n (by decide) | exact ad_lt hq | exact ad_l0 hq | omega))))))
  have hf37 := ho27.kept ((o33 (h + 47) (by first | exact ad_ne (by decide) | exact ad_n0 (by decide) | exact ad_0n (by decide) | exact ad_lt hq | exact ad_l0 hq | omega)).trans (o30 (h + 47) (by first | exact ad_ne (by decide) | exact ad_n0 (by decide) | exact ad_0n (by decide) | exact ad_lt hq | exact ad_l0 hq | omega)))
  refine g_size hM (by omega) (by omega) (fun hz => ?_)
  refine g_nret hx hb hr hlk hK hM hz dX0_init_40 ?_
  exact ⟨⟨hf34, hf35, hf36, hf37⟩, (fun q hq => ((o33 (q) (by first | exact ad_ne (by decide) | exact ad_n0 (by decide) | exact ad_0n (by decide) | exact ad_lt hq | exact ad_l0 hq | omega)).trans ((o30 (q) (by first | exact ad_ne (by decide) | exact ad_n0 (by decide) | exact ad_0n (by decide) | exact ad_lt hq | exact ad_l0 hq | omega)).trans ((o26 (q) (by first | exact ad_ne (by decide) | exact ad_n0 (by decide) | exact ad_0n (by decide) | exact ad_lt hq | exact ad_l0 hq | omega)).trans ((o23 (q) (by first | exact ad_ne (by decide) | exact ad_n0 (by decide) | exact ad_0n (by decide) | exact ad_lt hq | exact ad_l0 hq | omega)).trans ((o20 (q) (by omega)).trans ((o14 (q) (by first | exact ad_ne (by decide) | exact ad_n0 (by decide) | exact ad_0n (by decide) | exact ad_lt hq | exact ad_l0 hq | omega)).trans ((o11 (q) (by first | exact ad_ne (by decide) | exact ad_n0 (by decide) | exact ad_0n (by decide) | exact ad_lt hq | exact ad_l0 hq | omega)).trans ((o8 (q) (by omega)).trans (o2 (q) (by first | exact ad_ne (by decide) | exact ad_n0 (by decide) | exact ad_0n (by decide) | exact ad_lt hq | exact ad_l0 hq | omega)))))))))))⟩
