def po_X9_laysStep (g : gE) (f : gF) (h : Nat) (Z St Mn : Nat → Int) (b0n cc : Nat) (kd a b x y : Int) : gF → Prop := fun f1 => arI g f1 (h + 3) 1800 (lay5 St (300 * b0n + 5 * cc) kd a b x y) ∧ arI g f1 (h + 4) 6 (pu Mn b0n (↑cc + 1)) ∧ ∀ q, (q ≠ h + 3 ∧ q ≠ h + 4) → f1 q = f q
set_option maxRecDepth 100000 in
set_option maxHeartbeats 1000000 in
/-- laysStep -/
theorem c_X9_laysStep (l : Launch) (g : gE) (b0 n : Nat) (f : gF) (h : Nat) (Z St Mn : Nat → Int) (b0n cc : Nat) (kd a b x y : Int) (hO : mdO f h Z) (hrg : b0 ≤ h ∧ h + 13 ≤ b0 + n) (hSt : arI g f (h + 3) 1800 St) (hMn : arI g f (h + 4) 6 Mn) (hb6 : b0n < 6) (hcc : Mn b0n = ↑cc) (hc6 : cc < 60) : cV l yX9_laysStep cX9_laysStep 8 none 0 0 [.ref h, .int (zI (↑b0n : Int)), .int (zI kd), .int (zI a), .int (zI b), .int (zI x), .int (zI y)] g b0 n f (po_X9_laysStep g f h Z St Mn b0n cc kd a b x y) := by
  refine gs_v (cc := cX9_laysStep) (maxL := 8) (ret := none) (by decide) (Nat.le_of_ble_eq_true rfl) ?_
  intro p e0 s m args below meth c ls hx hb hr hml hown hts hlk hK hM hl
  have hl : lv_has ls 8 [(0, .ref h), (1, .int (zI (↑b0n : Int))), (2, .int (zI kd)), (3, .int (zI a)), (4, .int (zI b)), (5, .int (zI x)), (6, .int (zI y))] := hl
  refine g_iconst hx hb dX9_laysStep_0 ?_
  refine g_bipush hx hb dX9_laysStep_1 (by decide) ?_
  refine lv_iload_n hx hb dX9_laysStep_3 rfl (lv_at hl 1 rfl) ?_
  refine g_imul hx hb dX9_laysStep_4 ?_
  refine lv_aload_n hx hb dX9_laysStep_5 rfl (lv_at hl 0 rfl) ?_
  refine g_get (ci := 11) (v := .ref (h + 4)) (C := RX9) (T := TX9) (N := 24) hx hb hts iU_X9 hown hK hM ⟨by omega, by omega⟩ hO rfl 4 (by decide) (hts _ u_1148) (fun _ h9 => h9) rfl dX9_laysStep_6 ?_
  refine lv_iload_n hx hb dX9_laysStep_9 rfl (lv_at hl 1 rfl) ?_
  refine g_iald hx hb hK hM ⟨by omega, by omega⟩ hMn (by omega) (by omega) (by decide) dX9_laysStep_10 ?_
  show W _ _ _ _ _ _ _ _ _ _ _ _ _ _ _ (F0 _ _ _ (.int (zI (Mn b0n)) :: _))
  rw [hcc]
  refine g_iadd hx hb dX9_laysStep_11 ?_
  refine g_imul hx hb dX9_laysStep_12 ?_
  refine lv_istore (lv' := [(7, .int (zI (5 * ((60 * (↑b0n : Int)) + (↑cc : Int))))), (0, .ref h), (1, .int (zI (↑b0n : Int))), (2, .int (zI kd)), (3, .int (zI a)), (4, .int (zI b)), (5, .int (zI x)), (6, .int (zI y))]) hx hb dX9_laysStep_13 hl (by decide) rfl (fun ls hl => ?_)
  refine lv_aload_n hx hb dX9_laysStep_15 rfl (lv_at hl 1 rfl) ?_
  refine g_get (ci := 11) (v := .ref (h + 3)) (C := RX9) (T := TX9) (N := 24) hx hb hts iU_X9 hown hK hM ⟨by omega, by omega⟩ hO rfl 3 (by decide) (hts _ u_1147) (fun _ h9 => h9) rfl dX9_laysStep_16 ?_
  refine lv_iload hx hb dX9_laysStep_19 (lv_at hl 0 rfl) ?_
  refine lv_iload_n hx hb dX9_laysStep_21 rfl (lv_at hl 3 rfl) ?_
  refine g_iast hx hb hK hM ⟨by omega, by omega⟩ hSt (by omega) (by omega) (by decide) dX9_laysStep_22 (fun f1 H locs hM ha3 o2 => ?_)
  refine lv_aload_n hx hb dX9_laysStep_23 rfl (lv_at hl 1 rfl) ?_
  have hf4 : f1 (h) = .inr (11, [.int (zI (Z 0)), .ref (h + 1), .ref (h + 2), .ref (h + 3), .ref (h + 4), .ref (h + 5), .ref (h + 6), .ref (h + 7), .ref (h + 8), .int (zI (Z 9)), .int (zI (Z 10)), .int (zI (Z 11)), .int (zI (Z 12)), .int (zI (Z 13)), .int (zI (Z 14)), .int (zI (Z 15)), .int (zI (Z 16)), .ref (h + 9), .ref (h + 10), .ref (h + 11), .int (zI (Z 20)), .int (zI (Z 21)), .int (zI (Z 22)), .ref (h + 12)]) := (o2 (h) (by omega)).trans hO
  refine g_get (ci := 11) (v := .ref (h + 3)) (C := RX9) (T := TX9) (N := 24) hx hb hts iU_X9 hown hK hM ⟨by omega, by omega⟩ hf4 rfl 3 (by decide) (hts _ u_1147) (fun _ h9 => h9) rfl dX9_laysStep_24 ?_
  refine lv_iload hx hb dX9_laysStep_27 (lv_at hl 0 rfl) ?_
  refine g_iconst hx hb dX9_laysStep_29 ?_
  refine g_iadd hx hb dX9_laysStep_30 ?_
  refine lv_iload_n hx hb dX9_laysStep_31 rfl (lv_at hl 4 rfl) ?_
  refine g_iast hx hb hK hM ⟨by omega, by omega⟩ ha3 (by omega) (by omega) (by decide) dX9_laysStep_32 (fun f5 H locs hM ha7 o6 => ?_)
  refine lv_aload_n hx hb dX9_laysStep_33 rfl (lv_at hl 1 rfl) ?_
  have hf8 : f5 (h) = .inr (11, [.int (zI (Z 0)), .ref (h + 1), .ref (h + 2), .ref (h + 3), .ref (h + 4), .ref (h + 5), .ref (h + 6), .ref (h + 7), .ref (h + 8), .int (zI (Z 9)), .int (zI (Z 10)), .int (zI (Z 11)), .int (zI (Z 12)), .int (zI (Z 13)), .int (zI (Z 14)), .int (zI (Z 15)), .int (zI (Z 16)), .ref (h + 9), .ref (h + 10), .ref (h + 11), .int (zI (Z 20)), .int (zI (Z 21)), .int (zI (Z 22)), .ref (h + 12)]) := (o6 (h) (by omega)).trans hf4
  refine g_get (ci := 11) (v := .ref (h + 3)) (C := RX9) (T := TX9) (N := 24) hx hb hts iU_X9 hown hK hM ⟨by omega, by omega⟩ hf8 rfl 3 (by decide) (hts _ u_1147) (fun _ h9 => h9) rfl dX9_laysStep_34 ?_
  refine lv_iload hx hb dX9_laysStep_37 (lv_at hl 0 rfl) ?_
  refine g_iconst hx hb dX9_laysStep_39 ?_
  refine g_iadd hx hb dX9_laysStep_40 ?_
  refine lv_iload hx hb dX9_laysStep_41 (lv_at hl 5 rfl) ?_
  refine g_iast hx hb hK hM ⟨by omega, by omega⟩ ha7 (by omega) (by omega) (by decide) dX9_laysStep_43 (fun f9 H locs hM ha11 o10 => ?_)
  refine lv_aload_n hx hb dX9_laysStep_44 rfl (lv_at hl 1 rfl) ?_
  have hf12 : f9 (h) = .inr (11, [.int (zI (Z 0)), .ref (h + 1), .ref (h + 2), .ref (h + 3), .ref (h + 4), .ref (h + 5), .ref (h + 6), .ref (h + 7), .ref (h + 8), .int (zI (Z 9)), .int (zI (Z 10)), .int (zI (Z 11)), .int (zI (Z 12)), .int (zI (Z 13)), .int (zI (Z 14)), .int (zI (Z 15)), .int (zI (Z 16)), .ref (h + 9), .ref (h + 10), .ref (h + 11), .int (zI (Z 20)), .int (zI (Z 21)), .int (zI (Z 22)), .ref (h + 12)]) := (o10 (h) (by omega)).trans hf8
  refine g_get (ci := 11) (v := .ref (h + 3)) (C := RX9) (T := TX9) (N := 24) hx hb hts iU_X9 hown hK hM ⟨by omega, by omega⟩ hf12 rfl 3 (by decide) (hts _ u_1147) (fun _ h9 => h9) rfl dX9_laysStep_45 ?_
  refine lv_iload hx hb dX9_laysStep_48 (lv_at hl 0 rfl) ?_
  refine g_iconst hx hb dX9_laysStep_50 ?_
  refine g_iadd hx hb dX9_laysStep_51 ?_
  refine lv_iload hx hb dX9_laysStep_52 (lv_at hl 6 rfl) ?_
  refine g_iast hx hb hK hM ⟨by omega, by omega⟩ ha11 (by omega) (by omega) (by decide) dX9_laysStep_54 (fun f13 H locs hM ha15 o14 => ?_)
  refine lv_aload_n hx hb dX9_laysStep_55 rfl (lv_at hl 1 rfl) ?_
  have hf16 : f13 (h) = .inr (11, [.int (zI (Z 0)), .ref (h + 1), .ref (h + 2), .ref (h + 3), .ref (h + 4), .ref (h + 5), .ref (h + 6), .ref (h + 7), .ref (h + 8), .int (zI (Z 9)), .int (zI (Z 10)), .int (zI (Z 11)), .int (zI (Z 12)), .int (zI (Z 13)), .int (zI (Z 14)), .int (zI (Z 15)), .int (zI (Z 16)), .ref (h + 9), .ref (h + 10), .ref (h + 11), .int (zI (Z 20)), .int (zI (Z 21)), .int (zI (Z 22)), .ref (h + 12)]) := (o14 (h) (by omega)).trans hf12
  refine g_get (ci := 11) (v := .ref (h + 3)) (C := RX9) (T := TX9) (N := 24) hx hb hts iU_X9 hown hK hM ⟨by omega, by omega⟩ hf16 rfl 3 (by decide) (hts _ u_1147) (fun _ h9 => h9) rfl dX9_laysStep_56 ?_
  refine lv_iload hx hb dX9_laysStep_59 (lv_at hl 0 rfl) ?_
  refine g_iconst hx hb dX9_laysStep_61 ?_
  refine g_iadd hx hb dX9_laysStep_62 ?_
  refine lv_iload hx hb dX9_laysStep_63 (lv_at hl 7 rfl) ?_
  refine g_iast hx hb hK hM ⟨by omega, by omega⟩ ha15 (by omega) (by omega) (by decide) dX9_laysStep_65 (fun f17 H locs hM ha19 o18 => ?_)
  refine lv_aload_n hx hb dX9_laysStep_66 rfl (lv_at hl 1 rfl) ?_
  have hf20 : f17 (h) = .inr (11, [.int (zI (Z 0)), .ref (h + 1), .ref (h + 2), .ref (h + 3), .ref (h + 4), .ref (h + 5), .ref (h + 6), .ref (h + 7), .ref (h + 8), .int (zI (Z 9)), .int (zI (Z 10)), .int (zI (Z 11)), .int (zI (Z 12)), .int (zI (Z 13)), .int (zI (Z 14)), .int (zI (Z 15)), .int (zI (Z 16)), .ref (h + 9), .ref (h + 10), .ref (h + 11), .int (zI (Z 20)), .int (zI (Z 21)), .int (zI (Z 22)), .ref (h + 12)]) := (o18 (h) (by omega)).trans hf16
  refine g_get (ci := 11) (v := .ref (h + 4)) (C := RX9) (T := TX9) (N := 24) hx hb hts iU_X9 hown hK hM ⟨by omega, by omega⟩ hf20 rfl 4 (by decide) (hts _ u_1148) (fun _ h9 => h9) rfl dX9_laysStep_67 ?_
  refine lv_iload_n hx hb dX9_laysStep_70 rfl (lv_at hl 2 rfl) ?_
  refine lv_dup2_11 hx hb dX9_laysStep_71 rfl rfl ?_
  have hf21 := hMn.kept ((o18 (h + 4) (by omega)).trans ((o14 (h + 4) (by omega)).trans ((o10 (h + 4) (by omega)).trans ((o6 (h + 4) (by omega)).trans (o2 (h + 4) (by omega))))))
  refine g_iald hx hb hK hM ⟨by omega, by omega⟩ hf21 (by omega) (by omega) (by decide) dX9_laysStep_72 ?_
  show W _ _ _ _ _ _ _ _ _ _ _ _ _ _ _ (F0 _ _ _ (.int (zI (Mn b0n)) :: _))
  rw [hcc]
  refine g_iconst hx hb dX9_laysStep_73 ?_
  refine g_iadd hx hb dX9_laysStep_74 ?_
  refine g_iast hx hb hK hM ⟨by omega, by omega⟩ hf21 (by omega) (by omega) (by decide) dX9_laysStep_75 (fun f22 H locs hM ha24 o23 => ?_)
  have hf25 := ha19.kept (o23 (h + 3) (by omega))
  refine g_vret hx hb hr hlk hK hM dX9_laysStep_76 ?_
  exact ⟨hf25.cong (fun k hk => by simp only [lay5, pu] <;> (repeat' split) <;> first | rfl | omega), ha24, (fun q hq => ((o23 (q) (by omega)).trans ((o18 (q) (by omega)).trans ((o14 (q) (by omega)).trans ((o10 (q) (by omega)).trans ((o6 (q) (by omega)).trans (o2 (q) (by omega))))))))⟩

def po_X9_told (g : gE) (f : gF) (h : Nat) (Z : Nat → Int) (is x y z : Int) : Int32 → gF → Prop := fun r f1 => r = zI is ∧ mdO f1 h (pu Z 0 (tld (Z 15) x y z)) ∧ ∀ q, q ≠ h → f1 q = f q
set_option maxRecDepth 100000 in
set_option maxHeartbeats 1000000 in
/-- told -/
theorem c_X9_told (l : Launch) (g : gE) (b0 n : Nat) (f : gF) (h : Nat) (Z : Nat → Int) (is x y z : Int) (hO : mdO f h Z) (hrg : b0 ≤ h ∧ h + 13 ≤ b0 + n) (hr15 : rI (Z 15)) : cI l yX9_told cX9_told 5 (some .int) 0 0 [.ref h, .int (zI is), .int (zI x), .int (zI y), .int (zI z)] g b0 n f (po_X9_told g f h Z is x y z) := by
  refine gs_i (cc := cX9_told) (maxL := 5) (ret := (some .int)) (by decide) (Nat.le_of_ble_eq_true rfl) ?_
  intro p e0 s m args below meth c ls hx hb hr hml hown hts hlk hK hM hl
  have hl : lv_has ls 5 [(0, .ref h), (1, .int (zI is)), (2, .int (zI x)), (3, .int (zI y)), (4, .int (zI z))] := hl
  refine lv_aload_n hx hb dX9_told_0 rfl (lv_at hl 0 rfl) ?_
  refine lv_aload_n hx hb dX9_told_1 rfl (lv_at hl 0 rfl) ?_
  refine g_get (ci := 11) (v := .int (zI (Z 15))) (C := RX9) (T := TX9) (N := 24) hx hb hts iU_X9 hown hK hM ⟨by omega, by omega⟩ hO rfl 15 (by decide) (hts _ u_1159) (fun _ h9 => h9) rfl dX9_told_2 ?_
  refine g_if_ne (tgt := 12) hx hb dX9_told_5 (by decide) hr15 (fun c5 => ?_) (fun c5 => ?_)
  · skip
    refine lv_aload_n hx hb dX9_told_12 rfl (lv_at hl 0 rfl) ?_
    refine g_get (ci := 11) (v := .int (zI (Z 15))) (C := RX9) (T := TX9) (N := 24) hx hb hts iU_X9 hown hK hM ⟨by omega, by omega⟩ hO rfl 15 (by decide) (hts _ u_1159) (fun _ h9 => h9) rfl dX9_told_13 ?_
    refine g_iconst hx hb dX9_told_16 ?_
    refine g_icmp_ne (tgt := 24) hx hb dX9_told_17 (by decide) hr15 (by decide) (fun c17 => ?_) (fun c17 => ?_)
    · skip
      refine lv_aload_n hx hb dX9_told_24 rfl (lv_at hl 0 rfl) ?_
      refine g_get (ci := 11) (v := .int (zI (Z 15))) (C := RX9) (T := TX9) (N := 24) hx hb hts iU_X9 hown hK hM ⟨by omega, by omega⟩ hO rfl 15 (by decide) (hts _ u_1159) (fun _ h9 => h9) rfl dX9_told_25 ?_
      refine g_iconst hx hb dX9_told_28 ?_
      refine g_icmp_ne (tgt := 36) hx hb dX9_told_29 (by decide) hr15 (by decide) (fun c29 => ?_) (fun c29 => ?_)
      · skip
        refine lv_iload hx hb dX9_told_36 (lv_at hl 4 rfl) ?_
        refine g_put (ci := 11) (v := .int (zI z)) (ty := .int) (C := RX9) (T := TX9) (N := 24) hx hb hts iU_X9 tyX9 tyX9_ok nmX9 hown hK hM ⟨by omega, by omega⟩ hO rfl 0 (by decide) (hts _ u_1144) (fun _ h9 => h9) rfl (by decide +kernel) rfl rfl (Nat.le_of_ble_eq_true rfl) dX9_told_38 (fun f1 H locs hM hf3 o2 => ?_)
        have hf3 : f1 (h) = .inr (11, [.int (zI z), .ref (h + 1), .ref (h + 2), .ref (h + 3), .ref (h + 4), .ref (h + 5), .ref (h + 6), .ref (h + 7), .ref (h + 8), .int (zI (Z 9)), .int (zI (Z 10)), .int (zI (Z 11)), .int (zI (Z 12)), .int (zI (Z 13)), .int (zI (Z 14)), .int (zI (Z 15)), .int (zI (Z 16)), .ref (h + 9), .ref (h + 10), .ref (h + 11), .int (zI (Z 20)), .int (zI (Z 21)), .int (zI (Z 22)), .ref (h + 12)]) := hf3
        refine lv_iload_n hx hb dX9_told_41 rfl (lv_at hl 1 rfl) ?_
        refine g_iret hx hb hr hlk hK hM dX9_told_42 ?_
        refine ⟨rfl, ?_, (fun q hq => (o2 (q) (by omega)))⟩
        have hT : tld (Z 15) x y z = z := by
          unfold tld
          first | rw [if_pos (by omega)] | rw [if_neg (by omega), if_pos (by omega)] | rw [if_neg (by omega), if_neg (by omega), if_pos (by omega)] | rw [if_neg (by omega), if_neg (by omega), if_neg (by omega)]
        rw [hT]
        exact hf3
      · skip
        refine lv_iload_n hx hb dX9_told_32 rfl (lv_at hl 3 rfl) ?_
        refine lv_goto (tgt := 38) hx hb dX9_told_33 (by decide) ?_
        refine g_put (ci := 11) (v := .int (zI y)) (ty := .int) (C := RX9) (T := TX9) (N := 24) hx hb hts iU_X9 tyX9 tyX9_ok nmX9 hown hK hM ⟨by omega, by omega⟩ hO rfl 0 (by decide) (hts _ u_1144) (fun _ h9 => h9) rfl (by decide +kernel) rfl rfl (Nat.le_of_ble_eq_true rfl) dX9_told_38 (fun f4 H locs hM hf6 o5 => ?_)
        have hf6 : f4 (h) = .inr (11, [.int (zI y), .ref (h + 1), .ref (h + 2), .ref (h + 3), .ref (h + 4), .ref (h + 5), .ref (h + 6), .ref (h + 7), .ref (h + 8), .int (zI (Z 9)), .int (zI (Z 10)), .int (zI (Z 11)), .int (zI (Z 12)), .int (zI (Z 13)), .int (zI (Z 14)), .int (zI (Z 15)), .int (zI (Z 16)), .ref (h + 9), .ref (h + 10), .ref (h + 11), .int (zI (Z 20)), .int (zI (Z 21)), .int (zI (Z 22)), .ref (h + 12)]) := hf6
        refine lv_iload_n hx hb dX9_told_41 rfl (lv_at hl 1 rfl) ?_
        refine g_iret hx hb hr hlk hK hM dX9_told_42 ?_
        refine ⟨rfl, ?_, (fun q hq => (o5 (q) (by omega)))⟩
        have hT : tld (Z 15) x y z = y := by
          unfold tld
          first | rw [if_pos (by omega)] | rw [if_neg (by omega), if_pos (by omega)] | rw [if_neg (by omega), if_neg (by omega), if_pos (by omega)] | rw [if_neg (by omega), if_neg (by omega), if_neg (by omega)]
        rw [hT]
        exact hf6
    · skip
      refine lv_iload_n hx hb dX9_told_20 rfl (lv_at hl 2 rfl) ?_
      refine lv_goto (tgt := 38) hx hb dX9_told_21 (by decide) ?_
      refine g_put (ci := 11) (v := .int (zI x)) (ty := .int) (C := RX9) (T := TX9) (N := 24) hx hb hts iU_X9 tyX9 tyX9_ok nmX9 hown hK hM ⟨by omega, by omega⟩ hO rfl 0 (by decide) (hts _ u_1144) (fun _ h9 => h9) rfl (by decide +kernel) rfl rfl (Nat.le_of_ble_eq_true rfl) dX9_told_38 (fun f7 H locs hM hf9 o8 => ?_)
      have hf9 : f7 (h) = .inr (11, [.int (zI x), .ref (h + 1), .ref (h + 2), .ref (h + 3), .ref (h + 4), .ref (h + 5), .ref (h + 6), .ref (h + 7), .ref (h + 8), .int (zI (Z 9)), .int (zI (Z 10)), .int (zI (Z 11)), .int (zI (Z 12)), .int (zI (Z 13)), .int (zI (Z 14)), .int (zI (Z 15)), .int (zI (Z 16)), .ref (h + 9), .ref (h + 10), .ref (h + 11), .int (zI (Z 20)), .int (zI (Z 21)), .int (zI (Z 22)), .ref (h + 12)]) := hf9
      refine lv_iload_n hx hb dX9_told_41 rfl (lv_at hl 1 rfl) ?_
      refine g_iret hx hb hr hlk hK hM dX9_told_42 ?_
      refine ⟨rfl, ?_, (fun q hq => (o8 (q) (by omega)))⟩
      have hT : tld (Z 15) x y z = x := by
        unfold tld
        first | rw [if_pos (by omega)] | rw [if_neg (by omega), if_pos (by omega)] | rw [if_neg (by omega), if_neg (by omega), if_pos (by omega)] | rw [if_neg (by omega), if_neg (by omega), if_neg (by omega)]
      rw [hT]
      exact hf9
  · skip
    refine g_iconst hx hb dX9_told_8 ?_
    refine lv_goto (tgt := 38) hx hb dX9_told_9 (by decide) ?_
    refine g_put (ci := 11) (v := .int (zI 0)) (ty := .int) (C := RX9) (T := TX9) (N := 24) hx hb hts iU_X9 tyX9 tyX9_ok nmX9 hown hK hM ⟨by omega, by omega⟩ hO rfl 0 (by decide) (hts _ u_1144) (fun _ h9 => h9) rfl (by decide +kernel) rfl rfl (Nat.le_of_ble_eq_true rfl) dX9_told_38 (fun f10 H locs hM hf12 o11 => ?_)
    have hf12 : f10 (h) = .inr (11, [.int (zI 0), .ref (h + 1), .ref (h + 2), .ref (h + 3), .ref (h + 4), .ref (h + 5), .ref (h + 6), .ref (h + 7), .ref (h + 8), .int (zI (Z 9)), .int (zI (Z 10)), .int (zI (Z 11)), .int (zI (Z 12)), .int (zI (Z 13)), .int (zI (Z 14)), .int (zI (Z 15)), .int (zI (Z 16)), .ref (h + 9), .ref (h + 10), .ref (h + 11), .int (zI (Z 20)), .int (zI (Z 21)), .int (zI (Z 22)), .ref (h + 12)]) := hf12
    refine lv_iload_n hx hb dX9_told_41 rfl (lv_at hl 1 rfl) ?_
    refine g_iret hx hb hr hlk hK hM dX9_told_42 ?_
    refine ⟨rfl, ?_, (fun q hq => (o11 (q) (by omega)))⟩
    have hT : tld (Z 15) x y z = 0 := by
      unfold tld
      first | rw [if_pos (by omega)] | rw [if_neg (by omega), if_pos (by omega)] | rw [if_neg (by omega), if_neg (by omega), if_pos (by omega)] | rw [if_neg (by omega), if_neg (by omega), if_neg (by omega)]
    rw [hT]
    exact hf12

def po_X9_step (g : gE) (f : gF) (h : Nat) (Z M St Mn Pr : Nat → Int) (B P T : Nat → Nat → Int) (sc : Nat → Nat) (pr ex : Nat → Int) (ps : Nat) (kd a b x y v0 : Int) : Int32 → gF → Prop := fun r f1 => ∃ M1 St1 Mn1 : Nat → Int, arJ g f1 (h + 1) 2058 M1 ∧ arI g f1 (h + 3) 1800 St1 ∧ arI g f1 (h + 4) 6 Mn1 ∧ mRel M1 St1 Mn1 Pr B (tP P T sc ps kd a b x y) (tT P T sc ps kd a b x y) (tS P T sc ps kd a b x y) pr ex ∧ mdO f1 h (zSt Z (294 * ps) (tRf P T sc ps kd a b x y)) ∧ r = zI (tAn P T sc ps kd a b x y) ∧ scrAt g f1 h ∧ ∀ q, (q < h ∨ q = h + 2 ∨ (h + 5 ≤ q ∧ q < h + 9) ∨ h + 11 ≤ q) → f1 q = f q
set_option maxRecDepth 100000 in
set_option maxHeartbeats 1000000 in
/-- step on the present branch -/
theorem c_X9_step (l : Launch) (g : gE) (b0 n : Nat) (f : gF) (h : Nat) (Z M St Mn Pr : Nat → Int) (B P T : Nat → Nat → Int) (sc : Nat → Nat) (pr ex : Nat → Int) (ps : Nat) (kd a b x y v0 : Int) (hO : mdO f h Z) (hrg : b0 ≤ h ∧ h + 13 ≤ b0 + n) (hPl : arJ g f (h + 1) 2058 M) (hSt : arI g f (h + 3) 1800 St) (hMn : arI g f (h + 4) 6 Mn) (hPr : arI g f (h + 5) 6 Pr) (hR : mRel M St Mn Pr B P T sc pr ex) (hz9 : Z 9 = ↑ps) (hps : ps < 6) (hpx : ex ps = 1) (hscs : ∀ k, k < 6 → ex k = 1 → sc k ≤ 60) (hsc : scrAt g f h) (hok : pOk (P ps) v0) (hv1 : 0 ≤ v0) (hv0 : v0 + 541 ≤ 800000000) (hkd : 0 ≤ kd ∧ kd ≤ 12) (hrk : rI kd) (hra : rI a) (hrb : rI b) (hrx : rI x) (hry : rI y) : cI l yX9_step cX9_step 7 (some .int) 8 250 [.ref h, .int (zI kd), .int (zI a), .int (zI b), .int (zI x), .int (zI y)] g b0 n f (po_X9_step g f h Z M St Mn Pr B P T sc pr ex ps kd a b x y v0) := by
  refine gs_i (cc := cX9_step) (maxL := 7) (ret := (some .int)) (by decide) (Nat.le_of_ble_eq_true rfl) ?_
  intro p e0 s m args below meth c ls hx hb hr hml hown hts hlk hK hM hl
  have hl : lv_has ls 7 [(0, .ref h), (1, .int (zI kd)), (2, .int (zI a)), (3, .int (zI b)), (4, .int (zI x)), (5, .int (zI y))] := hl
  have hbr := (hR ps hps).1 hpx
  have hmn9 := hbr.2.2.2.1
  have hs60 := hscs ps hps hpx
  have hrfr : rI (tRf P T sc ps kd a b x y) := by have := @ref_in (P ps) kd a b x y (60 ≤ sc ps) _; unfold tRf; exact ⟨by omega, by omega⟩
  refine lv_aload_n hx hb dX9_step_0 rfl (lv_at hl 0 rfl) ?_
  refine lv_aload_n hx hb dX9_step_1 rfl (lv_at hl 0 rfl) ?_
  refine g_get (ci := 11) (v := .int (zI (Z 9))) (C := RX9) (T := TX9) (N := 24) hx hb hts iU_X9 hown hK hM ⟨by omega, by omega⟩ hO rfl 9 (by decide) (hts _ u_1153) (fun _ h9 => h9) rfl dX9_step_2 ?_
  rw [hz9]
  have hC1 := c_X9_planOf l g b0 n f ps (by omega)
  refine g_callSi (As := [.int (zI (↑ps : Int))]) (rest := [.ref h]) ⟨hx, hb, hml, hown, hts⟩ hK hM hC1 (cuS (n := 1) hts u_1228 u_1226 u_10 (by decide) u_1227 ⟨Nat.le_of_ble_eq_true rfl, Nat.le_of_ble_eq_true rfl⟩) rfl hl.1 rfl (Nat.le_of_ble_eq_true rfl) dX9_step_5 ⟨Nat.zero_le _, Nat.zero_le _⟩ (fun r5 f2 H locs hM hp3 => ?_)
  obtain ⟨rfl, rfl⟩ := hp3
  refine g_put (ci := 11) (v := .int (zI (↑(294 * ps) : Int))) (ty := .int) (C := RX9) (T := TX9) (N := 24) hx hb hts iU_X9 tyX9 tyX9_ok nmX9 hown hK hM ⟨by omega, by omega⟩ hO rfl 11 (by decide) (hts _ u_1155) (fun _ h9 => h9) rfl (by decide +kernel) rfl rfl (Nat.le_of_ble_eq_true rfl) dX9_step_8 (fun f4 H locs hM hf6 o5 => ?_)
  have hf6 : f4 (h) = .inr (11, [.int (zI (Z 0)), .ref (h + 1), .ref (h + 2), .ref (h + 3), .ref (h + 4), .ref (h + 5), .ref (h + 6), .ref (h + 7), .ref (h + 8), .int (zI (Z 9)), .int (zI (Z 10)), .int (zI (↑(294 * ps) : Int)), .int (zI (Z 12)), .int (zI (Z 13)), .int (zI (Z 14)), .int (zI (Z 15)), .int (zI (Z 16)), .ref (h + 9), .ref (h + 10), .ref (h + 11), .int (zI (Z 20)), .int (zI (Z 21)), .int (zI (Z 22)), .ref (h + 12)]) := hf6
  refine lv_aload_n hx hb dX9_step_11 rfl (lv_at hl 0 rfl) ?_
  refine lv_iload_n hx hb dX9_step_12 rfl (lv_at hl 1 rfl) ?_
  refine lv_iload_n hx hb dX9_step_13 rfl (lv_at hl 2 rfl) ?_
  refine lv_iload_n hx hb dX9_step_14 rfl (lv_at hl 3 rfl) ?_
  refine lv_iload hx hb dX9_step_15 (lv_at hl 4 rfl) ?_
  refine lv_iload hx hb dX9_step_17 (lv_at hl 5 rfl) ?_
  refine lv_aload_n hx hb dX9_step_19 rfl (lv_at hl 0 rfl) ?_
  refine g_get (ci := 11) (v := .ref (h + 4)) (C := RX9) (T := TX9) (N := 24) hx hb hts iU_X9 hown hK hM ⟨by omega, by omega⟩ hf6 rfl 4 (by decide) (hts _ u_1148) (fun _ h9 => h9) rfl dX9_step_20 ?_
  refine lv_aload_n hx hb dX9_step_23 rfl (lv_at hl 0 rfl) ?_
  refine g_get (ci := 11) (v := .int (zI (Z 9))) (C := RX9) (T := TX9) (N := 24) hx hb hts iU_X9 hown hK hM ⟨by omega, by omega⟩ hf6 rfl 9 (by decide) (hts _ u_1153) (fun _ h9 => h9) rfl dX9_step_24 ?_
  rw [hz9]
  have hf7 := hMn.kept (o5 (h + 4) (by omega))
  refine g_iald hx hb hK hM ⟨by omega, by omega⟩ hf7 (by omega) (by omega) (by decide) dX9_step_27 ?_
  show W _ _ _ _ _ _ _ _ _ _ _ _ _ _ _ (F0 _ _ _ (.int (zI (Mn ps)) :: _))
  rw [hmn9]
  refine g_bipush hx hb dX9_step_28 (by decide) ?_
  refine g_icmp_ne (tgt := 37) hx hb dX9_step_30 (by decide) ⟨by omega, by omega⟩ (by decide) (fun c30 => ?_) (fun c30 => ?_)
  · skip
    refine g_iconst hx hb dX9_step_37 ?_
    have hf8 := hPl.kept (o5 (h + 1) (by omega))
    have hp9 : mpAt g f4 h M (294 * ps) (P ps) := mpAt_of hf8 hbr.1
    have hf10 := hsc.kept (fun q h1 h2 => (o5 (q) (by omega)))
    have hC11 := c_X9_does l g b0 n f4 h (pu Z 11 (↑(294 * ps) : Int)) M (294 * ps) (P ps) kd a b x y 0 v0 hf6 hp9 hrg (pu_s _ _ _) (by omega) hf10 (Or.inl rfl) hrk hra hrb hrx hry hok hv1 hv0 hkd
    refine g_callVi (ci := 11) (C := RX9) (T := TX9) (N := 24) (As := [.int (zI kd), .int (zI a), .int (zI b), .int (zI x), .int (zI y), .int (zI 0)]) (rest := []) ⟨hx, hb, hml, hown, hts⟩ hK hM hC11 (cuV (n := 6) hts u_1232 u_1229 u_10 (by decide) u_1231 us_28 ⟨Nat.le_of_ble_eq_true rfl, Nat.le_of_ble_eq_true rfl⟩) ⟨by omega, by omega⟩ hf6 rfl rfl hl.1 rfl (Nat.le_of_ble_eq_true rfl) dX9_step_38 ⟨Nat.zero_le _, Nat.zero_le _⟩ (fun r38 f12 H locs hM hp13 => ?_)
    obtain ⟨hm14, rfl, hn15, hs16, o17⟩ := hp13
    obtain ⟨e1, e2, e3⟩ := does_t (P := P) (T := T) (sc := sc) (ps := ps) (kd := kd) (a := a) (b := b) (x := x) (y := y) (fl := 0) ⟨fun hh => absurd hh (by decide), fun hh => absurd hh (by omega)⟩
    rw [e1] at hm14
    rw [e2]
    have ho18 : f12 h = .inr (11, [.int (zI (Z 0)), .ref (h + 1), .ref (h + 2), .ref (h + 3), .ref (h + 4), .ref (h + 5), .ref (h + 6), .ref (h + 7), .ref (h + 8), .int (zI (Z 9)), .int (zI (Z 10)), .int (zI (↑(294 * ps) : Int)), .int (zI (Z 12)), .int (zI (Z 13)), .int (zI (Z 14)), .int (zI (tRf P T sc ps kd a b x y)), .int (zI (Z 16)), .ref (h + 9), .ref (h + 10), .ref (h + 11), .int (zI (Z 20)), .int (zI (Z 21)), .int (zI (Z 22)), .ref (h + 12)]) := hm14
    have hj19 : arJ g f12 (h + 1) 2058 (mov M (294 * ps) (dP (P ps) kd a b x y 0)) := hn15
    refine lv_istore (lv' := [(6, .int (zI (tAn P T sc ps kd a b x y))), (0, .ref h), (1, .int (zI kd)), (2, .int (zI a)), (3, .int (zI b)), (4, .int (zI x)), (5, .int (zI y))]) hx hb dX9_step_41 hl (by decide) rfl (fun ls hl => ?_)
    refine lv_aload_n hx hb dX9_step_43 rfl (lv_at hl 1 rfl) ?_
    refine g_get (ci := 11) (v := .int (zI (tRf P T sc ps kd a b x y))) (C := RX9) (T := TX9) (N := 24) hx hb hts iU_X9 hown hK hM ⟨by omega, by omega⟩ ho18 rfl 15 (by decide) (hts _ u_1159) (fun _ h9 => h9) rfl dX9_step_44 ?_
    refine g_if_eq (tgt := 60) hx hb dX9_step_47 (by decide) hrfr (fun c47 => ?_) (fun c47 => ?_)
    · skip
      have hs59 : sc ps < 60 := by obtain ⟨_, _, q3, _, _⟩ := ref0 (show sRef (P ps) kd a b x y (60 ≤ sc ps) = 0 from c47); omega
      refine lv_aload_n hx hb dX9_step_60 rfl (lv_at hl 1 rfl) ?_
      refine lv_aload_n hx hb dX9_step_61 rfl (lv_at hl 1 rfl) ?_
      refine g_get (ci := 11) (v := .int (zI (Z 9))) (C := RX9) (T := TX9) (N := 24) hx hb hts iU_X9 hown hK hM ⟨by omega, by omega⟩ ho18 rfl 9 (by decide) (hts _ u_1153) (fun _ h9 => h9) rfl dX9_step_62 ?_
      rw [hz9]
      refine lv_iload_n hx hb dX9_step_65 rfl (lv_at hl 2 rfl) ?_
      refine lv_iload_n hx hb dX9_step_66 rfl (lv_at hl 3 rfl) ?_
      refine lv_iload_n hx hb dX9_step_67 rfl (lv_at hl 4 rfl) ?_
      refine lv_iload hx hb dX9_step_68 (lv_at hl 5 rfl) ?_
      refine lv_iload hx hb dX9_step_70 (lv_at hl 6 rfl) ?_
      have hf20 := hSt.kept ((o17 (h + 3) (by omega)).trans (o5 (h + 3) (by omega)))
      have hf21 := hf7.kept (o17 (h + 4) (by omega))
      have hC22 := c_X9_laysStep l g b0 n f12 h (pu (pu Z 11 (↑(294 * ps) : Int)) 15 (tRf P T sc ps kd a b x y)) St Mn ps (sc ps) kd a b x y ho18 hrg hf20 hf21 hps hmn9 (by obtain ⟨_, _, q3, _, _⟩ := ref0 (show sRef (P ps) kd a b x y (60 ≤ sc ps) = 0 from c47); omega)
      refine g_callVv (ci := 11) (C := RX9) (T := TX9) (N := 24) (As := [.int (zI (↑ps : Int)), .int (zI kd), .int (zI a), .int (zI b), .int (zI x), .int (zI y)]) (rest := []) ⟨hx, hb, hml, hown, hts⟩ hK hM hC22 (cuV (n := 6) hts u_1348 u_1345 u_10 (by decide) u_1347 us_52 ⟨Nat.le_of_ble_eq_true rfl, Nat.le_of_ble_eq_true rfl⟩) ⟨by omega, by omega⟩ ho18 rfl rfl hl.1 rfl (Nat.le_of_ble_eq_true rfl) dX9_step_72 ⟨Nat.zero_le _, Nat.zero_le _⟩ (fun f23 H locs hM hp24 => ?_)
      obtain ⟨hl3_25, hl4_26, o27⟩ := hp24
      refine lv_iload hx hb dX9_step_75 (lv_at hl 0 rfl) ?_
      have hf28 : f23 (h) = .inr (11, [.int (zI (Z 0)), .ref (h + 1), .ref (h + 2), .ref (h + 3), .ref (h + 4), .ref (h + 5), .ref (h + 6), .ref (h + 7), .ref (h + 8), .int (zI (Z 9)), .int (zI (Z 10)), .int (zI (↑(294 * ps) : Int)), .int (zI (Z 12)), .int (zI (Z 13)), .int (zI (Z 14)), .int (zI (tRf P T sc ps kd a b x y)), .int (zI (Z 16)), .ref (h + 9), .ref (h + 10), .ref (h + 11), .int (zI (Z 20)), .int (zI (Z 21)), .int (zI (Z 22)), .ref (h + 12)]) := (o27 (h) (by omega)).trans ho18
      have hf29 := hj19.kept (o27 (h + 1) (by omega))
      have hf30 := hs16.kept (fun q h1 h2 => (o27 (q) (by omega)))
      refine g_iret hx hb hr hlk hK hM dX9_step_77 ?_
      have hR1 := mRel_plan (ps := ps) (Q := dP (P ps) kd a b x y 0) hR
      rw [e3] at hR1
      have hz12 : zSt Z (294 * ps) (tRf P T sc ps kd a b x y) 12 = Z 12 := if_pos c47
      have hR2 := mRel_lay (kd := kd) (a := a) (b := b) (x := x) (y := y) hR1 hps hpx hscs (by omega)
      refine ⟨_, _, _, hf29, hl3_25, hl4_26, ?_, ?_, rfl, hf30, (fun q hq => ((o27 (q) (by omega)).trans ((o17 (q) (by omega)).trans (o5 (q) (by omega)))))⟩
      · unfold tT tS
        rw [if_pos c47, if_pos c47]
        exact hR2
      · unfold mdO
        rw [hz12]
        exact hf28
    · skip
      refine lv_aload_n hx hb dX9_step_50 rfl (lv_at hl 1 rfl) ?_
      refine lv_aload_n hx hb dX9_step_51 rfl (lv_at hl 1 rfl) ?_
      refine g_get (ci := 11) (v := .int (zI (tRf P T sc ps kd a b x y))) (C := RX9) (T := TX9) (N := 24) hx hb hts iU_X9 hown hK hM ⟨by omega, by omega⟩ ho18 rfl 15 (by decide) (hts _ u_1159) (fun _ h9 => h9) rfl dX9_step_52 ?_
      refine g_put (ci := 11) (v := .int (zI (tRf P T sc ps kd a b x y))) (ty := .int) (C := RX9) (T := TX9) (N := 24) hx hb hts iU_X9 tyX9 tyX9_ok nmX9 hown hK hM ⟨by omega, by omega⟩ ho18 rfl 12 (by decide) (hts _ u_1156) (fun _ h9 => h9) rfl (by decide +kernel) rfl rfl (Nat.le_of_ble_eq_true rfl) dX9_step_55 (fun f31 H locs hM hf33 o32 => ?_)
      have hf33 : f31 (h) = .inr (11, [.int (zI (Z 0)), .ref (h + 1), .ref (h + 2), .ref (h + 3), .ref (h + 4), .ref (h + 5), .ref (h + 6), .ref (h + 7), .ref (h + 8), .int (zI (Z 9)), .int (zI (Z 10)), .int (zI (↑(294 * ps) : Int)), .int (zI (tRf P T sc ps kd a b x y)), .int (zI (Z 13)), .int (zI (Z 14)), .int (zI (tRf P T sc ps kd a b x y)), .int (zI (Z 16)), .ref (h + 9), .ref (h + 10), .ref (h + 11), .int (zI (Z 20)), .int (zI (Z 21)), .int (zI (Z 22)), .ref (h + 12)]) := hf33
      refine g_iconst hx hb dX9_step_58 ?_
      have hf34 := hj19.kept (o32 (h + 1) (by omega))
      have hf35 := hSt.kept ((o32 (h + 3) (by omega)).trans ((o17 (h + 3) (by omega)).trans (o5 (h + 3) (by omega))))
      have hf36 := hf7.kept ((o32 (h + 4) (by omega)).trans (o17 (h + 4) (by omega)))
      have hf37 := hs16.kept (fun q h1 h2 => (o32 (q) (by omega)))
      refine g_iret hx hb hr hlk hK hM dX9_step_59 ?_
      have hR1 := mRel_plan (ps := ps) (Q := dP (P ps) kd a b x y 0) hR
      rw [e3] at hR1
      have hz12 : zSt Z (294 * ps) (tRf P T sc ps kd a b x y) 12 = tRf P T sc ps kd a b x y := if_neg c47
      refine ⟨_, _, _, hf34, hf35, hf36, ?_, ?_, by unfold tAn; rw [if_neg c47], hf37, (fun q hq => ((o32 (q) (by omega)).trans ((o17 (q) (by omega)).trans (o5 (q) (by omega)))))⟩
      · unfold tT tS
        rw [if_neg c47, if_neg c47]
        exact hR1
      · unfold mdO
        rw [hz12]
        exact hf33
  · skip
    refine g_iconst hx hb dX9_step_33 ?_
    refine lv_goto (tgt := 38) hx hb dX9_step_34 (by decide) ?_
    have hf38 := hPl.kept (o5 (h + 1) (by omega))
    have hp39 : mpAt g f4 h M (294 * ps) (P ps) := mpAt_of hf38 hbr.1
    have hf40 := hsc.kept (fun q h1 h2 => (o5 (q) (by omega)))
    have hC41 := c_X9_does l g b0 n f4 h (pu Z 11 (↑(294 * ps) : Int)) M (294 * ps) (P ps) kd a b x y 1 v0 hf6 hp39 hrg (pu_s _ _ _) (by omega) hf40 (Or.inr rfl) hrk hra hrb hrx hry hok hv1 hv0 hkd
    refine g_callVi (ci := 11) (C := RX9) (T := TX9) (N := 24) (As := [.int (zI kd), .int (zI a), .int (zI b), .int (zI x), .int (zI y), .int (zI 1)]) (rest := []) ⟨hx, hb, hml, hown, hts⟩ hK hM hC41 (cuV (n := 6) hts u_1232 u_1229 u_10 (by decide) u_1231 us_28 ⟨Nat.le_of_ble_eq_true rfl, Nat.le_of_ble_eq_true rfl⟩) ⟨by omega, by omega⟩ hf6 rfl rfl hl.1 rfl (Nat.le_of_ble_eq_true rfl) dX9_step_38 ⟨Nat.zero_le _, Nat.zero_le _⟩ (fun r38 f42 H locs hM hp43 => ?_)
    obtain ⟨hm44, rfl, hn45, hs46, o47⟩ := hp43
    obtain ⟨e1, e2, e3⟩ := does_t (P := P) (T := T) (sc := sc) (ps := ps) (kd := kd) (a := a) (b := b) (x := x) (y := y) (fl := 1) ⟨fun _ => by omega, fun _ => rfl⟩
    rw [e1] at hm44
    rw [e2]
    have ho48 : f42 h = .inr (11, [.int (zI (Z 0)), .ref (h + 1), .ref (h + 2), .ref (h + 3), .ref (h + 4), .ref (h + 5), .ref (h + 6), .ref (h + 7), .ref (h + 8), .int (zI (Z 9)), .int (zI (Z 10)), .int (zI (↑(294 * ps) : Int)), .int (zI (Z 12)), .int (zI (Z 13)), .int (zI (Z 14)), .int (zI (tRf P T sc ps kd a b x y)), .int (zI (Z 16)), .ref (h + 9), .ref (h + 10), .ref (h + 11), .int (zI (Z 20)), .int (zI (Z 21)), .int (zI (Z 22)), .ref (h + 12)]) := hm44
    have hj49 : arJ g f42 (h + 1) 2058 (mov M (294 * ps) (dP (P ps) kd a b x y 1)) := hn45
    refine lv_istore (lv' := [(6, .int (zI (tAn P T sc ps kd a b x y))), (0, .ref h), (1, .int (zI kd)), (2, .int (zI a)), (3, .int (zI b)), (4, .int (zI x)), (5, .int (zI y))]) hx hb dX9_step_41 hl (by decide) rfl (fun ls hl => ?_)
    refine lv_aload_n hx hb dX9_step_43 rfl (lv_at hl 1 rfl) ?_
    refine g_get (ci := 11) (v := .int (zI (tRf P T sc ps kd a b x y))) (C := RX9) (T := TX9) (N := 24) hx hb hts iU_X9 hown hK hM ⟨by omega, by omega⟩ ho48 rfl 15 (by decide) (hts _ u_1159) (fun _ h9 => h9) rfl dX9_step_44 ?_
    refine g_if_eq (tgt := 60) hx hb dX9_step_47 (by decide) hrfr (fun c47 => ?_) (fun c47 => ?_)
    · skip
      have hs59 : sc ps < 60 := by obtain ⟨_, _, q3, _, _⟩ := ref0 (show sRef (P ps) kd a b x y (60 ≤ sc ps) = 0 from c47); omega
      refine lv_aload_n hx hb dX9_step_60 rfl (lv_at hl 1 rfl) ?_
      refine lv_aload_n hx hb dX9_step_61 rfl (lv_at hl 1 rfl) ?_
      refine g_get (ci := 11) (v := .int (zI (Z 9))) (C := RX9) (T := TX9) (N := 24) hx hb hts iU_X9 hown hK hM ⟨by omega, by omega⟩ ho48 rfl 9 (by decide) (hts _ u_1153) (fun _ h9 => h9) rfl dX9_step_62 ?_
      rw [hz9]
      refine lv_iload_n hx hb dX9_step_65 rfl (lv_at hl 2 rfl) ?_
      refine lv_iload_n hx hb dX9_step_66 rfl (lv_at hl 3 rfl) ?_
      refine lv_iload_n hx hb dX9_step_67 rfl (lv_at hl 4 rfl) ?_
      refine lv_iload hx hb dX9_step_68 (lv_at hl 5 rfl) ?_
      refine lv_iload hx hb dX9_step_70 (lv_at hl 6 rfl) ?_
      have hf50 := hSt.kept ((o47 (h + 3) (by omega)).trans (o5 (h + 3) (by omega)))
      have hf51 := hf7.kept (o47 (h + 4) (by omega))
      have hC52 := c_X9_laysStep l g b0 n f42 h (pu (pu Z 11 (↑(294 * ps) : Int)) 15 (tRf P T sc ps kd a b x y)) St Mn ps (sc ps) kd a b x y ho48 hrg hf50 hf51 hps hmn9 (by obtain ⟨_, _, q3, _, _⟩ := ref0 (show sRef (P ps) kd a b x y (60 ≤ sc ps) = 0 from c47); omega)
      refine g_callVv (ci := 11) (C := RX9) (T := TX9) (N := 24) (As := [.int (zI (↑ps : Int)), .int (zI kd), .int (zI a), .int (zI b), .int (zI x), .int (zI y)]) (rest := []) ⟨hx, hb, hml, hown, hts⟩ hK hM hC52 (cuV (n := 6) hts u_1348 u_1345 u_10 (by decide) u_1347 us_52 ⟨Nat.le_of_ble_eq_true rfl, Nat.le_of_ble_eq_true rfl⟩) ⟨by omega, by omega⟩ ho48 rfl rfl hl.1 rfl (Nat.le_of_ble_eq_true rfl) dX9_step_72 ⟨Nat.zero_le _, Nat.zero_le _⟩ (fun f53 H locs hM hp54 => ?_)
      obtain ⟨hl3_55, hl4_56, o57⟩ := hp54
      refine lv_iload hx hb dX9_step_75 (lv_at hl 0 rfl) ?_
      have hf58 : f53 (h) = .inr (11, [.int (zI (Z 0)), .ref (h + 1), .ref (h + 2), .ref (h + 3), .ref (h + 4), .ref (h + 5), .ref (h + 6), .ref (h + 7), .ref (h + 8), .int (zI (Z 9)), .int (zI (Z 10)), .int (zI (↑(294 * ps) : Int)), .int (zI (Z 12)), .int (zI (Z 13)), .int (zI (Z 14)), .int (zI (tRf P T sc ps kd a b x y)), .int (zI (Z 16)), .ref (h + 9), .ref (h + 10), .ref (h + 11), .int (zI (Z 20)), .int (zI (Z 21)), .int (zI (Z 22)), .ref (h + 12)]) := (o57 (h) (by omega)).trans ho48
      have hf59 := hj49.kept (o57 (h + 1) (by omega))
      have hf60 := hs46.kept (fun q h1 h2 => (o57 (q) (by omega)))
      refine g_iret hx hb hr hlk hK hM dX9_step_77 ?_
      have hR1 := mRel_plan (ps := ps) (Q := dP (P ps) kd a b x y 1) hR
      rw [e3] at hR1
      have hz12 : zSt Z (294 * ps) (tRf P T sc ps kd a b x y) 12 = Z 12 := if_pos c47
      have hR2 := mRel_lay (kd := kd) (a := a) (b := b) (x := x) (y := y) hR1 hps hpx hscs (by omega)
      refine ⟨_, _, _, hf59, hl3_55, hl4_56, ?_, ?_, rfl, hf60, (fun q hq => ((o57 (q) (by omega)).trans ((o47 (q) (by omega)).trans (o5 (q) (by omega)))))⟩
      · unfold tT tS
        rw [if_pos c47, if_pos c47]
        exact hR2
      · unfold mdO
        rw [hz12]
        exact hf58
    · skip
      refine lv_aload_n hx hb dX9_step_50 rfl (lv_at hl 1 rfl) ?_
      refine lv_aload_n hx hb dX9_step_51 rfl (lv_at hl 1 rfl) ?_
      refine g_get (ci := 11) (v := .int (zI (tRf P T sc ps kd a b x y))) (C := RX9) (T := TX9) (N := 24) hx hb hts iU_X9 hown hK hM ⟨by omega, by omega⟩ ho48 rfl 15 (by decide) (hts _ u_1159) (fun _ h9 => h9) rfl dX9_step_52 ?_
      refine g_put (ci := 11) (v := .int (zI (tRf P T sc ps kd a b x y))) (ty := .int) (C := RX9) (T := TX9) (N := 24) hx hb hts iU_X9 tyX9 tyX9_ok nmX9 hown hK hM ⟨by omega, by omega⟩ ho48 rfl 12 (by decide) (hts _ u_1156) (fun _ h9 => h9) rfl (by decide +kernel) rfl rfl (Nat.le_of_ble_eq_true rfl) dX9_step_55 (fun f61 H locs hM hf63 o62 => ?_)
      have hf63 : f61 (h) = .inr (11, [.int (zI (Z 0)), .ref (h + 1), .ref (h + 2), .ref (h + 3), .ref (h + 4), .ref (h + 5), .ref (h + 6), .ref (h + 7), .ref (h + 8), .int (zI (Z 9)), .int (zI (Z 10)), .int (zI (↑(294 * ps) : Int)), .int (zI (tRf P T sc ps kd a b x y)), .int (zI (Z 13)), .int (zI (Z 14)), .int (zI (tRf P T sc ps kd a b x y)), .int (zI (Z 16)), .ref (h + 9), .ref (h + 10), .ref (h + 11), .int (zI (Z 20)), .int (zI (Z 21)), .int (zI (Z 22)), .ref (h + 12)]) := hf63
      refine g_iconst hx hb dX9_step_58 ?_
      have hf64 := hj49.kept (o62 (h + 1) (by omega))
      have hf65 := hSt.kept ((o62 (h + 3) (by omega)).trans ((o47 (h + 3) (by omega)).trans (o5 (h + 3) (by omega))))
      have hf66 := hf7.kept ((o62 (h + 4) (by omega)).trans (o47 (h + 4) (by omega)))
      have hf67 := hs46.kept (fun q h1 h2 => (o62 (q) (by omega)))
      refine g_iret hx hb hr hlk hK hM dX9_step_59 ?_
      have hR1 := mRel_plan (ps := ps) (Q := dP (P ps) kd a b x y 1) hR
      rw [e3] at hR1
      have hz12 : zSt Z (294 * ps) (tRf P T sc ps kd a b x y) 12 = tRf P T sc ps kd a b x y := if_neg c47
      refine ⟨_, _, _, hf64, hf65, hf66, ?_, ?_, by unfold tAn; rw [if_neg c47], hf67, (fun q hq => ((o62 (q) (by omega)).trans ((o47 (q) (by omega)).trans (o5 (q) (by omega)))))⟩
      · unfold tT tS
        rw [if_neg c47, if_neg c47]
        exact hR1
      · unfold mdO
        rw [hz12]
        exact hf63

def po_X9_addEnvelope (g : gE) (f : gF) (h : Nat) (Z M St Mn Pr : Nat → Int) (B P T : Nat → Nat → Int) (sc : Nat → Nat) (pr ex : Nat → Int) (ps : Nat) (a b v0 : Int) : Int32 → gF → Prop := fun r f1 => ∃ M1 St1 Mn1 : Nat → Int, arJ g f1 (h + 1) 2058 M1 ∧ arI g f1 (h + 3) 1800 St1 ∧ arI g f1 (h + 4) 6 Mn1 ∧ mRel M1 St1 Mn1 Pr B (tP P T sc ps 0 a b 0 0) (tT P T sc ps 0 a b 0 0) (tS P T sc ps 0 a b 0 0) pr ex ∧ mdO f1 h (pu (zSt Z (294 * ps) (tRf P T sc ps 0 a b 0 0)) 0 (tld (tRf P T sc ps 0 a b 0 0) 0 1 2)) ∧ r = zI (tAn P T sc ps 0 a b 0 0) ∧ scrAt g f1 h ∧ ∀ q, (q < h ∨ q = h + 2 ∨ (h + 5 ≤ q ∧ q < h + 9) ∨ h + 11 ≤ q) → f1 q = f q
set_option maxRecDepth 100000 in
set_option maxHeartbeats 1000000 in
/-- addEnvelope -/
theorem c_X9_addEnvelope (l : Launch) (g : gE) (b0 n : Nat) (f : gF) (h : Nat) (Z M St Mn Pr : Nat → Int) (B P T : Nat → Nat → Int) (sc : Nat → Nat) (pr ex : Nat → Int) (ps : Nat) (a b v0 : Int) (hO : mdO f h Z) (hrg : b0 ≤ h ∧ h + 13 ≤ b0 + n) (hPl : arJ g f (h + 1) 2058 M) (hSt : arI g f (h + 3) 1800 St) (hMn : arI g f (h + 4) 6 Mn) (hPr : arI g f (h + 5) 6 Pr) (hR : mRel M St Mn Pr B P T sc pr ex) (hz9 : Z 9 = ↑ps) (hps : ps < 6) (hpx : ex ps = 1) (hscs : ∀ k, k < 6 → ex k = 1 → sc k ≤ 60) (hsc : scrAt g f h) (hok : pOk (P ps) v0) (hv1 : 0 ≤ v0) (hv0 : v0 + 541 ≤ 800000000) (hra : rI a) (hrb : rI b) : cI l yX9_addEnvelope cX9_addEnvelope 3 (some .int) 9 276 [.ref h, .int (zI a), .int (zI b)] g b0 n f (po_X9_addEnvelope g f h Z M St Mn Pr B P T sc pr ex ps a b v0) := by
  refine gs_i (cc := cX9_addEnvelope) (maxL := 3) (ret := (some .int)) (by decide) (Nat.le_of_ble_eq_true rfl) ?_
  intro p e0 s m args below meth c ls hx hb hr hml hown hts hlk hK hM hl
  have hl : lv_has ls 3 [(0, .ref h), (1, .int (zI a)), (2, .int (zI b))] := hl
  refine lv_aload_n hx hb dX9_addEnvelope_0 rfl (lv_at hl 0 rfl) ?_
  refine lv_aload_n hx hb dX9_addEnvelope_1 rfl (lv_at hl 0 rfl) ?_
  refine g_iconst hx hb dX9_addEnvelope_2 ?_
  refine lv_iload_n hx hb dX9_addEnvelope_3 rfl (lv_at hl 1 rfl) ?_
  refine lv_iload_n hx hb dX9_addEnvelope_4 rfl (lv_at hl 2 rfl) ?_
  refine g_iconst hx hb dX9_addEnvelope_5 ?_
  refine g_iconst hx hb dX9_addEnvelope_6 ?_
  have hC1 := c_X9_step l g b0 n f h Z M St Mn Pr B P T sc pr ex ps 0 a b 0 0 v0 hO hrg hPl hSt hMn hPr hR hz9 hps hpx hscs hsc hok hv1 hv0 (by decide) (by decide) hra hrb (by decide) (by decide)
  refine g_callVi (ci := 11) (C := RX9) (T := TX9) (N := 24) (As := [.int (zI 0), .int (zI a), .int (zI b), .int (zI 0), .int (zI 0)]) (rest := [.ref h]) ⟨hx, hb, hml, hown, hts⟩ hK hM hC1 (cuV (n := 5) hts u_1225 u_1222 u_10 (by decide) u_1224 us_27 ⟨Nat.le_of_ble_eq_true rfl, Nat.le_of_ble_eq_true rfl⟩) ⟨by omega, by omega⟩ hO rfl rfl hl.1 rfl (Nat.le_of_ble_eq_true rfl) dX9_addEnvelope_7 ⟨Nat.zero_le _, Nat.zero_le _⟩ (fun r7 f2 H locs hM hp3 => ?_)
  obtain ⟨M1, St1, Mn1, hj4, hi3_5, hi4_6, hr7, hm8, rfl, hs9, o10⟩ := hp3
  refine g_iconst hx hb dX9_addEnvelope_10 ?_
  refine g_iconst hx hb dX9_addEnvelope_11 ?_
  refine g_iconst hx hb dX9_addEnvelope_12 ?_
  have hC11 := c_X9_told l g b0 n f2 h (zSt Z (294 * ps) (tRf P T sc ps 0 a b 0 0)) (tAn P T sc ps 0 a b 0 0) 0 1 2 hm8 hrg (by have := @ref_in (P ps) 0 a b 0 0 (60 ≤ sc ps) _; show rI (tRf P T sc ps 0 a b 0 0); unfold tRf; exact ⟨by omega, by omega⟩)
  refine g_callVi (ci := 11) (C := RX9) (T := TX9) (N := 24) (As := [.int (zI (tAn P T sc ps 0 a b 0 0)), .int (zI 0), .int (zI 1), .int (zI 2)]) (rest := []) ⟨hx, hb, hml, hown, hts⟩ hK hM hC11 (cuV (n := 4) hts u_1352 u_1349 u_10 (by decide) u_1351 us_53 ⟨Nat.le_of_ble_eq_true rfl, Nat.le_of_ble_eq_true rfl⟩) ⟨by omega, by omega⟩ hm8 rfl rfl hl.1 rfl (Nat.le_of_ble_eq_true rfl) dX9_addEnvelope_13 ⟨Nat.zero_le _, Nat.zero_le _⟩ (fun r13 f12 H locs hM hp13 => ?_)
  obtain ⟨rfl, hm14, o15⟩ := hp13
  have hf16 := hj4.kept (o15 (h + 1) (by omega))
  have hf17 := hi3_5.kept (o15 (h + 3) (by omega))
  have hf18 := hi4_6.kept (o15 (h + 4) (by omega))
  have hf19 := hs9.kept (fun q h1 h2 => (o15 (q) (by omega)))
  refine g_iret hx hb hr hlk hK hM dX9_addEnvelope_16 ?_
  exact ⟨_, _, _, hf16, hf17, hf18, hr7, hm14, rfl, hf19, (fun q hq => ((o15 (q) (by omega)).trans (o10 (q) (by omega))))⟩

def po_X9_setCap (g : gE) (f : gF) (h : Nat) (Z M St Mn Pr : Nat → Int) (B P T : Nat → Nat → Int) (sc : Nat → Nat) (pr ex : Nat → Int) (ps : Nat) (a b v0 : Int) : Int32 → gF → Prop := fun r f1 => ∃ M1 St1 Mn1 : Nat → Int, arJ g f1 (h + 1) 2058 M1 ∧ arI g f1 (h + 3) 1800 St1 ∧ arI g f1 (h + 4) 6 Mn1 ∧ mRel M1 St1 Mn1 Pr B (tP P T sc ps 1 a b 0 0) (tT P T sc ps 1 a b 0 0) (tS P T sc ps 1 a b 0 0) pr ex ∧ mdO f1 h (pu (zSt Z (294 * ps) (tRf P T sc ps 1 a b 0 0)) 0 (tld (tRf P T sc ps 1 a b 0 0) 1 2 3)) ∧ r = zI (tAn P T sc ps 1 a b 0 0) ∧ scrAt g f1 h ∧ ∀ q, (q < h ∨ q = h + 2 ∨ (h + 5 ≤ q ∧ q < h + 9) ∨ h + 11 ≤ q) → f1 q = f q
set_option maxRecDepth 100000 in
set_option maxHeartbeats 1000000 in
/-- setCap -/
theorem c_X9_setCap (l : Launch) (g : gE) (b0 n : Nat) (f : gF) (h : Nat) (Z M St Mn Pr : Nat → Int) (B P T : Nat → Nat → Int) (sc : Nat → Nat) (pr ex : Nat → Int) (ps : Nat) (a b v0 : Int) (hO : mdO f h Z) (hrg : b0 ≤ h ∧ h + 13 ≤ b0 + n) (hPl : arJ g f (h + 1) 2058 M) (hSt : arI g f (h + 3) 1800 St) (hMn : arI g f (h + 4) 6 Mn) (hPr : arI g f (h + 5) 6 Pr) (hR : mRel M St Mn Pr B P T sc pr ex) (hz9 : Z 9 = ↑ps) (hps : ps < 6) (hpx : ex ps = 1) (hscs : ∀ k, k < 6 → ex k = 1 → sc k ≤ 60) (hsc : scrAt g f h) (hok : pOk (P ps) v0) (hv1 : 0 ≤ v0) (hv0 : v0 + 541 ≤ 800000000) (hra : rI a) (hrb : rI b) : cI l yX9_setCap cX9_setCap 3 (some .int) 9 276 [.ref h, .int (zI a), .int (zI b)] g b0 n f (po_X9_setCap g f h Z M St Mn Pr B P T sc pr ex ps a b v0) := by
  refine gs_i (cc := cX9_setCap) (maxL := 3) (ret := (some .int)) (by decide) (Nat.le_of_ble_eq_true rfl) ?_
  intro p e0 s m args below meth c ls hx hb hr hml hown hts hlk hK hM hl
  have hl : lv_has ls 3 [(0, .ref h), (1, .int (zI a)), (2, .int (zI b))] := hl
  refine lv_aload_n hx hb dX9_setCap_0 rfl (lv_at hl 0 rfl) ?_
  refine lv_aload_n hx hb dX9_setCap_1 rfl (lv_at hl 0 rfl) ?_
  refine g_iconst hx hb dX9_setCap_2 ?_
  refine lv_iload_n hx hb dX9_setCap_3 rfl (lv_at hl 1 rfl) ?_
  refine lv_iload_n hx hb dX9_setCap_4 rfl (lv_at hl 2 rfl) ?_
  refine g_iconst hx hb dX9_setCap_5 ?_
  refine g_iconst hx hb dX9_setCap_6 ?_
  have hC1 := c_X9_step l g b0 n f h Z M St Mn Pr B P T sc pr ex ps 1 a b 0 0 v0 hO hrg hPl hSt hMn hPr hR hz9 hps hpx hscs hsc hok hv1 hv0 (by decide) (by decide) hra hrb (by decide) (by decide)
  refine g_callVi (ci := 11) (C := RX9) (T := TX9) (N := 24) (As := [.int (zI 1), .int (zI a), .int (zI b), .int (zI 0), .int (zI 0)]) (rest := [.ref h]) ⟨hx, hb, hml, hown, hts⟩ hK hM hC1 (cuV (n := 5) hts u_1225 u_1222 u_10 (by decide) u_1224 us_27 ⟨Nat.le_of_ble_eq_true rfl, Nat.le_of_ble_eq_true rfl⟩) ⟨by omega, by omega⟩ hO rfl rfl hl.1 rfl (Nat.le_of_ble_eq_true rfl) dX9_setCap_7 ⟨Nat.zero_le _, Nat.zero_le _⟩ (fun r7 f2 H locs hM hp3 => ?_)
  obtain ⟨M1, St1, Mn1, hj4, hi3_5, hi4_6, hr7, hm8, rfl, hs9, o10⟩ := hp3
  refine g_iconst hx hb dX9_setCap_10 ?_
  refine g_iconst hx hb dX9_setCap_11 ?_
  refine g_iconst hx hb dX9_setCap_12 ?_
  have hC11 := c_X9_told l g b0 n f2 h (zSt Z (294 * ps) (tRf P T sc ps 1 a b 0 0)) (tAn P T sc ps 1 a b 0 0) 1 2 3 hm8 hrg (by have := @ref_in (P ps) 1 a b 0 0 (60 ≤ sc ps) _; show rI (tRf P T sc ps 1 a b 0 0); unfold tRf; exact ⟨by omega, by omega⟩)
  refine g_callVi (ci := 11) (C := RX9) (T := TX9) (N := 24) (As := [.int (zI (tAn P T sc ps 1 a b 0 0)), .int (zI 1), .int (zI 2), .int (zI 3)]) (rest := []) ⟨hx, hb, hml, hown, hts⟩ hK hM hC11 (cuV (n := 4) hts u_1352 u_1349 u_10 (by decide) u_1351 us_53 ⟨Nat.le_of_ble_eq_true rfl, Nat.le_of_ble_eq_true rfl⟩) ⟨by omega, by omega⟩ hm8 rfl rfl hl.1 rfl (Nat.le_of_ble_eq_true rfl) dX9_setCap_13 ⟨Nat.zero_le _, Nat.zero_le _⟩ (fun r13 f12 H locs hM hp13 => ?_)
  obtain ⟨rfl, hm14, o15⟩ := hp13
  have hf16 := hj4.kept (o15 (h + 1) (by omega))
  have hf17 := hi3_5.kept (o15 (h + 3) (by omega))
  have hf18 := hi4_6.kept (o15 (h + 4) (by omega))
  have hf19 := hs9.kept (fun q h1 h2 => (o15 (q) (by omega)))
  refine g_iret hx hb hr hlk hK hM dX9_setCap_16 ?_
  exact ⟨_, _, _, hf16, hf17, hf18, hr7, hm14, rfl, hf19, (fun q hq => ((o15 (q) (by omega)).trans (o10 (q) (by omega))))⟩

def po_X9_setRollover (g : gE) (f : gF) (h : Nat) (Z M St Mn Pr : Nat → Int) (B P T : Nat → Nat → Int) (sc : Nat → Nat) (pr ex : Nat → Int) (ps : Nat) (a b v0 : Int) : Int32 → gF → Prop := fun r f1 => ∃ M1 St1 Mn1 : Nat → Int, arJ g f1 (h + 1) 2058 M1 ∧ arI g f1 (h + 3) 1800 St1 ∧ arI g f1 (h + 4) 6 Mn1 ∧ mRel M1 St1 Mn1 Pr B (tP P T sc ps 2 a b 0 0) (tT P T sc ps 2 a b 0 0) (tS P T sc ps 2 a b 0 0) pr ex ∧ mdO f1 h (pu (zSt Z (294 * ps) (tRf P T sc ps 2 a b 0 0)) 0 (tld (tRf P T sc ps 2 a b 0 0) 1 2 3)) ∧ r = zI (tAn P T sc ps 2 a b 0 0) ∧ scrAt g f1 h ∧ ∀ q, (q < h ∨ q = h + 2 ∨ (h + 5 ≤ q ∧ q < h + 9) ∨ h + 11 ≤ q) → f1 q = f q
set_option maxRecDepth 100000 in
set_option maxHeartbeats 1000000 in
/-- setRollover -/
theorem c_X9_setRollover (l : Launch) (g : gE) (b0 n : Nat) (f : gF) (h : Nat) (Z M St Mn Pr : Nat → Int) (B P T : Nat → Nat → Int) (sc : Nat → Nat) (pr ex : Nat → Int) (ps : Nat) (a b v0 : Int) (hO : mdO f h Z) (hrg : b0 ≤ h ∧ h + 13 ≤ b0 + n) (hPl : arJ g f (h + 1) 2058 M) (hSt : arI g f (h + 3) 1800 St) (hMn : arI g f (h + 4) 6 Mn) (hPr : arI g f (h + 5) 6 Pr) (hR : mRel M St Mn Pr B P T sc pr ex) (hz9 : Z 9 = ↑ps) (hps : ps < 6) (hpx : ex ps = 1) (hscs : ∀ k, k < 6 → ex k = 1 → sc k ≤ 60) (hsc : scrAt g f h) (hok : pOk (P ps) v0) (hv1 : 0 ≤ v0) (hv0 : v0 + 541 ≤ 800000000) (hra : rI a) (hrb : rI b) : cI l yX9_setRollover cX9_setRollover 3 (some .int) 9 276 [.ref h, .int (zI a), .int (zI b)] g b0 n f (po_X9_setRollover g f h Z M St Mn Pr B P T sc pr ex ps a b v0) := by
  refine gs_i (cc := cX9_setRollover) (maxL := 3) (ret := (some .int)) (by decide) (Nat.le_of_ble_eq_true rfl) ?_
  intro p e0 s m args below meth c ls hx hb hr hml hown hts hlk hK hM hl
  have hl : lv_has ls 3 [(0, .ref h), (1, .int (zI a)), (2, .int (zI b))] := hl
  refine lv_aload_n hx hb dX9_setRollover_0 rfl (lv_at hl 0 rfl) ?_
  refine lv_aload_n hx hb dX9_setRollover_1 rfl (lv_at hl 0 rfl) ?_
  refine g_iconst hx hb dX9_setRollover_2 ?_
  refine lv_iload_n hx hb dX9_setRollover_3 rfl (lv_at hl 1 rfl) ?_
  refine lv_iload_n hx hb dX9_setRollover_4 rfl (lv_at hl 2 rfl) ?_
  refine g_iconst hx hb dX9_setRollover_5 ?_
  refine g_iconst hx hb dX9_setRollover_6 ?_
  have hC1 := c_X9_step l g b0 n f h Z M St Mn Pr B P T sc pr ex ps 2 a b 0 0 v0 hO hrg hPl hSt hMn hPr hR hz9 hps hpx hscs hsc hok hv1 hv0 (by decide) (by decide) hra hrb (by decide) (by decide)
  refine g_callVi (ci := 11) (C := RX9) (T := TX9) (N := 24) (As := [.int (zI 2), .int (zI a), .int (zI b), .int (zI 0), .int (zI 0)]) (rest := [.ref h]) ⟨hx, hb, hml, hown, hts⟩ hK hM hC1 (cuV (n := 5) hts u_1225 u_1222 u_10 (by decide) u_1224 us_27 ⟨Nat.le_of_ble_eq_true rfl, Nat.le_of_ble_eq_true rfl⟩) ⟨by omega, by omega⟩ hO rfl rfl hl.1 rfl (Nat.le_of_ble_eq_true rfl) dX9_setRollover_7 ⟨Nat.zero_le _, Nat.zero_le _⟩ (fun r7 f2 H locs hM hp3 => ?_)
  obtain ⟨M1, St1, Mn1, hj4, hi3_5, hi4_6, hr7, hm8, rfl, hs9, o10⟩ := hp3
  refine g_iconst hx hb dX9_setRollover_10 ?_
  refine g_iconst hx hb dX9_setRollover_11 ?_
  refine g_iconst hx hb dX9_setRollover_12 ?_
  have hC11 := c_X9_told l g b0 n f2 h (zSt Z (294 * ps) (tRf P T sc ps 2 a b 0 0)) (tAn P T sc ps 2 a b 0 0) 1 2 3 hm8 hrg (by have := @ref_in (P ps) 2 a b 0 0 (60 ≤ sc ps) _; show rI (tRf P T sc ps 2 a b 0 0); unfold tRf; exact ⟨by omega, by omega⟩)
  refine g_callVi (ci := 11) (C := RX9) (T := TX9) (N := 24) (As := [.int (zI (tAn P T sc ps 2 a b 0 0)), .int (zI 1), .int (zI 2), .int (zI 3)]) (rest := []) ⟨hx, hb, hml, hown, hts⟩ hK hM hC11 (cuV (n := 4) hts u_1352 u_1349 u_10 (by decide) u_1351 us_53 ⟨Nat.le_of_ble_eq_true rfl, Nat.le_of_ble_eq_true rfl⟩) ⟨by omega, by omega⟩ hm8 rfl rfl hl.1 rfl (Nat.le_of_ble_eq_true rfl) dX9_setRollover_13 ⟨Nat.zero_le _, Nat.zero_le _⟩ (fun r13 f12 H locs hM hp13 => ?_)
  obtain ⟨rfl, hm14, o15⟩ := hp13
  have hf16 := hj4.kept (o15 (h + 1) (by omega))
  have hf17 := hi3_5.kept (o15 (h + 3) (by omega))
  have hf18 := hi4_6.kept (o15 (h + 4) (by omega))
  have hf19 := hs9.kept (fun q h1 h2 => (o15 (q) (by omega)))
  refine g_iret hx hb hr hlk hK hM dX9_setRollover_16 ?_
  exact ⟨_, _, _, hf16, hf17, hf18, hr7, hm14, rfl, hf19, (fun q hq => ((o15 (q) (by omega)).trans (o10 (q) (by omega))))⟩

def po_X9_addRule (g : gE) (f : gF) (h : Nat) (Z M St Mn Pr : Nat → Int) (B P T : Nat → Nat → Int) (sc : Nat → Nat) (pr ex : Nat → Int) (ps : Nat) (a b x v0 : Int) : Int32 → gF → Prop := fun r f1 => ∃ M1 St1 Mn1 : Nat → Int, arJ g f1 (h + 1) 2058 M1 ∧ arI g f1 (h + 3) 1800 St1 ∧ arI g f1 (h + 4) 6 Mn1 ∧ mRel M1 St1 Mn1 Pr B (tP P T sc ps 3 a b x 0) (tT P T sc ps 3 a b x 0) (tS P T sc ps 3 a b x 0) pr ex ∧ mdO f1 h (pu (zSt Z (294 * ps) (tRf P T sc ps 3 a b x 0)) 0 (tld (tRf P T sc ps 3 a b x 0) 1 2 3)) ∧ r = zI (tAn P T sc ps 3 a b x 0) ∧ scrAt g f1 h ∧ ∀ q, (q < h ∨ q = h + 2 ∨ (h + 5 ≤ q ∧ q < h + 9) ∨ h + 11 ≤ q) → f1 q = f q
set_option maxRecDepth 100000 in
set_option maxHeartbeats 1000000 in
/-- addRule -/
theorem c_X9_addRule (l : Launch) (g : gE) (b0 n : Nat) (f : gF) (h : Nat) (Z M St Mn Pr : Nat → Int) (B P T : Nat → Nat → Int) (sc : Nat → Nat) (pr ex : Nat → Int) (ps : Nat) (a b x v0 : Int) (hO : mdO f h Z) (hrg : b0 ≤ h ∧ h + 13 ≤ b0 + n) (hPl : arJ g f (h + 1) 2058 M) (hSt : arI g f (h + 3) 1800 St) (hMn : arI g f (h + 4) 6 Mn) (hPr : arI g f (h + 5) 6 Pr) (hR : mRel M St Mn Pr B P T sc pr ex) (hz9 : Z 9 = ↑ps) (hps : ps < 6) (hpx : ex ps = 1) (hscs : ∀ k, k < 6 → ex k = 1 → sc k ≤ 60) (hsc : scrAt g f h) (hok : pOk (P ps) v0) (hv1 : 0 ≤ v0) (hv0 : v0 + 541 ≤ 800000000) (hra : rI a) (hrb : rI b) (hrx : rI x) : cI l yX9_addRule cX9_addRule 4 (some .int) 9 276 [.ref h, .int (zI a), .int (zI b), .int (zI x)] g b0 n f (po_X9_addRule g f h Z M St Mn Pr B P T sc pr ex ps a b x v0) := by
  refine gs_i (cc := cX9_addRule) (maxL := 4) (ret := (some .int)) (by decide) (Nat.le_of_ble_eq_true rfl) ?_
  intro p e0 s m args below meth c ls hx hb hr hml hown hts hlk hK hM hl
  have hl : lv_has ls 4 [(0, .ref h), (1, .int (zI a)), (2, .int (zI b)), (3, .int (zI x))] := hl
  refine lv_aload_n hx hb dX9_addRule_0 rfl (lv_at hl 0 rfl) ?_
  refine lv_aload_n hx hb dX9_addRule_1 rfl (lv_at hl 0 rfl) ?_
  refine g_iconst hx hb dX9_addRule_2 ?_
  refine lv_iload_n hx hb dX9_addRule_3 rfl (lv_at hl 1 rfl) ?_
  refine lv_iload_n hx hb dX9_addRule_4 rfl (lv_at hl 2 rfl) ?_
  refine lv_iload_n hx hb dX9_addRule_5 rfl (lv_at hl 3 rfl) ?_
  refine g_iconst hx hb dX9_addRule_6 ?_
  have hC1 := c_X9_step l g b0 n f h Z M St Mn Pr B P T sc pr ex ps 3 a b x 0 v0 hO hrg hPl hSt hMn hPr hR hz9 hps hpx hscs hsc hok hv1 hv0 (by decide) (by decide) hra hrb hrx (by decide)
  refine g_callVi (ci := 11) (C := RX9) (T := TX9) (N := 24) (As := [.int (zI 3), .int (zI a), .int (zI b), .int (zI x), .int (zI 0)]) (rest := [.ref h]) ⟨hx, hb, hml, hown, hts⟩ hK hM hC1 (cuV (n := 5) hts u_1225 u_1222 u_10 (by decide) u_1224 us_27 ⟨Nat.le_of_ble_eq_true rfl, Nat.le_of_ble_eq_true rfl⟩) ⟨by omega, by omega⟩ hO rfl rfl hl.1 rfl (Nat.le_of_ble_eq_true rfl) dX9_addRule_7 ⟨Nat.zero_le _, Nat.zero_le _⟩ (fun r7 f2 H locs hM hp3 => ?_)
  obtain ⟨M1, St1, Mn1, hj4, hi3_5, hi4_6, hr7, hm8, rfl, hs9, o10⟩ := hp3
  refine g_iconst hx hb dX9_addRule_10 ?_
  refine g_iconst hx hb dX9_addRule_11 ?_
  refine g_iconst hx hb dX9_addRule_12 ?_
  have hC11 := c_X9_told l g b0 n f2 h (zSt Z (294 * ps) (tRf P T sc ps 3 a b x 0)) (tAn P T sc ps 3 a b x 0) 1 2 3 hm8 hrg (by have := @ref_in (P ps) 3 a b x 0 (60 ≤ sc ps) _; show rI (tRf P T sc ps 3 a b x 0); unfold tRf; exact ⟨by omega, by omega⟩)
  refine g_callVi (ci := 11) (C := RX9) (T := TX9) (N := 24) (As := [.int (zI (tAn P T sc ps 3 a b x 0)), .int (zI 1), .int (zI 2), .int (zI 3)]) (rest := []) ⟨hx, hb, hml, hown, hts⟩ hK hM hC11 (cuV (n := 4) hts u_1352 u_1349 u_10 (by decide) u_1351 us_53 ⟨Nat.le_of_ble_eq_true rfl, Nat.le_of_ble_eq_true rfl⟩) ⟨by omega, by omega⟩ hm8 rfl rfl hl.1 rfl (Nat.le_of_ble_eq_true rfl) dX9_addRule_13 ⟨Nat.zero_le _, Nat.zero_le _⟩ (fun r13 f12 H locs hM hp13 => ?_)
  obtain ⟨rfl, hm14, o15⟩ := hp13
  have hf16 := hj4.kept (o15 (h + 1) (by omega))
  have hf17 := hi3_5.kept (o15 (h + 3) (by omega))
  have hf18 := hi4_6.kept (o15 (h + 4) (by omega))
  have hf19 := hs9.kept (fun q h1 h2 => (o15 (q) (by omega)))
  refine g_iret hx hb hr hlk hK hM dX9_addRule_16 ?_
  exact ⟨_, _, _, hf16, hf17, hf18, hr7, hm14, rfl, hf19, (fun q hq => ((o15 (q) (by omega)).trans (o10 (q) (by omega))))⟩

def po_X9_removeRule (g : gE) (f : gF) (h : Nat) (Z M St Mn Pr : Nat → Int) (B P T : Nat → Nat → Int) (sc : Nat → Nat) (pr ex : Nat → Int) (ps : Nat) (a v0 : Int) : Int32 → gF → Prop := fun r f1 => ∃ M1 St1 Mn1 : Nat → Int, arJ g f1 (h + 1) 2058 M1 ∧ arI g f1 (h + 3) 1800 St1 ∧ arI g f1 (h + 4) 6 Mn1 ∧ mRel M1 St1 Mn1 Pr B (tP P T sc ps 4 a 0 0 0) (tT P T sc ps 4 a 0 0 0) (tS P T sc ps 4 a 0 0 0) pr ex ∧ mdO f1 h (pu (zSt Z (294 * ps) (tRf P T sc ps 4 a 0 0 0)) 0 (tld (tRf P T sc ps 4 a 0 0 0) 1 0 2)) ∧ r = zI (tAn P T sc ps 4 a 0 0 0) ∧ scrAt g f1 h ∧ ∀ q, (q < h ∨ q = h + 2 ∨ (h + 5 ≤ q ∧ q < h + 9) ∨ h + 11 ≤ q) → f1 q = f q
set_option maxRecDepth 100000 in
set_option maxHeartbeats 1000000 in
/-- removeRule -/
theorem c_X9_removeRule (l : Launch) (g : gE) (b0 n : Nat) (f : gF) (h : Nat) (Z M St Mn Pr : Nat → Int) (B P T : Nat → Nat → Int) (sc : Nat → Nat) (pr ex : Nat → Int) (ps : Nat) (a v0 : Int) (hO : mdO f h Z) (hrg : b0 ≤ h ∧ h + 13 ≤ b0 + n) (hPl : arJ g f (h + 1) 2058 M) (hSt : arI g f (h + 3) 1800 St) (hMn : arI g f (h + 4) 6 Mn) (hPr : arI g f (h + 5) 6 Pr) (hR : mRel M St Mn Pr B P T sc pr ex) (hz9 : Z 9 = ↑ps) (hps : ps < 6) (hpx : ex ps = 1) (hscs : ∀ k, k < 6 → ex k = 1 → sc k ≤ 60) (hsc : scrAt g f h) (hok : pOk (P ps) v0) (hv1 : 0 ≤ v0) (hv0 : v0 + 541 ≤ 800000000) (hra : rI a) : cI l yX9_removeRule cX9_removeRule 2 (some .int) 9 276 [.ref h, .int (zI a)] g b0 n f (po_X9_removeRule g f h Z M St Mn Pr B P T sc pr ex ps a v0) := by
  refine gs_i (cc := cX9_removeRule) (maxL := 2) (ret := (some .int)) (by decide) (Nat.le_of_ble_eq_true rfl) ?_
  intro p e0 s m args below meth c ls hx hb hr hml hown hts hlk hK hM hl
  have hl : lv_has ls 2 [(0, .ref h), (1, .int (zI a))] := hl
  refine lv_aload_n hx hb dX9_removeRule_0 rfl (lv_at hl 0 rfl) ?_
  refine lv_aload_n hx hb dX9_removeRule_1 rfl (lv_at hl 0 rfl) ?_
  refine g_iconst hx hb dX9_removeRule_2 ?_
  refine lv_iload_n hx hb dX9_removeRule_3 rfl (lv_at hl 1 rfl) ?_
  refine g_iconst hx hb dX9_removeRule_4 ?_
  refine g_iconst hx hb dX9_removeRule_5 ?_
  refine g_iconst hx hb dX9_removeRule_6 ?_
  have hC1 := c_X9_step l g b0 n f h Z M St Mn Pr B P T sc pr ex ps 4 a 0 0 0 v0 hO hrg hPl hSt hMn hPr hR hz9 hps hpx hscs hsc hok hv1 hv0 (by decide) (by decide) hra (by decide) (by decide) (by decide)
  refine g_callVi (ci := 11) (C := RX9) (T := TX9) (N := 24) (As := [.int (zI 4), .int (zI a), .int (zI 0), .int (zI 0), .int (zI 0)]) (rest := [.ref h]) ⟨hx, hb, hml, hown, hts⟩ hK hM hC1 (cuV (n := 5) hts u_1225 u_1222 u_10 (by decide) u_1224 us_27 ⟨Nat.le_of_ble_eq_true rfl, Nat.le_of_ble_eq_true rfl⟩) ⟨by omega, by omega⟩ hO rfl rfl hl.1 rfl (Nat.le_of_ble_eq_true rfl) dX9_removeRule_7 ⟨Nat.zero_le _, Nat.zero_le _⟩ (fun r7 f2 H locs hM hp3 => ?_)
  obtain ⟨M1, St1, Mn1, hj4, hi3_5, hi4_6, hr7, hm8, rfl, hs9, o10⟩ := hp3
  refine g_iconst hx hb dX9_removeRule_10 ?_
  refine g_iconst hx hb dX9_removeRule_11 ?_
  refine g_iconst hx hb dX9_removeRule_12 ?_
  have hC11 := c_X9_told l g b0 n f2 h (zSt Z (294 * ps) (tRf P T sc ps 4 a 0 0 0)) (tAn P T sc ps 4 a 0 0 0) 1 0 2 hm8 hrg (by have := @ref_in (P ps) 4 a 0 0 0 (60 ≤ sc ps) _; show rI (tRf P T sc ps 4 a 0 0 0); unfold tRf; exact ⟨by omega, by omega⟩)
  refine g_callVi (ci := 11) (C := RX9) (T := TX9) (N := 24) (As := [.int (zI (tAn P T sc ps 4 a 0 0 0)), .int (zI 1), .int (zI 0), .int (zI 2)]) (rest := []) ⟨hx, hb, hml, hown, hts⟩ hK hM hC11 (cuV (n := 4) hts u_1352 u_1349 u_10 (by decide) u_1351 us_53 ⟨Nat.le_of_ble_eq_true rfl, Nat.le_of_ble_eq_true rfl⟩) ⟨by omega, by omega⟩ hm8 rfl rfl hl.1 rfl (Nat.le_of_ble_eq_true rfl) dX9_removeRule_13 ⟨Nat.zero_le _, Nat.zero_le _⟩ (fun r13 f12 H locs hM hp13 => ?_)
  obtain ⟨rfl, hm14, o15⟩ := hp13
  have hf16 := hj4.kept (o15 (h + 1) (by omega))
  have hf17 := hi3_5.kept (o15 (h + 3) (by omega))
  have hf18 := hi4_6.kept (o15 (h + 4) (by omega))
  have hf19 := hs9.kept (fun q h1 h2 => (o15 (q) (by omega)))
  refine g_iret hx hb hr hlk hK hM dX9_removeRule_16 ?_
  exact ⟨_, _, _, hf16, hf17, hf18, hr7, hm14, rfl, hf19, (fun q hq => ((o15 (q) (by omega)).trans (o10 (q) (by omega))))⟩

def po_X9_addLink (g : gE) (f : gF) (h : Nat) (Z M St Mn Pr : Nat → Int) (B P T : Nat → Nat → Int) (sc : Nat → Nat) (pr ex : Nat → Int) (ps : Nat) (a b x y v0 : Int) : Int32 → gF → Prop := fun r f1 => ∃ M1 St1 Mn1 : Nat → Int, arJ g f1 (h + 1) 2058 M1 ∧ arI g f1 (h + 3) 1800 St1 ∧ arI g f1 (h + 4) 6 Mn1 ∧ mRel M1 St1 Mn1 Pr B (tP P T sc ps 5 a b x y) (tT P T sc ps 5 a b x y) (tS P T sc ps 5 a b x y) pr ex ∧ mdO f1 h (pu (zSt Z (294 * ps) (tRf P T sc ps 5 a b x y)) 0 (tld (tRf P T sc ps 5 a b x y) 1 2 3)) ∧ r = zI (tAn P T sc ps 5 a b x y) ∧ scrAt g f1 h ∧ ∀ q, (q < h ∨ q = h + 2 ∨ (h + 5 ≤ q ∧ q < h + 9) ∨ h + 11 ≤ q) → f1 q = f q
set_option maxRecDepth 100000 in
set_option maxHeartbeats 1000000 in
/-- addLink -/
theorem c_X9_addLink (l : Launch) (g : gE) (b0 n : Nat) (f : gF) (h : Nat) (Z M St Mn Pr : Nat → Int) (B P T : Nat → Nat → Int) (sc : Nat → Nat) (pr ex : Nat → Int) (ps : Nat) (a b x y v0 : Int) (hO : mdO f h Z) (hrg : b0 ≤ h ∧ h + 13 ≤ b0 + n) (hPl : arJ g f (h + 1) 2058 M) (hSt : arI g f (h + 3) 1800 St) (hMn : arI g f (h + 4) 6 Mn) (hPr : arI g f (h + 5) 6 Pr) (hR : mRel M St Mn Pr B P T sc pr ex) (hz9 : Z 9 = ↑ps) (hps : ps < 6) (hpx : ex ps = 1) (hscs : ∀ k, k < 6 → ex k = 1 → sc k ≤ 60) (hsc : scrAt g f h) (hok : pOk (P ps) v0) (hv1 : 0 ≤ v0) (hv0 : v0 + 541 ≤ 800000000) (hra : rI a) (hrb : rI b) (hrx : rI x) (hry : rI y) : cI l yX9_addLink cX9_addLink 5 (some .int) 9 276 [.ref h, .int (zI a), .int (zI b), .int (zI x), .int (zI y)] g b0 n f (po_X9_addLink g f h Z M St Mn Pr B P T sc pr ex ps a b x y v0) := by
  refine gs_i (cc := cX9_addLink) (maxL := 5) (ret := (some .int)) (by decide) (Nat.le_of_ble_eq_true rfl) ?_
  intro p e0 s m args below meth c ls hx hb hr hml hown hts hlk hK hM hl
  have hl : lv_has ls 5 [(0, .ref h), (1, .int (zI a)), (2, .int (zI b)), (3, .int (zI x)), (4, .int (zI y))] := hl
  refine lv_aload_n hx hb dX9_addLink_0 rfl (lv_at hl 0 rfl) ?_
  refine lv_aload_n hx hb dX9_addLink_1 rfl (lv_at hl 0 rfl) ?_
  refine g_iconst hx hb dX9_addLink_2 ?_
  refine lv_iload_n hx hb dX9_addLink_3 rfl (lv_at hl 1 rfl) ?_
  refine lv_iload_n hx hb dX9_addLink_4 rfl (lv_at hl 2 rfl) ?_
  refine lv_iload_n hx hb dX9_addLink_5 rfl (lv_at hl 3 rfl) ?_
  refine lv_iload hx hb dX9_addLink_6 (lv_at hl 4 rfl) ?_
  have hC1 := c_X9_step l g b0 n f h Z M St Mn Pr B P T sc pr ex ps 5 a b x y v0 hO hrg hPl hSt hMn hPr hR hz9 hps hpx hscs hsc hok hv1 hv0 (by decide) (by decide) hra hrb hrx hry
  refine g_callVi (ci := 11) (C := RX9) (T := TX9) (N := 24) (As := [.int (zI 5), .int (zI a), .int (zI b), .int (zI x), .int (zI y)]) (rest := [.ref h]) ⟨hx, hb, hml, hown, hts⟩ hK hM hC1 (cuV (n := 5) hts u_1225 u_1222 u_10 (by decide) u_1224 us_27 ⟨Nat.le_of_ble_eq_true rfl, Nat.le_of_ble_eq_true rfl⟩) ⟨by omega, by omega⟩ hO rfl rfl hl.1 rfl (Nat.le_of_ble_eq_true rfl) dX9_addLink_8 ⟨Nat.zero_le _, Nat.zero_le _⟩ (fun r8 f2 H locs hM hp3 => ?_)
  obtain ⟨M1, St1, Mn1, hj4, hi3_5, hi4_6, hr7, hm8, rfl, hs9, o10⟩ := hp3
  refine g_iconst hx hb dX9_addLink_11 ?_
  refine g_iconst hx hb dX9_addLink_12 ?_
  refine g_iconst hx hb dX9_addLink_13 ?_
  have hC11 := c_X9_told l g b0 n f2 h (zSt Z (294 * ps) (tRf P T sc ps 5 a b x y)) (tAn P T sc ps 5 a b x y) 1 2 3 hm8 hrg (by have := @ref_in (P ps) 5 a b x y (60 ≤ sc ps) _; show rI (tRf P T sc ps 5 a b x y); unfold tRf; exact ⟨by omega, by omega⟩)
  refine g_callVi (ci := 11) (C := RX9) (T := TX9) (N := 24) (As := [.int (zI (tAn P T sc ps 5 a b x y)), .int (zI 1), .int (zI 2), .int (zI 3)]) (rest := []) ⟨hx, hb, hml, hown, hts⟩ hK hM hC11 (cuV (n := 4) hts u_1352 u_1349 u_10 (by decide) u_1351 us_53 ⟨Nat.le_of_ble_eq_true rfl, Nat.le_of_ble_eq_true rfl⟩) ⟨by omega, by omega⟩ hm8 rfl rfl hl.1 rfl (Nat.le_of_ble_eq_true rfl) dX9_addLink_14 ⟨Nat.zero_le _, Nat.zero_le _⟩ (fun r14 f12 H locs hM hp13 => ?_)
  obtain ⟨rfl, hm14, o15⟩ := hp13
  have hf16 := hj4.kept (o15 (h + 1) (by omega))
  have hf17 := hi3_5.kept (o15 (h + 3) (by omega))
  have hf18 := hi4_6.kept (o15 (h + 4) (by omega))
  have hf19 := hs9.kept (fun q h1 h2 => (o15 (q) (by omega)))
  refine g_iret hx hb hr hlk hK hM dX9_addLink_17 ?_
  exact ⟨_, _, _, hf16, hf17, hf18, hr7, hm14, rfl, hf19, (fun q hq => ((o15 (q) (by omega)).trans (o10 (q) (by omega))))⟩

def po_X9_removeLink (g : gE) (f : gF) (h : Nat) (Z M St Mn Pr : Nat → Int) (B P T : Nat → Nat → Int) (sc : Nat → Nat) (pr ex : Nat → Int) (ps : Nat) (a v0 : Int) : Int32 → gF → Prop := fun r f1 => ∃ M1 St1 Mn1 : Nat → Int, arJ g f1 (h + 1) 2058 M1 ∧ arI g f1 (h + 3) 1800 St1 ∧ arI g f1 (h + 4) 6 Mn1 ∧ mRel M1 St1 Mn1 Pr B (tP P T sc ps 6 a 0 0 0) (tT P T sc ps 6 a 0 0 0) (tS P T sc ps 6 a 0 0 0) pr ex ∧ mdO f1 h (pu (zSt Z (294 * ps) (tRf P T sc ps 6 a 0 0 0)) 0 (tld (tRf P T sc ps 6 a 0 0 0) 1 0 2)) ∧ r = zI (tAn P T sc ps 6 a 0 0 0) ∧ scrAt g f1 h ∧ ∀ q, (q < h ∨ q = h + 2 ∨ (h + 5 ≤ q ∧ q < h + 9) ∨ h + 11 ≤ q) → f1 q = f q
set_option maxRecDepth 100000 in
set_option maxHeartbeats 1000000 in
/-- removeLink -/
theorem c_X9_removeLink (l : Launch) (g : gE) (b0 n : Nat) (f : gF) (h : Nat) (Z M St Mn Pr : Nat → Int) (B P T : Nat → Nat → Int) (sc : Nat → Nat) (pr ex : Nat → Int) (ps : Nat) (a v0 : Int) (hO : mdO f h Z) (hrg : b0 ≤ h ∧ h + 13 ≤ b0 + n) (hPl : arJ g f (h + 1) 2058 M) (hSt : arI g f (h + 3) 1800 St) (hMn : arI g f (h + 4) 6 Mn) (hPr : arI g f (h + 5) 6 Pr) (hR : mRel M St Mn Pr B P T sc pr ex) (hz9 : Z 9 = ↑ps) (hps : ps < 6) (hpx : ex ps = 1) (hscs : ∀ k, k < 6 → ex k = 1 → sc k ≤ 60) (hsc : scrAt g f h) (hok : pOk (P ps) v0) (hv1 : 0 ≤ v0) (hv0 : v0 + 541 ≤ 800000000) (hra : rI a) : cI l yX9_removeLink cX9_removeLink 2 (some .int) 9 276 [.ref h, .int (zI a)] g b0 n f (po_X9_removeLink g f h Z M St Mn Pr B P T sc pr ex ps a v0) := by
  refine gs_i (cc := cX9_removeLink) (maxL := 2) (ret := (some .int)) (by decide) (Nat.le_of_ble_eq_true rfl) ?_
  intro p e0 s m args below meth c ls hx hb hr hml hown hts hlk hK hM hl
  have hl : lv_has ls 2 [(0, .ref h), (1, .int (zI a))] := hl
  refine lv_aload_n hx hb dX9_removeLink_0 rfl (lv_at hl 0 rfl) ?_
  refine lv_aload_n hx hb dX9_removeLink_1 rfl (lv_at hl 0 rfl) ?_
  refine g_bipush hx hb dX9_removeLink_2 (by decide) ?_
  refine lv_iload_n hx hb dX9_removeLink_4 rfl (lv_at hl 1 rfl) ?_
  refine g_iconst hx hb dX9_removeLink_5 ?_
  refine g_iconst hx hb dX9_removeLink_6 ?_
  refine g_iconst hx hb dX9_removeLink_7 ?_
  have hC1 := c_X9_step l g b0 n f h Z M St Mn Pr B P T sc pr ex ps 6 a 0 0 0 v0 hO hrg hPl hSt hMn hPr hR hz9 hps hpx hscs hsc hok hv1 hv0 (by decide) (by decide) hra (by decide) (by decide) (by decide)
  refine g_callVi (ci := 11) (C := RX9) (T := TX9) (N := 24) (As := [.int (zI 6), .int (zI a), .int (zI 0), .int (zI 0), .int (zI 0)]) (rest := [.ref h]) ⟨hx, hb, hml, hown, hts⟩ hK hM hC1 (cuV (n := 5) hts u_1225 u_1222 u_10 (by decide) u_1224 us_27 ⟨Nat.le_of_ble_eq_true rfl, Nat.le_of_ble_eq_true rfl⟩) ⟨by omega, by omega⟩ hO rfl rfl hl.1 rfl (Nat.le_of_ble_eq_true rfl) dX9_removeLink_8 ⟨Nat.zero_le _, Nat.zero_le _⟩ (fun r8 f2 H locs hM hp3 => ?_)
  obtain ⟨M1, St1, Mn1, hj4, hi3_5, hi4_6, hr7, hm8, rfl, hs9, o10⟩ := hp3
  refine g_iconst hx hb dX9_removeLink_11 ?_
  refine g_iconst hx hb dX9_removeLink_12 ?_
  refine g_iconst hx hb dX9_removeLink_13 ?_
  have hC11 := c_X9_told l g b0 n f2 h (zSt Z (294 * ps) (tRf P T sc ps 6 a 0 0 0)) (tAn P T sc ps 6 a 0 0 0) 1 0 2 hm8 hrg (by have := @ref_in (P ps) 6 a 0 0 0 (60 ≤ sc ps) _; show rI (tRf P T sc ps 6 a 0 0 0); unfold tRf; exact ⟨by omega, by omega⟩)
  refine g_callVi (ci := 11) (C := RX9) (T := TX9) (N := 24) (As := [.int (zI (tAn P T sc ps 6 a 0 0 0)), .int (zI 1), .int (zI 0), .int (zI 2)]) (rest := []) ⟨hx, hb, hml, hown, hts⟩ hK hM hC11 (cuV (n := 4) hts u_1352 u_1349 u_10 (by decide) u_1351 us_53 ⟨Nat.le_of_ble_eq_true rfl, Nat.le_of_ble_eq_true rfl⟩) ⟨by omega, by omega⟩ hm8 rfl rfl hl.1 rfl (Nat.le_of_ble_eq_true rfl) dX9_removeLink_14 ⟨Nat.zero_le _, Nat.zero_le _⟩ (fun r14 f12 H locs hM hp13 => ?_)
  obtain ⟨rfl, hm14, o15⟩ := hp13
  have hf16 := hj4.kept (o15 (h + 1) (by omega))
  have hf17 := hi3_5.kept (o15 (h + 3) (by omega))
  have hf18 := hi4_6.kept (o15 (h + 4) (by omega))
  have hf19 := hs9.kept (fun q h1 h2 => (o15 (q) (by omega)))
  refine g_iret hx hb hr hlk hK hM dX9_removeLink_17 ?_
  exact ⟨_, _, _, hf16, hf17, hf18, hr7, hm14, rfl, hf19, (fun q hq => ((o15 (q) (by omega)).trans (o10 (q) (by omega))))⟩

def po_X9_addItem (g : gE) (f : gF) (h : Nat) (Z M St Mn Pr : Nat → Int) (B P T : Nat → Nat → Int) (sc : Nat → Nat) (pr ex : Nat → Int) (ps : Nat) (a b x y v0 : Int) : Int32 → gF → Prop := fun r f1 => ∃ M1 St1 Mn1 : Nat → Int, arJ g f1 (h + 1) 2058 M1 ∧ arI g f1 (h + 3) 1800 St1 ∧ arI g f1 (h + 4) 6 Mn1 ∧ mRel M1 St1 Mn1 Pr B (tP P T sc ps 7 a b x y) (tT P T sc ps 7 a b x y) (tS P T sc ps 7 a b x y) pr ex ∧ mdO f1 h (pu (zSt Z (294 * ps) (tRf P T sc ps 7 a b x y)) 0 (tld (tRf P T sc ps 7 a b x y) 1 2 3)) ∧ r = zI (tAn P T sc ps 7 a b x y) ∧ scrAt g f1 h ∧ ∀ q, (q < h ∨ q = h + 2 ∨ (h + 5 ≤ q ∧ q < h + 9) ∨ h + 11 ≤ q) → f1 q = f q
set_option maxRecDepth 100000 in
set_option maxHeartbeats 1000000 in
/-- addItem -/
theorem c_X9_addItem (l : Launch) (g : gE) (b0 n : Nat) (f : gF) (h : Nat) (Z M St Mn Pr : Nat → Int) (B P T : Nat → Nat → Int) (sc : Nat → Nat) (pr ex : Nat → Int) (ps : Nat) (a b x y v0 : Int) (hO : mdO f h Z) (hrg : b0 ≤ h ∧ h + 13 ≤ b0 + n) (hPl : arJ g f (h + 1) 2058 M) (hSt : arI g f (h + 3) 1800 St) (hMn : arI g f (h + 4) 6 Mn) (hPr : arI g f (h + 5) 6 Pr) (hR : mRel M St Mn Pr B P T sc pr ex) (hz9 : Z 9 = ↑ps) (hps : ps < 6) (hpx : ex ps = 1) (hscs : ∀ k, k < 6 → ex k = 1 → sc k ≤ 60) (hsc : scrAt g f h) (hok : pOk (P ps) v0) (hv1 : 0 ≤ v0) (hv0 : v0 + 541 ≤ 800000000) (hra : rI a) (hrb : rI b) (hrx : rI x) (hry : rI y) : cI l yX9_addItem cX9_addItem 5 (some .int) 9 276 [.ref h, .int (zI a), .int (zI b), .int (zI x), .int (zI y)] g b0 n f (po_X9_addItem g f h Z M St Mn Pr B P T sc pr ex ps a b x y v0) := by
  refine gs_i (cc := cX9_addItem) (maxL := 5) (ret := (some .int)) (by decide) (Nat.le_of_ble_eq_true rfl) ?_
  intro p e0 s m args below meth c ls hx hb hr hml hown hts hlk hK hM hl
  have hl : lv_has ls 5 [(0, .ref h), (1, .int (zI a)), (2, .int (zI b)), (3, .int (zI x)), (4, .int (zI y))] := hl
  refine lv_aload_n hx hb dX9_addItem_0 rfl (lv_at hl 0 rfl) ?_
  refine lv_aload_n hx hb dX9_addItem_1 rfl (lv_at hl 0 rfl) ?_
  refine g_bipush hx hb dX9_addItem_2 (by decide) ?_
  refine lv_iload_n hx hb dX9_addItem_4 rfl (lv_at hl 1 rfl) ?_
  refine lv_iload_n hx hb dX9_addItem_5 rfl (lv_at hl 2 rfl) ?_
  refine lv_iload_n hx hb dX9_addItem_6 rfl (lv_at hl 3 rfl) ?_
  refine lv_iload hx hb dX9_addItem_7 (lv_at hl 4 rfl) ?_
  have hC1 := c_X9_step l g b0 n f h Z M St Mn Pr B P T sc pr ex ps 7 a b x y v0 hO hrg hPl hSt hMn hPr hR hz9 hps hpx hscs hsc hok hv1 hv0 (by decide) (by decide) hra hrb hrx hry
  refine g_callVi (ci := 11) (C := RX9) (T := TX9) (N := 24) (As := [.int (zI 7), .int (zI a), .int (zI b), .int (zI x), .int (zI y)]) (rest := [.ref h]) ⟨hx, hb, hml, hown, hts⟩ hK hM hC1 (cuV (n := 5) hts u_1225 u_1222 u_10 (by decide) u_1224 us_27 ⟨Nat.le_of_ble_eq_true rfl, Nat.le_of_ble_eq_true rfl⟩) ⟨by omega, by omega⟩ hO rfl rfl hl.1 rfl (Nat.le_of_ble_eq_true rfl) dX9_addItem_9 ⟨Nat.zero_le _, Nat.zero_le _⟩ (fun r9 f2 H locs hM hp3 => ?_)
  obtain ⟨M1, St1, Mn1, hj4, hi3_5, hi4_6, hr7, hm8, rfl, hs9, o10⟩ := hp3
  refine g_iconst hx hb dX9_addItem_12 ?_
  refine g_iconst hx hb dX9_addItem_13 ?_
  refine g_iconst hx hb dX9_addItem_14 ?_
  have hC11 := c_X9_told l g b0 n f2 h (zSt Z (294 * ps) (tRf P T sc ps 7 a b x y)) (tAn P T sc ps 7 a b x y) 1 2 3 hm8 hrg (by have := @ref_in (P ps) 7 a b x y (60 ≤ sc ps) _; show rI (tRf P T sc ps 7 a b x y); unfold tRf; exact ⟨by omega, by omega⟩)
  refine g_callVi (ci := 11) (C := RX9) (T := TX9) (N := 24) (As := [.int (zI (tAn P T sc ps 7 a b x y)), .int (zI 1), .int (zI 2), .int (zI 3)]) (rest := []) ⟨hx, hb, hml, hown, hts⟩ hK hM hC11 (cuV (n := 4) hts u_1352 u_1349 u_10 (by decide) u_1351 us_53 ⟨Nat.le_of_ble_eq_true rfl, Nat.le_of_ble_eq_true rfl⟩) ⟨by omega, by omega⟩ hm8 rfl rfl hl.1 rfl (Nat.le_of_ble_eq_true rfl) dX9_addItem_15 ⟨Nat.zero_le _, Nat.zero_le _⟩ (fun r15 f12 H locs hM hp13 => ?_)
  obtain ⟨rfl, hm14, o15⟩ := hp13
  have hf16 := hj4.kept (o15 (h + 1) (by omega))
  have hf17 := hi3_5.kept (o15 (h + 3) (by omega))
  have hf18 := hi4_6.kept (o15 (h + 4) (by omega))
  have hf19 := hs9.kept (fun q h1 h2 => (o15 (q) (by omega)))
  refine g_iret hx hb hr hlk hK hM dX9_addItem_18 ?_
  exact ⟨_, _, _, hf16, hf17, hf18, hr7, hm14, rfl, hf19, (fun q hq => ((o15 (q) (by omega)).trans (o10 (q) (by omega))))⟩

def po_X9_removeItem (g : gE) (f : gF) (h : Nat) (Z M St Mn Pr : Nat → Int) (B P T : Nat → Nat → Int) (sc : Nat → Nat) (pr ex : Nat → Int) (ps : Nat) (a v0 : Int) : Int32 → gF → Prop := fun r f1 => ∃ M1 St1 Mn1 : Nat → Int, arJ g f1 (h + 1) 2058 M1 ∧ arI g f1 (h + 3) 1800 St1 ∧ arI g f1 (h + 4) 6 Mn1 ∧ mRel M1 St1 Mn1 Pr B (tP P T sc ps 8 a 0 0 0) (tT P T sc ps 8 a 0 0 0) (tS P T sc ps 8 a 0 0 0) pr ex ∧ mdO f1 h (pu (zSt Z (294 * ps) (tRf P T sc ps 8 a 0 0 0)) 0 (tld (tRf P T sc ps 8 a 0 0 0) 1 0 2)) ∧ r = zI (tAn P T sc ps 8 a 0 0 0) ∧ scrAt g f1 h ∧ ∀ q, (q < h ∨ q = h + 2 ∨ (h + 5 ≤ q ∧ q < h + 9) ∨ h + 11 ≤ q) → f1 q = f q
set_option maxRecDepth 100000 in
set_option maxHeartbeats 1000000 in
/-- removeItem -/
theorem c_X9_removeItem (l : Launch) (g : gE) (b0 n : Nat) (f : gF) (h : Nat) (Z M St Mn Pr : Nat → Int) (B P T : Nat → Nat → Int) (sc : Nat → Nat) (pr ex : Nat → Int) (ps : Nat) (a v0 : Int) (hO : mdO f h Z) (hrg : b0 ≤ h ∧ h + 13 ≤ b0 + n) (hPl : arJ g f (h + 1) 2058 M) (hSt : arI g f (h + 3) 1800 St) (hMn : arI g f (h + 4) 6 Mn) (hPr : arI g f (h + 5) 6 Pr) (hR : mRel M St Mn Pr B P T sc pr ex) (hz9 : Z 9 = ↑ps) (hps : ps < 6) (hpx : ex ps = 1) (hscs : ∀ k, k < 6 → ex k = 1 → sc k ≤ 60) (hsc : scrAt g f h) (hok : pOk (P ps) v0) (hv1 : 0 ≤ v0) (hv0 : v0 + 541 ≤ 800000000) (hra : rI a) : cI l yX9_removeItem cX9_removeItem 2 (some .int) 9 276 [.ref h, .int (zI a)] g b0 n f (po_X9_removeItem g f h Z M St Mn Pr B P T sc pr ex ps a v0) := by
  refine gs_i (cc := cX9_removeItem) (maxL := 2) (ret := (some .int)) (by decide) (Nat.le_of_ble_eq_true rfl) ?_
  intro p e0 s m args below meth c ls hx hb hr hml hown hts hlk hK hM hl
  have hl : lv_has ls 2 [(0, .ref h), (1, .int (zI a))] := hl
  refine lv_aload_n hx hb dX9_removeItem_0 rfl (lv_at hl 0 rfl) ?_
  refine lv_aload_n hx hb dX9_removeItem_1 rfl (lv_at hl 0 rfl) ?_
  refine g_bipush hx hb dX9_removeItem_2 (by decide) ?_
  refine lv_iload_n hx hb dX9_removeItem_4 rfl (lv_at hl 1 rfl) ?_
  refine g_iconst hx hb dX9_removeItem_5 ?_
  refine g_iconst hx hb dX9_removeItem_6 ?_
  refine g_iconst hx hb dX9_removeItem_7 ?_
  have hC1 := c_X9_step l g b0 n f h Z M St Mn Pr B P T sc pr ex ps 8 a 0 0 0 v0 hO hrg hPl hSt hMn hPr hR hz9 hps hpx hscs hsc hok hv1 hv0 (by decide) (by decide) hra (by decide) (by decide) (by decide)
  refine g_callVi (ci := 11) (C := RX9) (T := TX9) (N := 24) (As := [.int (zI 8), .int (zI a), .int (zI 0), .int (zI 0), .int (zI 0)]) (rest := [.ref h]) ⟨hx, hb, hml, hown, hts⟩ hK hM hC1 (cuV (n := 5) hts u_1225 u_1222 u_10 (by decide) u_1224 us_27 ⟨Nat.le_of_ble_eq_true rfl, Nat.le_of_ble_eq_true rfl⟩) ⟨by omega, by omega⟩ hO rfl rfl hl.1 rfl (Nat.le_of_ble_eq_true rfl) dX9_removeItem_8 ⟨Nat.zero_le _, Nat.zero_le _⟩ (fun r8 f2 H locs hM hp3 => ?_)
  obtain ⟨M1, St1, Mn1, hj4, hi3_5, hi4_6, hr7, hm8, rfl, hs9, o10⟩ := hp3
  refine g_iconst hx hb dX9_removeItem_11 ?_
  refine g_iconst hx hb dX9_removeItem_12 ?_
  refine g_iconst hx hb dX9_removeItem_13 ?_
  have hC11 := c_X9_told l g b0 n f2 h (zSt Z (294 * ps) (tRf P T sc ps 8 a 0 0 0)) (tAn P T sc ps 8 a 0 0 0) 1 0 2 hm8 hrg (by have := @ref_in (P ps) 8 a 0 0 0 (60 ≤ sc ps) _; show rI (tRf P T sc ps 8 a 0 0 0); unfold tRf; exact ⟨by omega, by omega⟩)
  refine g_callVi (ci := 11) (C := RX9) (T := TX9) (N := 24) (As := [.int (zI (tAn P T sc ps 8 a 0 0 0)), .int (zI 1), .int (zI 0), .int (zI 2)]) (rest := []) ⟨hx, hb, hml, hown, hts⟩ hK hM hC11 (cuV (n := 4) hts u_1352 u_1349 u_10 (by decide) u_1351 us_53 ⟨Nat.le_of_ble_eq_true rfl, Nat.le_of_ble_eq_true rfl⟩) ⟨by omega, by omega⟩ hm8 rfl rfl hl.1 rfl (Nat.le_of_ble_eq_true rfl) dX9_removeItem_14 ⟨Nat.zero_le _, Nat.zero_le _⟩ (fun r14 f12 H locs hM hp13 => ?_)
  obtain ⟨rfl, hm14, o15⟩ := hp13
  have hf16 := hj4.kept (o15 (h + 1) (by omega))
  have hf17 := hi3_5.kept (o15 (h + 3) (by omega))
  have hf18 := hi4_6.kept (o15 (h + 4) (by omega))
  have hf19 := hs9.kept (fun q h1 h2 => (o15 (q) (by omega)))
  refine g_iret hx hb hr hlk hK hM dX9_removeItem_17 ?_
  exact ⟨_, _, _, hf16, hf17, hf18, hr7, hm14, rfl, hf19, (fun q hq => ((o15 (q) (by omega)).trans (o10 (q) (by omega))))⟩

def po_X9_receive (g : gE) (f : gF) (h : Nat) (Z M St Mn Pr : Nat → Int) (B P T : Nat → Nat → Int) (sc : Nat → Nat) (pr ex : Nat → Int) (ps : Nat) (a v0 : Int) : Int32 → gF → Prop := fun r f1 => ∃ M1 St1 Mn1 : Nat → Int, arJ g f1 (h + 1) 2058 M1 ∧ arI g f1 (h + 3) 1800 St1 ∧ arI g f1 (h + 4) 6 Mn1 ∧ mRel M1 St1 Mn1 Pr B (tP P T sc ps 9 a 0 0 0) (tT P T sc ps 9 a 0 0 0) (tS P T sc ps 9 a 0 0 0) pr ex ∧ mdO f1 h (pu (zSt Z (294 * ps) (tRf P T sc ps 9 a 0 0 0)) 0 (tld (tRf P T sc ps 9 a 0 0 0) 0 1 2)) ∧ r = zI (tAn P T sc ps 9 a 0 0 0) ∧ scrAt g f1 h ∧ ∀ q, (q < h ∨ q = h + 2 ∨ (h + 5 ≤ q ∧ q < h + 9) ∨ h + 11 ≤ q) → f1 q = f q
set_option maxRecDepth 100000 in
set_option maxHeartbeats 1000000 in
/-- receive -/
theorem c_X9_receive (l : Launch) (g : gE) (b0 n : Nat) (f : gF) (h : Nat) (Z M St Mn Pr : Nat → Int) (B P T : Nat → Nat → Int) (sc : Nat → Nat) (pr ex : Nat → Int) (ps : Nat) (a v0 : Int) (hO : mdO f h Z) (hrg : b0 ≤ h ∧ h + 13 ≤ b0 + n) (hPl : arJ g f (h + 1) 2058 M) (hSt : arI g f (h + 3) 1800 St) (hMn : arI g f (h + 4) 6 Mn) (hPr : arI g f (h + 5) 6 Pr) (hR : mRel M St Mn Pr B P T sc pr ex) (hz9 : Z 9 = ↑ps) (hps : ps < 6) (hpx : ex ps = 1) (hscs : ∀ k, k < 6 → ex k = 1 → sc k ≤ 60) (hsc : scrAt g f h) (hok : pOk (P ps) v0) (hv1 : 0 ≤ v0) (hv0 : v0 + 541 ≤ 800000000) (hra : rI a) : cI l yX9_receive cX9_receive 2 (some .int) 9 276 [.ref h, .int (zI a)] g b0 n f (po_X9_receive g f h Z M St Mn Pr B P T sc pr ex ps a v0) := by
  refine gs_i (cc := cX9_receive) (maxL := 2) (ret := (some .int)) (by decide) (Nat.le_of_ble_eq_true rfl) ?_
  intro p e0 s m args below meth c ls hx hb hr hml hown hts hlk hK hM hl
  have hl : lv_has ls 2 [(0, .ref h), (1, .int (zI a))] := hl
  refine lv_aload_n hx hb dX9_receive_0 rfl (lv_at hl 0 rfl) ?_
  refine lv_aload_n hx hb dX9_receive_1 rfl (lv_at hl 0 rfl) ?_
  refine g_bipush hx hb dX9_receive_2 (by decide) ?_
  refine lv_iload_n hx hb dX9_receive_4 rfl (lv_at hl 1 rfl) ?_
  refine g_iconst hx hb dX9_receive_5 ?_
  refine g_iconst hx hb dX9_receive_6 ?_
  refine g_iconst hx hb dX9_receive_7 ?_
  have hC1 := c_X9_step l g b0 n f h Z M St Mn Pr B P T sc pr ex ps 9 a 0 0 0 v0 hO hrg hPl hSt hMn hPr hR hz9 hps hpx hscs hsc hok hv1 hv0 (by decide) (by decide) hra (by decide) (by decide) (by decide)
  refine g_callVi (ci := 11) (C := RX9) (T := TX9) (N := 24) (As := [.int (zI 9), .int (zI a), .int (zI 0), .int (zI 0), .int (zI 0)]) (rest := [.ref h]) ⟨hx, hb, hml, hown, hts⟩ hK hM hC1 (cuV (n := 5) hts u_1225 u_1222 u_10 (by decide) u_1224 us_27 ⟨Nat.le_of_ble_eq_true rfl, Nat.le_of_ble_eq_true rfl⟩) ⟨by omega, by omega⟩ hO rfl rfl hl.1 rfl (Nat.le_of_ble_eq_true rfl) dX9_receive_8 ⟨Nat.zero_le _, Nat.zero_le _⟩ (fun r8 f2 H locs hM hp3 => ?_)
  obtain ⟨M1, St1, Mn1, hj4, hi3_5, hi4_6, hr7, hm8, rfl, hs9, o10⟩ := hp3
  refine g_iconst hx hb dX9_receive_11 ?_
  refine g_iconst hx hb dX9_receive_12 ?_
  refine g_iconst hx hb dX9_receive_13 ?_
  have hC11 := c_X9_told l g b0 n f2 h (zSt Z (294 * ps) (tRf P T sc ps 9 a 0 0 0)) (tAn P T sc ps 9 a 0 0 0) 0 1 2 hm8 hrg (by have := @ref_in (P ps) 9 a 0 0 0 (60 ≤ sc ps) _; show rI (tRf P T sc ps 9 a 0 0 0); unfold tRf; exact ⟨by omega, by omega⟩)
  refine g_callVi (ci := 11) (C := RX9) (T := TX9) (N := 24) (As := [.int (zI (tAn P T sc ps 9 a 0 0 0)), .int (zI 0), .int (zI 1), .int (zI 2)]) (rest := []) ⟨hx, hb, hml, hown, hts⟩ hK hM hC11 (cuV (n := 4) hts u_1352 u_1349 u_10 (by decide) u_1351 us_53 ⟨Nat.le_of_ble_eq_true rfl, Nat.le_of_ble_eq_true rfl⟩) ⟨by omega, by omega⟩ hm8 rfl rfl hl.1 rfl (Nat.le_of_ble_eq_true rfl) dX9_receive_14 ⟨Nat.zero_le _, Nat.zero_le _⟩ (fun r14 f12 H locs hM hp13 => ?_)
  obtain ⟨rfl, hm14, o15⟩ := hp13
  have hf16 := hj4.kept (o15 (h + 1) (by omega))
  have hf17 := hi3_5.kept (o15 (h + 3) (by omega))
  have hf18 := hi4_6.kept (o15 (h + 4) (by omega))
  have hf19 := hs9.kept (fun q h1 h2 => (o15 (q) (by omega)))
  refine g_iret hx hb hr hlk hK hM dX9_receive_17 ?_
  exact ⟨_, _, _, hf16, hf17, hf18, hr7, hm14, rfl, hf19, (fun q hq => ((o15 (q) (by omega)).trans (o10 (q) (by omega))))⟩

def po_X9_spend (g : gE) (f : gF) (h : Nat) (Z M St Mn Pr : Nat → Int) (B P T : Nat → Nat → Int) (sc : Nat → Nat) (pr ex : Nat → Int) (ps : Nat) (a b v0 : Int) : Int32 → gF → Prop := fun r f1 => ∃ M1 St1 Mn1 : Nat → Int, arJ g f1 (h + 1) 2058 M1 ∧ arI g f1 (h + 3) 1800 St1 ∧ arI g f1 (h + 4) 6 Mn1 ∧ mRel M1 St1 Mn1 Pr B (tP P T sc ps 10 a b 0 0) (tT P T sc ps 10 a b 0 0) (tS P T sc ps 10 a b 0 0) pr ex ∧ mdO f1 h (pu (zSt Z (294 * ps) (tRf P T sc ps 10 a b 0 0)) 0 (tld (tRf P T sc ps 10 a b 0 0) 1 2 3)) ∧ r = zI (tAn P T sc ps 10 a b 0 0) ∧ scrAt g f1 h ∧ ∀ q, (q < h ∨ q = h + 2 ∨ (h + 5 ≤ q ∧ q < h + 9) ∨ h + 11 ≤ q) → f1 q = f q
set_option maxRecDepth 100000 in
set_option maxHeartbeats 1000000 in
/-- spend -/
theorem c_X9_spend (l : Launch) (g : gE) (b0 n : Nat) (f : gF) (h : Nat) (Z M St Mn Pr : Nat → Int) (B P T : Nat → Nat → Int) (sc : Nat → Nat) (pr ex : Nat → Int) (ps : Nat) (a b v0 : Int) (hO : mdO f h Z) (hrg : b0 ≤ h ∧ h + 13 ≤ b0 + n) (hPl : arJ g f (h + 1) 2058 M) (hSt : arI g f (h + 3) 1800 St) (hMn : arI g f (h + 4) 6 Mn) (hPr : arI g f (h + 5) 6 Pr) (hR : mRel M St Mn Pr B P T sc pr ex) (hz9 : Z 9 = ↑ps) (hps : ps < 6) (hpx : ex ps = 1) (hscs : ∀ k, k < 6 → ex k = 1 → sc k ≤ 60) (hsc : scrAt g f h) (hok : pOk (P ps) v0) (hv1 : 0 ≤ v0) (hv0 : v0 + 541 ≤ 800000000) (hra : rI a) (hrb : rI b) : cI l yX9_spend cX9_spend 3 (some .int) 9 276 [.ref h, .int (zI a), .int (zI b)] g b0 n f (po_X9_spend g f h Z M St Mn Pr B P T sc pr ex ps a b v0) := by
  refine gs_i (cc := cX9_spend) (maxL := 3) (ret := (some .int)) (by decide) (Nat.le_of_ble_eq_true rfl) ?_
  intro p e0 s m args below meth c ls hx hb hr hml hown hts hlk hK hM hl
  have hl : lv_has ls 3 [(0, .ref h), (1, .int (zI a)), (2, .int (zI b))] := hl
  refine lv_aload_n hx hb dX9_spend_0 rfl (lv_at hl 0 rfl) ?_
  refine lv_aload_n hx hb dX9_spend_1 rfl (lv_at hl 0 rfl) ?_
  refine g_bipush hx hb dX9_spend_2 (by decide) ?_
  refine lv_iload_n hx hb dX9_spend_4 rfl (lv_at hl 1 rfl) ?_
  refine lv_iload_n hx hb dX9_spend_5 rfl (lv_at hl 2 rfl) ?_
  refine g_iconst hx hb dX9_spend_6 ?_
  refine g_iconst hx hb dX9_spend_7 ?_
  have hC1 := c_X9_step l g b0 n f h Z M St Mn Pr B P T sc pr ex ps 10 a b 0 0 v0 hO hrg hPl hSt hMn hPr hR hz9 hps hpx hscs hsc hok hv1 hv0 (by decide) (by decide) hra hrb (by decide) (by decide)
  refine g_callVi (ci := 11) (C := RX9) (T := TX9) (N := 24) (As := [.int (zI 10), .int (zI a), .int (zI b), .int (zI 0), .int (zI 0)]) (rest := [.ref h]) ⟨hx, hb, hml, hown, hts⟩ hK hM hC1 (cuV (n := 5) hts u_1225 u_1222 u_10 (by decide) u_1224 us_27 ⟨Nat.le_of_ble_eq_true rfl, Nat.le_of_ble_eq_true rfl⟩) ⟨by omega, by omega⟩ hO rfl rfl hl.1 rfl (Nat.le_of_ble_eq_true rfl) dX9_spend_8 ⟨Nat.zero_le _, Nat.zero_le _⟩ (fun r8 f2 H locs hM hp3 => ?_)
  obtain ⟨M1, St1, Mn1, hj4, hi3_5, hi4_6, hr7, hm8, rfl, hs9, o10⟩ := hp3
  refine g_iconst hx hb dX9_spend_11 ?_
  refine g_iconst hx hb dX9_spend_12 ?_
  refine g_iconst hx hb dX9_spend_13 ?_
  have hC11 := c_X9_told l g b0 n f2 h (zSt Z (294 * ps) (tRf P T sc ps 10 a b 0 0)) (tAn P T sc ps 10 a b 0 0) 1 2 3 hm8 hrg (by have := @ref_in (P ps) 10 a b 0 0 (60 ≤ sc ps) _; show rI (tRf P T sc ps 10 a b 0 0); unfold tRf; exact ⟨by omega, by omega⟩)
  refine g_callVi (ci := 11) (C := RX9) (T := TX9) (N := 24) (As := [.int (zI (tAn P T sc ps 10 a b 0 0)), .int (zI 1), .int (zI 2), .int (zI 3)]) (rest := []) ⟨hx, hb, hml, hown, hts⟩ hK hM hC11 (cuV (n := 4) hts u_1352 u_1349 u_10 (by decide) u_1351 us_53 ⟨Nat.le_of_ble_eq_true rfl, Nat.le_of_ble_eq_true rfl⟩) ⟨by omega, by omega⟩ hm8 rfl rfl hl.1 rfl (Nat.le_of_ble_eq_true rfl) dX9_spend_14 ⟨Nat.zero_le _, Nat.zero_le _⟩ (fun r14 f12 H locs hM hp13 => ?_)
  obtain ⟨rfl, hm14, o15⟩ := hp13
  have hf16 := hj4.kept (o15 (h + 1) (by omega))
  have hf17 := hi3_5.kept (o15 (h + 3) (by omega))
  have hf18 := hi4_6.kept (o15 (h + 4) (by omega))
  have hf19 := hs9.kept (fun q h1 h2 => (o15 (q) (by omega)))
  refine g_iret hx hb hr hlk hK hM dX9_spend_17 ?_
  exact ⟨_, _, _, hf16, hf17, hf18, hr7, hm14, rfl, hf19, (fun q hq => ((o15 (q) (by omega)).trans (o10 (q) (by omega))))⟩

def po_X9_move (g : gE) (f : gF) (h : Nat) (Z M St Mn Pr : Nat → Int) (B P T : Nat → Nat → Int) (sc : Nat → Nat) (pr ex : Nat → Int) (ps : Nat) (a b x v0 : Int) : Int32 → gF → Prop := fun r f1 => ∃ M1 St1 Mn1 : Nat → Int, arJ g f1 (h + 1) 2058 M1 ∧ arI g f1 (h + 3) 1800 St1 ∧ arI g f1 (h + 4) 6 Mn1 ∧ mRel M1 St1 Mn1 Pr B (tP P T sc ps 11 a b x 0) (tT P T sc ps 11 a b x 0) (tS P T sc ps 11 a b x 0) pr ex ∧ mdO f1 h (pu (zSt Z (294 * ps) (tRf P T sc ps 11 a b x 0)) 0 (tld (tRf P T sc ps 11 a b x 0) 1 2 3)) ∧ r = zI (tAn P T sc ps 11 a b x 0) ∧ scrAt g f1 h ∧ ∀ q, (q < h ∨ q = h + 2 ∨ (h + 5 ≤ q ∧ q < h + 9) ∨ h + 11 ≤ q) → f1 q = f q
set_option maxRecDepth 100000 in
set_option maxHeartbeats 1000000 in
/-- move -/
theorem c_X9_move (l : Launch) (g : gE) (b0 n : Nat) (f : gF) (h : Nat) (Z M St Mn Pr : Nat → Int) (B P T : Nat → Nat → Int) (sc : Nat → Nat) (pr ex : Nat → Int) (ps : Nat) (a b x v0 : Int) (hO : mdO f h Z) (hrg : b0 ≤ h ∧ h + 13 ≤ b0 + n) (hPl : arJ g f (h + 1) 2058 M) (hSt : arI g f (h + 3) 1800 St) (hMn : arI g f (h + 4) 6 Mn) (hPr : arI g f (h + 5) 6 Pr) (hR : mRel M St Mn Pr B P T sc pr ex) (hz9 : Z 9 = ↑ps) (hps : ps < 6) (hpx : ex ps = 1) (hscs : ∀ k, k < 6 → ex k = 1 → sc k ≤ 60) (hsc : scrAt g f h) (hok : pOk (P ps) v0) (hv1 : 0 ≤ v0) (hv0 : v0 + 541 ≤ 800000000) (hra : rI a) (hrb : rI b) (hrx : rI x) : cI l yX9_move cX9_move 4 (some .int) 9 276 [.ref h, .int (zI a), .int (zI b), .int (zI x)] g b0 n f (po_X9_move g f h Z M St Mn Pr B P T sc pr ex ps a b x v0) := by
  refine gs_i (cc := cX9_move) (maxL := 4) (ret := (some .int)) (by decide) (Nat.le_of_ble_eq_true rfl) ?_
  intro p e0 s m args below meth c ls hx hb hr hml hown hts hlk hK hM hl
  have hl : lv_has ls 4 [(0, .ref h), (1, .int (zI a)), (2, .int (zI b)), (3, .int (zI x))] := hl
  refine lv_aload_n hx hb dX9_move_0 rfl (lv_at hl 0 rfl) ?_
  refine lv_aload_n hx hb dX9_move_1 rfl (lv_at hl 0 rfl) ?_
  refine g_bipush hx hb dX9_move_2 (by decide) ?_
  refine lv_iload_n hx hb dX9_move_4 rfl (lv_at hl 1 rfl) ?_
  refine lv_iload_n hx hb dX9_move_5 rfl (lv_at hl 2 rfl) ?_
  refine lv_iload_n hx hb dX9_move_6 rfl (lv_at hl 3 rfl) ?_
  refine g_iconst hx hb dX9_move_7 ?_
  have hC1 := c_X9_step l g b0 n f h Z M St Mn Pr B P T sc pr ex ps 11 a b x 0 v0 hO hrg hPl hSt hMn hPr hR hz9 hps hpx hscs hsc hok hv1 hv0 (by decide) (by decide) hra hrb hrx (by decide)
  refine g_callVi (ci := 11) (C := RX9) (T := TX9) (N := 24) (As := [.int (zI 11), .int (zI a), .int (zI b), .int (zI x), .int (zI 0)]) (rest := [.ref h]) ⟨hx, hb, hml, hown, hts⟩ hK hM hC1 (cuV (n := 5) hts u_1225 u_1222 u_10 (by decide) u_1224 us_27 ⟨Nat.le_of_ble_eq_true rfl, Nat.le_of_ble_eq_true rfl⟩) ⟨by omega, by omega⟩ hO rfl rfl hl.1 rfl (Nat.le_of_ble_eq_true rfl) dX9_move_8 ⟨Nat.zero_le _, Nat.zero_le _⟩ (fun r8 f2 H locs hM hp3 => ?_)
  obtain ⟨M1, St1, Mn1, hj4, hi3_5, hi4_6, hr7, hm8, rfl, hs9, o10⟩ := hp3
  refine g_iconst hx hb dX9_move_11 ?_
  refine g_iconst hx hb dX9_move_12 ?_
  refine g_iconst hx hb dX9_move_13 ?_
  have hC11 := c_X9_told l g b0 n f2 h (zSt Z (294 * ps) (tRf P T sc ps 11 a b x 0)) (tAn P T sc ps 11 a b x 0) 1 2 3 hm8 hrg (by have := @ref_in (P ps) 11 a b x 0 (60 ≤ sc ps) _; show rI (tRf P T sc ps 11 a b x 0); unfold tRf; exact ⟨by omega, by omega⟩)
  refine g_callVi (ci := 11) (C := RX9) (T := TX9) (N := 24) (As := [.int (zI (tAn P T sc ps 11 a b x 0)), .int (zI 1), .int (zI 2), .int (zI 3)]) (rest := []) ⟨hx, hb, hml, hown, hts⟩ hK hM hC11 (cuV (n := 4) hts u_1352 u_1349 u_10 (by decide) u_1351 us_53 ⟨Nat.le_of_ble_eq_true rfl, Nat.le_of_ble_eq_true rfl⟩) ⟨by omega, by omega⟩ hm8 rfl rfl hl.1 rfl (Nat.le_of_ble_eq_true rfl) dX9_move_14 ⟨Nat.zero_le _, Nat.zero_le _⟩ (fun r14 f12 H locs hM hp13 => ?_)
  obtain ⟨rfl, hm14, o15⟩ := hp13
  have hf16 := hj4.kept (o15 (h + 1) (by omega))
  have hf17 := hi3_5.kept (o15 (h + 3) (by omega))
  have hf18 := hi4_6.kept (o15 (h + 4) (by omega))
  have hf19 := hs9.kept (fun q h1 h2 => (o15 (q) (by omega)))
  refine g_iret hx hb hr hlk hK hM dX9_move_17 ?_
  exact ⟨_, _, _, hf16, hf17, hf18, hr7, hm14, rfl, hf19, (fun q hq => ((o15 (q) (by omega)).trans (o10 (q) (by omega))))⟩

def po_X9_advance (g : gE) (f : gF) (h : Nat) (Z M St Mn Pr : Nat → Int) (B P T : Nat → Nat → Int) (sc : Nat → Nat) (pr ex : Nat → Int) (ps : Nat) (a v0 : Int) : Int32 → gF → Prop := fun r f1 => ∃ M1 St1 Mn1 : Nat → Int, arJ g f1 (h + 1) 2058 M1 ∧ arI g f1 (h + 3) 1800 St1 ∧ arI g f1 (h + 4) 6 Mn1 ∧ mRel M1 St1 Mn1 Pr B (tP P T sc ps 12 a 0 0 0) (tT P T sc ps 12 a 0 0 0) (tS P T sc ps 12 a 0 0 0) pr ex ∧ mdO f1 h (pu (zSt Z (294 * ps) (tRf P T sc ps 12 a 0 0 0)) 0 (tld (tRf P T sc ps 12 a 0 0 0) 0 1 2)) ∧ r = zI (tAn P T sc ps 12 a 0 0 0) ∧ scrAt g f1 h ∧ ∀ q, (q < h ∨ q = h + 2 ∨ (h + 5 ≤ q ∧ q < h + 9) ∨ h + 11 ≤ q) → f1 q = f q
set_option maxRecDepth 100000 in
set_option maxHeartbeats 1000000 in
/-- advance -/
theorem c_X9_advance (l : Launch) (g : gE) (b0 n : Nat) (f : gF) (h : Nat) (Z M St Mn Pr : Nat → Int) (B P T : Nat → Nat → Int) (sc : Nat → Nat) (pr ex : Nat → Int) (ps : Nat) (a v0 : Int) (hO : mdO f h Z) (hrg : b0 ≤ h ∧ h + 13 ≤ b0 + n) (hPl : arJ g f (h + 1) 2058 M) (hSt : arI g f (h + 3) 1800 St) (hMn : arI g f (h + 4) 6 Mn) (hPr : arI g f (h + 5) 6 Pr) (hR : mRel M St Mn Pr B P T sc pr ex) (hz9 : Z 9 = ↑ps) (hps : ps < 6) (hpx : ex ps = 1) (hscs : ∀ k, k < 6 → ex k = 1 → sc k ≤ 60) (hsc : scrAt g f h) (hok : pOk (P ps) v0) (hv1 : 0 ≤ v0) (hv0 : v0 + 541 ≤ 800000000) (hra : rI a) : cI l yX9_advance cX9_advance 2 (some .int) 9 276 [.ref h, .int (zI a)] g b0 n f (po_X9_advance g f h Z M St Mn Pr B P T sc pr ex ps a v0) := by
  refine gs_i (cc := cX9_advance) (maxL := 2) (ret := (some .int)) (by decide) (Nat.le_of_ble_eq_true rfl) ?_
  intro p e0 s m args below meth c ls hx hb hr hml hown hts hlk hK hM hl
  have hl : lv_has ls 2 [(0, .ref h), (1, .int (zI a))] := hl
  refine lv_aload_n hx hb dX9_advance_0 rfl (lv_at hl 0 rfl) ?_
  refine lv_aload_n hx hb dX9_advance_1 rfl (lv_at hl 0 rfl) ?_
  refine g_bipush hx hb dX9_advance_2 (by decide) ?_
  refine lv_iload_n hx hb dX9_advance_4 rfl (lv_at hl 1 rfl) ?_
  refine g_iconst hx hb dX9_advance_5 ?_
  refine g_iconst hx hb dX9_advance_6 ?_
  refine g_iconst hx hb dX9_advance_7 ?_
  have hC1 := c_X9_step l g b0 n f h Z M St Mn Pr B P T sc pr ex ps 12 a 0 0 0 v0 hO hrg hPl hSt hMn hPr hR hz9 hps hpx hscs hsc hok hv1 hv0 (by decide) (by decide) hra (by decide) (by decide) (by decide)
  refine g_callVi (ci := 11) (C := RX9) (T := TX9) (N := 24) (As := [.int (zI 12), .int (zI a), .int (zI 0), .int (zI 0), .int (zI 0)]) (rest := [.ref h]) ⟨hx, hb, hml, hown, hts⟩ hK hM hC1 (cuV (n := 5) hts u_1225 u_1222 u_10 (by decide) u_1224 us_27 ⟨Nat.le_of_ble_eq_true rfl, Nat.le_of_ble_eq_true rfl⟩) ⟨by omega, by omega⟩ hO rfl rfl hl.1 rfl (Nat.le_of_ble_eq_true rfl) dX9_advance_8 ⟨Nat.zero_le _, Nat.zero_le _⟩ (fun r8 f2 H locs hM hp3 => ?_)
  obtain ⟨M1, St1, Mn1, hj4, hi3_5, hi4_6, hr7, hm8, rfl, hs9, o10⟩ := hp3
  refine g_iconst hx hb dX9_advance_11 ?_
  refine g_iconst hx hb dX9_advance_12 ?_
  refine g_iconst hx hb dX9_advance_13 ?_
  have hC11 := c_X9_told l g b0 n f2 h (zSt Z (294 * ps) (tRf P T sc ps 12 a 0 0 0)) (tAn P T sc ps 12 a 0 0 0) 0 1 2 hm8 hrg (by have := @ref_in (P ps) 12 a 0 0 0 (60 ≤ sc ps) _; show rI (tRf P T sc ps 12 a 0 0 0); unfold tRf; exact ⟨by omega, by omega⟩)
  refine g_callVi (ci := 11) (C := RX9) (T := TX9) (N := 24) (As := [.int (zI (tAn P T sc ps 12 a 0 0 0)), .int (zI 0), .int (zI 1), .int (zI 2)]) (rest := []) ⟨hx, hb, hml, hown, hts⟩ hK hM hC11 (cuV (n := 4) hts u_1352 u_1349 u_10 (by decide) u_1351 us_53 ⟨Nat.le_of_ble_eq_true rfl, Nat.le_of_ble_eq_true rfl⟩) ⟨by omega, by omega⟩ hm8 rfl rfl hl.1 rfl (Nat.le_of_ble_eq_true rfl) dX9_advance_14 ⟨Nat.zero_le _, Nat.zero_le _⟩ (fun r14 f12 H locs hM hp13 => ?_)
  obtain ⟨rfl, hm14, o15⟩ := hp13
  have hf16 := hj4.kept (o15 (h + 1) (by omega))
  have hf17 := hi3_5.kept (o15 (h + 3) (by omega))
  have hf18 := hi4_6.kept (o15 (h + 4) (by omega))
  have hf19 := hs9.kept (fun q h1 h2 => (o15 (q) (by omega)))
  refine g_iret hx hb hr hlk hK hM dX9_advance_17 ?_
  exact ⟨_, _, _, hf16, hf17, hf18, hr7, hm14, rfl, hf19, (fun q hq => ((o15 (q) (by omega)).trans (o10 (q) (by omega))))⟩
