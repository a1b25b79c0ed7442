def po_X9_replays (g : gE) (f : gF) (h : Nat) (Z M : Nat → Int) (aa : Nat) (P : Nat → Int) (St : Nat → Int) (br k : Nat) (T9 : Nat → Int) (fl v0 : Int) : Int32 → gF → Prop := fun r f1 => mdO f1 h (pu Z 15 (dRf P (T9 (k * 5)) (T9 (k * 5 + 1)) (T9 (k * 5 + 2)) (T9 (k * 5 + 3)) (T9 (k * 5 + 4)) fl)) ∧ r = zI (dA P (T9 (k * 5)) (T9 (k * 5 + 1)) (T9 (k * 5 + 2)) (T9 (k * 5 + 3)) (T9 (k * 5 + 4)) fl) ∧ mpAt g f1 h M aa (dP P (T9 (k * 5)) (T9 (k * 5 + 1)) (T9 (k * 5 + 2)) (T9 (k * 5 + 3)) (T9 (k * 5 + 4)) fl) ∧ scrAt g f1 h ∧ ∀ q, (q < h ∨ (h + 2 ≤ q ∧ q < h + 9) ∨ h + 11 ≤ q) → f1 q = f q
set_option maxRecDepth 100000 in
set_option maxHeartbeats 1000000 in
/-- replays -/
theorem c_X9_replays (l : Launch) (g : gE) (b0 n : Nat) (f : gF) (h : Nat) (Z M : Nat → Int) (aa : Nat) (P : Nat → Int) (St : Nat → Int) (br k : Nat) (T9 : Nat → Int) (fl v0 : Int) (hO : mdO f h Z) (hP : mpAt g f h M aa P) (hrg : b0 ≤ h ∧ h + 13 ≤ b0 + n) (hat : Z 11 = ↑aa) (haa : aa + 147 ≤ 2058) (hsc : scrAt g f h) (hSt : arI g f (h + 3) 1800 St) (hbr : br < 6) (hk60 : k < 60) (hT : ∀ j, j < 5 → St (300 * br + (5 * k + j)) = T9 (k * 5 + j)) (htk : (0 ≤ T9 (k * 5) ∧ T9 (k * 5) ≤ 12) ∧ rI (T9 (k * 5 + 1)) ∧ rI (T9 (k * 5 + 2)) ∧ rI (T9 (k * 5 + 3)) ∧ rI (T9 (k * 5 + 4))) (hfl : fl = 0 ∨ fl = 1) (hok : pOk P v0) (hv1 : 0 ≤ v0) (hv0 : v0 + 541 ≤ 800000000) : cI l yX9_replays cX9_replays 5 (some .int) 8 250 [.ref h, .int (zI (↑br : Int)), .int (zI (↑k : Int)), .int (zI fl)] g b0 n f (po_X9_replays g f h Z M aa P St br k T9 fl v0) := by
  refine gs_i (cc := cX9_replays) (maxL := 5) (ret := (some .int)) (by decide) (Nat.le_of_ble_eq_true rfl) ?_
  intro p e0 s m args below meth c ls hx hb hr hml hown hts hlk hK hM hl
  have hl : lv_has ls 5 [(0, .ref h), (1, .int (zI (↑br : Int))), (2, .int (zI (↑k : Int))), (3, .int (zI fl))] := hl
  have hT0 : St ((5 * ((60 * br) + k))) = T9 (k * 5) := by rw [show (5 * ((60 * br) + k)) = 300 * br + (5 * k + 0) by omega]; exact hT 0 (by omega)
  have hT1 : St ((5 * ((60 * br) + k)) + 1) = T9 (k * 5 + 1) := by rw [show (5 * ((60 * br) + k)) + 1 = 300 * br + (5 * k + 1) by omega]; exact hT 1 (by omega)
  have hT2 : St ((5 * ((60 * br) + k)) + 2) = T9 (k * 5 + 2) := by rw [show (5 * ((60 * br) + k)) + 2 = 300 * br + (5 * k + 2) by omega]; exact hT 2 (by omega)
  have hT3 : St ((5 * ((60 * br) + k)) + 3) = T9 (k * 5 + 3) := by rw [show (5 * ((60 * br) + k)) + 3 = 300 * br + (5 * k + 3) by omega]; exact hT 3 (by omega)
  have hT4 : St ((5 * ((60 * br) + k)) + 4) = T9 (k * 5 + 4) := by rw [show (5 * ((60 * br) + k)) + 4 = 300 * br + (5 * k + 4) by omega]; exact hT 4 (by omega)
  refine g_iconst hx hb dX9_replays_0 ?_
  refine g_bipush hx hb dX9_replays_1 (by decide) ?_
  refine lv_iload_n hx hb dX9_replays_3 rfl (lv_at hl 1 rfl) ?_
  refine g_imul hx hb dX9_replays_4 ?_
  refine lv_iload_n hx hb dX9_replays_5 rfl (lv_at hl 2 rfl) ?_
  refine g_iadd hx hb dX9_replays_6 ?_
  refine g_imul hx hb dX9_replays_7 ?_
  refine lv_istore (lv' := [(4, .int (zI (5 * ((60 * (↑br : Int)) + (↑k : Int))))), (0, .ref h), (1, .int (zI (↑br : Int))), (2, .int (zI (↑k : Int))), (3, .int (zI fl))]) hx hb dX9_replays_8 hl (by decide) rfl (fun ls hl => ?_)
  refine lv_aload_n hx hb dX9_replays_10 rfl (lv_at hl 1 rfl) ?_
  refine lv_aload_n hx hb dX9_replays_11 rfl (lv_at hl 1 rfl) ?_
  refine g_get (ci := 11) (v := .ref (h + 3)) (C := RX9) (T := TX9) (N := 24) hx hb hts iU_X9 hown hK hM ⟨by omega, by omega⟩ hO rfl 3 (by decide) (hts _ u_1147) (fun _ h9 => h9) rfl dX9_replays_12 ?_
  refine lv_iload hx hb dX9_replays_15 (lv_at hl 0 rfl) ?_
  refine g_iald hx hb hK hM ⟨by omega, by omega⟩ hSt (by omega) (by omega) (by decide) dX9_replays_17 ?_
  show W _ _ _ _ _ _ _ _ _ _ _ _ _ _ _ (F0 _ _ _ (.int (zI (St (5 * ((60 * br) + k)))) :: _))
  rw [hT0]
  refine lv_aload_n hx hb dX9_replays_18 rfl (lv_at hl 1 rfl) ?_
  refine g_get (ci := 11) (v := .ref (h + 3)) (C := RX9) (T := TX9) (N := 24) hx hb hts iU_X9 hown hK hM ⟨by omega, by omega⟩ hO rfl 3 (by decide) (hts _ u_1147) (fun _ h9 => h9) rfl dX9_replays_19 ?_
  refine lv_iload hx hb dX9_replays_22 (lv_at hl 0 rfl) ?_
  refine g_iconst hx hb dX9_replays_24 ?_
  refine g_iadd hx hb dX9_replays_25 ?_
  refine g_iald hx hb hK hM ⟨by omega, by omega⟩ hSt (by omega) (by omega) (by decide) dX9_replays_26 ?_
  show W _ _ _ _ _ _ _ _ _ _ _ _ _ _ _ (F0 _ _ _ (.int (zI (St ((5 * ((60 * br) + k)) + 1))) :: _))
  rw [hT1]
  refine lv_aload_n hx hb dX9_replays_27 rfl (lv_at hl 1 rfl) ?_
  refine g_get (ci := 11) (v := .ref (h + 3)) (C := RX9) (T := TX9) (N := 24) hx hb hts iU_X9 hown hK hM ⟨by omega, by omega⟩ hO rfl 3 (by decide) (hts _ u_1147) (fun _ h9 => h9) rfl dX9_replays_28 ?_
  refine lv_iload hx hb dX9_replays_31 (lv_at hl 0 rfl) ?_
  refine g_iconst hx hb dX9_replays_33 ?_
  refine g_iadd hx hb dX9_replays_34 ?_
  refine g_iald hx hb hK hM ⟨by omega, by omega⟩ hSt (by omega) (by omega) (by decide) dX9_replays_35 ?_
  show W _ _ _ _ _ _ _ _ _ _ _ _ _ _ _ (F0 _ _ _ (.int (zI (St ((5 * ((60 * br) + k)) + 2))) :: _))
  rw [hT2]
  refine lv_aload_n hx hb dX9_replays_36 rfl (lv_at hl 1 rfl) ?_
  refine g_get (ci := 11) (v := .ref (h + 3)) (C := RX9) (T := TX9) (N := 24) hx hb hts iU_X9 hown hK hM ⟨by omega, by omega⟩ hO rfl 3 (by decide) (hts _ u_1147) (fun _ h9 => h9) rfl dX9_replays_37 ?_
  refine lv_iload hx hb dX9_replays_40 (lv_at hl 0 rfl) ?_
  refine g_iconst hx hb dX9_replays_42 ?_
  refine g_iadd hx hb dX9_replays_43 ?_
  refine g_iald hx hb hK hM ⟨by omega, by omega⟩ hSt (by omega) (by omega) (by decide) dX9_replays_44 ?_
  show W _ _ _ _ _ _ _ _ _ _ _ _ _ _ _ (F0 _ _ _ (.int (zI (St ((5 * ((60 * br) + k)) + 3))) :: _))
  rw [hT3]
  refine lv_aload_n hx hb dX9_replays_45 rfl (lv_at hl 1 rfl) ?_
  refine g_get (ci := 11) (v := .ref (h + 3)) (C := RX9) (T := TX9) (N := 24) hx hb hts iU_X9 hown hK hM ⟨by omega, by omega⟩ hO rfl 3 (by decide) (hts _ u_1147) (fun _ h9 => h9) rfl dX9_replays_46 ?_
  refine lv_iload hx hb dX9_replays_49 (lv_at hl 0 rfl) ?_
  refine g_iconst hx hb dX9_replays_51 ?_
  refine g_iadd hx hb dX9_replays_52 ?_
  refine g_iald hx hb hK hM ⟨by omega, by omega⟩ hSt (by omega) (by omega) (by decide) dX9_replays_53 ?_
  show W _ _ _ _ _ _ _ _ _ _ _ _ _ _ _ (F0 _ _ _ (.int (zI (St ((5 * ((60 * br) + k)) + 4))) :: _))
  rw [hT4]
  refine lv_iload_n hx hb dX9_replays_54 rfl (lv_at hl 4 rfl) ?_
  have hC1 := c_X9_does l g b0 n f h Z M aa P (T9 (k * 5)) (T9 (k * 5 + 1)) (T9 (k * 5 + 2)) (T9 (k * 5 + 3)) (T9 (k * 5 + 4)) fl v0 hO hP hrg hat haa hsc hfl (rI_kd htk.1) htk.2.1 htk.2.2.1 htk.2.2.2.1 htk.2.2.2.2 hok hv1 hv0 htk.1
  refine g_callVi (ci := 11) (C := RX9) (T := TX9) (N := 24) (As := [.int (zI (T9 (k * 5))), .int (zI (T9 (k * 5 + 1))), .int (zI (T9 (k * 5 + 2))), .int (zI (T9 (k * 5 + 3))), .int (zI (T9 (k * 5 + 4))), .int (zI fl)]) (rest := []) ⟨hx, hb, hml, hown, hts⟩ hK hM hC1 (cuV (n := 6) hts u_1232 u_1229 u_10 (by decide) u_1231 us_28 ⟨Nat.le_of_ble_eq_true rfl, Nat.le_of_ble_eq_true rfl⟩) ⟨by omega, by omega⟩ hO rfl rfl hl.1 rfl (Nat.le_of_ble_eq_true rfl) dX9_replays_55 ⟨Nat.zero_le _, Nat.zero_le _⟩ (fun r55 f2 H locs hM hp3 => ?_)
  obtain ⟨hm4, rfl, hn5, hs6, o7⟩ := hp3
  have ho8 : f2 h = .inr (11, [.int (zI (Z 0)), .ref (h + 1), .ref (h + 2), .ref (h + 3), .ref (h + 4), .ref (h + 5), .ref (h + 6), .ref (h + 7), .ref (h + 8), .int (zI (Z 9)), .int (zI (Z 10)), .int (zI (Z 11)), .int (zI (Z 12)), .int (zI (Z 13)), .int (zI (Z 14)), .int (zI (dRf P (T9 (k * 5)) (T9 (k * 5 + 1)) (T9 (k * 5 + 2)) (T9 (k * 5 + 3)) (T9 (k * 5 + 4)) fl)), .int (zI (Z 16)), .ref (h + 9), .ref (h + 10), .ref (h + 11), .int (zI (Z 20)), .int (zI (Z 21)), .int (zI (Z 22)), .ref (h + 12)]) := hm4
  refine g_iret hx hb hr hlk hK hM dX9_replays_58 ?_
  exact ⟨ho8, rfl, hn5, hs6, (fun q hq => (o7 (q) (by omega)))⟩

def po_X9_isRemade (g : gE) (f : gF) (h : Nat) (Z M St Mn Pr : Nat → Int) (B P T : Nat → Nat → Int) (sc : Nat → Nat) (pr ex : Nat → Int) (ps : Nat) (w0 : Nat) (v0 : Int) : Int32 → gF → Prop := fun r f1 => ((sRp (T ps) (↑w0) 0 (B ps) (sc ps)).1 = true ∧ r = zI 0 ∧ (∃ M1 : Nat → Int, arJ g f1 (h + 1) 2058 M1 ∧ ∀ j, j < 1764 → M1 j = M j) ∧ arI g f1 (h + 3) 1800 St ∧ arI g f1 (h + 4) 6 Mn ∧ (∃ Z1 : Nat → Int, mdO f1 h Z1 ∧ zKeep Z Z1 ∧ Z1 0 = Z 0) ∧ scrAt g f1 h ∧ ∀ q, (q < h ∨ q = h + 2 ∨ (h + 5 ≤ q ∧ q < h + 9) ∨ h + 11 ≤ q) → f1 q = f q) ∨ ((sRp (T ps) (↑w0) 0 (B ps) (sc ps)).1 = false ∧ r = zI 1 ∧ (∃ M1 St1 : Nat → Int, arJ g f1 (h + 1) 2058 M1 ∧ arI g f1 (h + 3) 1800 St1 ∧ arI g f1 (h + 4) 6 (pu Mn ps (↑(sc ps) - 1)) ∧ mRel M1 St1 (pu Mn ps (↑(sc ps) - 1)) Pr B (fu P ps (sRp (T ps) (↑w0) 0 (B ps) (sc ps)).2.2) (fu T ps (shP (T ps) (w0 * 5) ((sc ps - 1) * 5))) (fu sc ps (sc ps - 1)) pr ex) ∧ (∃ Z1 : Nat → Int, mdO f1 h Z1 ∧ zKeep Z Z1 ∧ Z1 0 = Z 0) ∧ scrAt g f1 h ∧ ∀ q, (q < h ∨ q = h + 2 ∨ (h + 5 ≤ q ∧ q < h + 9) ∨ h + 11 ≤ q) → f1 q = f q)
set_option maxRecDepth 100000 in
set_option maxHeartbeats 1000000 in
/-- isRemade -/
theorem c_X9_isRemade (l : Launch) (g : gE) (b0 n : Nat) (f : gF) (h : Nat) (Z M St Mn Pr : Nat → Int) (B P T : Nat → Nat → Int) (sc : Nat → Nat) (pr ex : Nat → Int) (ps : Nat) (w0 : Nat) (v0 : Int) (hO : mdO f h Z) (hrg : b0 ≤ h ∧ h + 13 ≤ b0 + n) (hPl : arJ g f (h + 1) 2058 M) (hSt : arI g f (h + 3) 1800 St) (hMn : arI g f (h + 4) 6 Mn) (hPr : arI g f (h + 5) 6 Pr) (hR : mRel M St Mn Pr B P T sc pr ex) (hz9 : Z 9 = ↑ps) (hps : ps < 6) (hpx : ex ps = 1) (hscs : ∀ k, k < 6 → ex k = 1 → sc k ≤ 60) (hexi : ∀ k, k < 6 → ex k = 0 ∨ ex k = 1) (hpri : ∀ k, k < 6 → rI (pr k)) (hp0 : pr 0 = -1) (hsc : scrAt g f h) (hokB : pOk (B ps) v0) (hv1 : 0 ≤ v0) (hv0 : v0 + 541 * 61 ≤ 800000000) (htO : tOk (T ps) (sc ps)) (hw0 : w0 < sc ps) : cI l yX9_isRemade cX9_isRemade 4 (some .boolean) 9 274 [.ref h, .int (zI (↑w0 : Int))] g b0 n f (po_X9_isRemade g f h Z M St Mn Pr B P T sc pr ex ps w0 v0) := by
  refine gs_i (cc := cX9_isRemade) (maxL := 4) (ret := (some .boolean)) (by decide) (Nat.le_of_ble_eq_true rfl) ?_
  intro p e0 s m args below meth c ls hx hb hr hml hown hts hlk hK hM hl
  have hl : lv_has ls 4 [(0, .ref h), (1, .int (zI (↑w0 : Int)))] := hl
  have hmn := mRel_mn hR hscs
  have hPq : ∀ k, k < 6 → ex k = 1 → Pr k = pr k := fun k hk hx => ((hR k hk).1 hx).2.2.2.2
  have hbr := (hR ps hps).1 hpx
  have hmn9 : Mn ps = ↑(sc ps) := ((hmn ps hps).1 hpx).1
  have hs60 := hscs ps hps hpx
  refine lv_aload_n hx hb dX9_isRemade_0 rfl (lv_at hl 0 rfl) ?_
  refine lv_aload_n hx hb dX9_isRemade_1 rfl (lv_at hl 0 rfl) ?_
  refine g_get (ci := 11) (v := .int (zI (Z 9))) (C := RX9) (T := TX9) (N := 24) hx hb hts iU_X9 hown hK hM ⟨by omega, by omega⟩ hO rfl 9 (by decide) (hts _ u_1153) (fun _ h9 => h9) rfl dX9_isRemade_2 ?_
  rw [hz9]
  have hC1 := c_X9_startOf l g b0 n f ps (by omega)
  refine g_callSi (As := [.int (zI (↑ps : Int))]) (rest := [.ref h]) ⟨hx, hb, hml, hown, hts⟩ hK hM hC1 (cuS (n := 1) hts u_1481 u_1479 u_10 (by decide) u_1480 ⟨Nat.le_of_ble_eq_true rfl, Nat.le_of_ble_eq_true rfl⟩) rfl hl.1 rfl (Nat.le_of_ble_eq_true rfl) dX9_isRemade_5 ⟨Nat.zero_le _, Nat.zero_le _⟩ (fun r5 f2 H locs hM hp3 => ?_)
  obtain ⟨rfl, rfl⟩ := hp3
  refine g_sipush hx hb dX9_isRemade_8 (by decide) ?_
  have hC4 := c_X9_copies l g b0 n f h Z M (294 * ps + 147) 1911 hO hPl hrg (by omega) (by omega) (by omega)
  refine g_callVv (ci := 11) (C := RX9) (T := TX9) (N := 24) (As := [.int (zI (↑(294 * ps + 147) : Int)), .int (zI 1911)]) (rest := []) ⟨hx, hb, hml, hown, hts⟩ hK hM hC4 (cuV (n := 2) hts u_1425 u_1422 u_10 (by decide) u_1424 us_56 ⟨Nat.le_of_ble_eq_true rfl, Nat.le_of_ble_eq_true rfl⟩) ⟨by omega, by omega⟩ hO rfl rfl hl.1 rfl (Nat.le_of_ble_eq_true rfl) dX9_isRemade_11 ⟨Nat.zero_le _, Nat.zero_le _⟩ (fun f5 H locs hM hp6 => ?_)
  obtain ⟨hn7, o8⟩ := hp6
  have hp9 : mpAt g f5 h M 1911 (B ps) := mpAt.cong (show mpAt g f5 h M 1911 (fun i => M (294 * ps + 147 + i)) from hn7) (fun i hi => (hbr.2.1 i hi).symm)
  refine lv_aload_n hx hb dX9_isRemade_14 rfl (lv_at hl 0 rfl) ?_
  refine g_sipush hx hb dX9_isRemade_15 (by decide) ?_
  have hf10 : f5 (h) = .inr (11, [.int (zI (Z 0)), .ref (h + 1), .ref (h + 2), .ref (h + 3), .ref (h + 4), .ref (h + 5), .ref (h + 6), .ref (h + 7), .ref (h + 8), .int (zI (Z 9)), .int (zI (Z 10)), .int (zI (Z 11)), .int (zI (Z 12)), .int (zI (Z 13)), .int (zI (Z 14)), .int (zI (Z 15)), .int (zI (Z 16)), .ref (h + 9), .ref (h + 10), .ref (h + 11), .int (zI (Z 20)), .int (zI (Z 21)), .int (zI (Z 22)), .ref (h + 12)]) := (o8 (h) (by omega)).trans hO
  refine g_put (ci := 11) (v := .int (zI 1911)) (ty := .int) (C := RX9) (T := TX9) (N := 24) hx hb hts iU_X9 tyX9 tyX9_ok nmX9 hown hK hM ⟨by omega, by omega⟩ hf10 rfl 11 (by decide) (hts _ u_1155) (fun _ h9 => h9) rfl (by decide +kernel) rfl rfl (Nat.le_of_ble_eq_true rfl) dX9_isRemade_18 (fun f11 H locs hM hf13 o12 => ?_)
  have hf13 : f11 (h) = .inr (11, [.int (zI (Z 0)), .ref (h + 1), .ref (h + 2), .ref (h + 3), .ref (h + 4), .ref (h + 5), .ref (h + 6), .ref (h + 7), .ref (h + 8), .int (zI (Z 9)), .int (zI (Z 10)), .int (zI 1911), .int (zI (Z 12)), .int (zI (Z 13)), .int (zI (Z 14)), .int (zI (Z 15)), .int (zI (Z 16)), .ref (h + 9), .ref (h + 10), .ref (h + 11), .int (zI (Z 20)), .int (zI (Z 21)), .int (zI (Z 22)), .ref (h + 12)]) := hf13
  refine g_iconst hx hb dX9_isRemade_21 ?_
  refine lv_istore_n (lv' := [(2, .int (zI 0)), (0, .ref h), (1, .int (zI (↑w0 : Int)))]) hx hb dX9_isRemade_22 rfl hl (by decide) rfl (fun ls hl => ?_)
  have lp23 : ∀ (k : Nat), ∀ (i : Nat) (Xi : Nat → Int) (z15 : Int) (fL : gF) (H : Heap) (locs : List Loc) (ls : Array Slot), (sc ps - i < k) → (i ≤ sc ps) → (sRp (T ps) ↑w0 0 (B ps) i = (false, i, Xi)) → (pOk Xi (v0 + 541 * i)) → (∀ q, (q < h ∨ q = h + 2 ∨ (h + 5 ≤ q ∧ q < h + 9) ∨ h + 11 ≤ q) → fL q = f q) → gH g b0 n fL s.heap H locs → (mdO fL h (pu (pu Z 11 1911) 15 z15)) → (mpAt g fL h M 1911 Xi) → (scrAt g fL h) → (arI g fL (h + 3) 1800 St) → (arI g fL (h + 4) 6 Mn) → (arI g fL (h + 5) 6 Pr) → lv_has ls 4 [(0, .ref h), (1, .int (zI (↑w0 : Int))), (2, .int (zI (↑i : Int)))] → W p l e0 { frames := 9, cells := 0, slots := 0, locals := 274 } s m args below meth c H locs 0 0 (MQ below (va_Qi (po_X9_isRemade g f h Z M St Mn Pr B P T sc pr ex ps w0 v0) (gB g b0 n) (gA b0)) args s 0 0 (gA b0)) (F0 m 23 ls []) := by
    intro k
    induction k with
    | zero =>
      intro i Xi z15 fL H locs ls hk hi hst hod hfr hM hL0 hL1 hL2 hL3 hL4 hL5 hl
      exact absurd hk (Nat.not_lt_zero _)
    | succ k ih23 =>
      intro i Xi z15 fL H locs ls hk hi hst hod hfr hM hL0 hL1 hL2 hL3 hL4 hL5 hl
      refine lv_iload_n hx hb dX9_isRemade_23 rfl (lv_at hl 2 rfl) ?_
      refine lv_aload_n hx hb dX9_isRemade_24 rfl (lv_at hl 0 rfl) ?_
      refine g_get (ci := 11) (v := .ref (h + 4)) (C := RX9) (T := TX9) (N := 24) hx hb hts iU_X9 hown hK hM ⟨by omega, by omega⟩ hL0 rfl 4 (by decide) (hts _ u_1148) (fun _ h9 => h9) rfl dX9_isRemade_25 ?_
      refine lv_aload_n hx hb dX9_isRemade_28 rfl (lv_at hl 0 rfl) ?_
      refine g_get (ci := 11) (v := .int (zI (Z 9))) (C := RX9) (T := TX9) (N := 24) hx hb hts iU_X9 hown hK hM ⟨by omega, by omega⟩ hL0 rfl 9 (by decide) (hts _ u_1153) (fun _ h9 => h9) rfl dX9_isRemade_29 ?_
      rw [hz9]
      refine g_iald hx hb hK hM ⟨by omega, by omega⟩ hL4 (by omega) (by omega) (by decide) dX9_isRemade_32 ?_
      show W _ _ _ _ _ _ _ _ _ _ _ _ _ _ _ (F0 _ _ _ (.int (zI (Mn ps)) :: _))
      rw [hmn9]
      refine g_icmp_ge (tgt := 70) hx hb dX9_isRemade_33 (by decide) ⟨by omega, by omega⟩ ⟨by omega, by omega⟩ (fun c33 => ?_) (fun c33 => ?_)
      · skip
        have hii : i = sc ps := by omega
        have hfin := hst
        rw [hii] at hfin
        refine lv_aload_n hx hb dX9_isRemade_70 rfl (lv_at hl 0 rfl) ?_
        refine g_sipush hx hb dX9_isRemade_71 (by decide) ?_
        refine lv_aload_n hx hb dX9_isRemade_74 rfl (lv_at hl 0 rfl) ?_
        refine g_get (ci := 11) (v := .int (zI (Z 9))) (C := RX9) (T := TX9) (N := 24) hx hb hts iU_X9 hown hK hM ⟨by omega, by omega⟩ hL0 rfl 9 (by decide) (hts _ u_1153) (fun _ h9 => h9) rfl dX9_isRemade_75 ?_
        rw [hz9]
        have hC14 := c_X9_planOf l g b0 n fL ps (by omega)
        refine g_callSi (As := [.int (zI (↑ps : Int))]) (rest := [.int (zI 1911), .ref h]) ⟨hx, hb, hml, hown, hts⟩ hK hM hC14 (cuS (n := 1) hts u_1228 u_1226 u_10 (by decide) u_1227 ⟨Nat.le_of_ble_eq_true rfl, Nat.le_of_ble_eq_true rfl⟩) rfl hl.1 rfl (Nat.le_of_ble_eq_true rfl) dX9_isRemade_78 ⟨Nat.zero_le _, Nat.zero_le _⟩ (fun r78 f15 H locs hM hp16 => ?_)
        obtain ⟨rfl, rfl⟩ := hp16
        have hC17 := c_X9_copies l g b0 n fL h (pu (pu Z 11 1911) 15 z15) (mov M 1911 Xi) 1911 (294 * ps) hL0 hL1 hrg (by omega) (by omega) (by omega)
        refine g_callVv (ci := 11) (C := RX9) (T := TX9) (N := 24) (As := [.int (zI 1911), .int (zI (↑(294 * ps) : Int))]) (rest := []) ⟨hx, hb, hml, hown, hts⟩ hK hM hC17 (cuV (n := 2) hts u_1425 u_1422 u_10 (by decide) u_1424 us_56 ⟨Nat.le_of_ble_eq_true rfl, Nat.le_of_ble_eq_true rfl⟩) ⟨by omega, by omega⟩ hL0 rfl rfl hl.1 rfl (Nat.le_of_ble_eq_true rfl) dX9_isRemade_81 ⟨Nat.zero_le _, Nat.zero_le _⟩ (fun f18 H locs hM hp19 => ?_)
        obtain ⟨hn20, o21⟩ := hp19
        have hp22 : mpAt g f18 h (mov M 1911 Xi) (294 * ps) Xi := mpAt.cong (show mpAt g f18 h (mov M 1911 Xi) (294 * ps) (fun i => (mov M 1911 Xi) (1911 + i)) from hn20) (fun i hi => (mov_at rfl hi).symm)
        refine g_iconst hx hb dX9_isRemade_84 ?_
        refine g_bipush hx hb dX9_isRemade_85 (by decide) ?_
        refine lv_aload_n hx hb dX9_isRemade_87 rfl (lv_at hl 0 rfl) ?_
        have hf23 : f18 (h) = .inr (11, [.int (zI (Z 0)), .ref (h + 1), .ref (h + 2), .ref (h + 3), .ref (h + 4), .ref (h + 5), .ref (h + 6), .ref (h + 7), .ref (h + 8), .int (zI (Z 9)), .int (zI (Z 10)), .int (zI 1911), .int (zI (Z 12)), .int (zI (Z 13)), .int (zI (Z 14)), .int (zI z15), .int (zI (Z 16)), .ref (h + 9), .ref (h + 10), .ref (h + 11), .int (zI (Z 20)), .int (zI (Z 21)), .int (zI (Z 22)), .ref (h + 12)]) := (o21 (h) (by omega)).trans hL0
        refine g_get (ci := 11) (v := .int (zI (Z 9))) (C := RX9) (T := TX9) (N := 24) hx hb hts iU_X9 hown hK hM ⟨by omega, by omega⟩ hf23 rfl 9 (by decide) (hts _ u_1153) (fun _ h9 => h9) rfl dX9_isRemade_88 ?_
        rw [hz9]
        refine g_imul hx hb dX9_isRemade_91 ?_
        refine lv_iload_n hx hb dX9_isRemade_92 rfl (lv_at hl 1 rfl) ?_
        refine g_iadd hx hb dX9_isRemade_93 ?_
        refine g_imul hx hb dX9_isRemade_94 ?_
        refine lv_istore_n (lv' := [(2, .int (zI (5 * ((60 * (↑ps : Int)) + (↑w0 : Int))))), (0, .ref h), (1, .int (zI (↑w0 : Int)))]) hx hb dX9_isRemade_95 rfl hl (by decide) rfl (fun ls hl => ?_)
        have lp96 : ∀ (k2 : Nat), ∀ (j : Nat) (fL : gF) (H : Heap) (locs : List Loc) (ls : Array Slot), (1800 - j < k2) → (300 * ps + 5 * w0 ≤ j) → (j ≤ 300 * ps + 5 * (sc ps - 1)) → (∀ q, (q < h ∨ q = h + 2 ∨ (h + 5 ≤ q ∧ q < h + 9) ∨ h + 11 ≤ q) → fL q = f q) → gH g b0 n fL s.heap H locs → (mdO fL h (pu (pu Z 11 1911) 15 z15)) → (mpAt g fL h (mov M 1911 Xi) (294 * ps) Xi) → (scrAt g fL h) → (arI g fL (h + 3) 1800 (shS St (300 * ps + 5 * w0) j)) → (arI g fL (h + 4) 6 Mn) → (arI g fL (h + 5) 6 Pr) → lv_has ls 4 [(0, .ref h), (1, .int (zI (↑w0 : Int))), (2, .int (zI (↑j : Int)))] → W p l e0 { frames := 9, cells := 0, slots := 0, locals := 274 } s m args below meth c H locs 0 0 (MQ below (va_Qi (po_X9_isRemade g f h Z M St Mn Pr B P T sc pr ex ps w0 v0) (gB g b0 n) (gA b0)) args s 0 0 (gA b0)) (F0 m 96 ls []) := by
          intro k2
          induction k2 with
          | zero =>
            intro j fL H locs ls hk hj1 hj2 hfr hM hL0 hL1 hL2 hL3 hL4 hL5 hl
            exact absurd hk (Nat.not_lt_zero _)
          | succ k2 ih96 =>
            intro j fL H locs ls hk hj1 hj2 hfr hM hL0 hL1 hL2 hL3 hL4 hL5 hl
            refine lv_iload_n hx hb dX9_isRemade_96 rfl (lv_at hl 2 rfl) ?_
            refine g_iconst hx hb dX9_isRemade_97 ?_
            refine g_iadd hx hb dX9_isRemade_98 ?_
            refine g_iconst hx hb dX9_isRemade_99 ?_
            refine g_bipush hx hb dX9_isRemade_100 (by decide) ?_
            refine lv_aload_n hx hb dX9_isRemade_102 rfl (lv_at hl 0 rfl) ?_
            refine g_get (ci := 11) (v := .int (zI (Z 9))) (C := RX9) (T := TX9) (N := 24) hx hb hts iU_X9 hown hK hM ⟨by omega, by omega⟩ hL0 rfl 9 (by decide) (hts _ u_1153) (fun _ h9 => h9) rfl dX9_isRemade_103 ?_
            rw [hz9]
            refine g_imul hx hb dX9_isRemade_106 ?_
            refine lv_aload_n hx hb dX9_isRemade_107 rfl (lv_at hl 0 rfl) ?_
            refine g_get (ci := 11) (v := .ref (h + 4)) (C := RX9) (T := TX9) (N := 24) hx hb hts iU_X9 hown hK hM ⟨by omega, by omega⟩ hL0 rfl 4 (by decide) (hts _ u_1148) (fun _ h9 => h9) rfl dX9_isRemade_108 ?_
            refine lv_aload_n hx hb dX9_isRemade_111 rfl (lv_at hl 0 rfl) ?_
            refine g_get (ci := 11) (v := .int (zI (Z 9))) (C := RX9) (T := TX9) (N := 24) hx hb hts iU_X9 hown hK hM ⟨by omega, by omega⟩ hL0 rfl 9 (by decide) (hts _ u_1153) (fun _ h9 => h9) rfl dX9_isRemade_112 ?_
            rw [hz9]
            refine g_iald hx hb hK hM ⟨by omega, by omega⟩ hL4 (by omega) (by omega) (by decide) dX9_isRemade_115 ?_
            show W _ _ _ _ _ _ _ _ _ _ _ _ _ _ _ (F0 _ _ _ (.int (zI (Mn ps)) :: _))
            rw [hmn9]
            refine g_iadd hx hb dX9_isRemade_116 ?_
            refine g_imul hx hb dX9_isRemade_117 ?_
            refine g_icmp_ge (tgt := 141) hx hb dX9_isRemade_118 (by decide) ⟨by omega, by omega⟩ ⟨by omega, by omega⟩ (fun c118 => ?_) (fun c118 => ?_)
            · skip
              refine lv_aload_n hx hb dX9_isRemade_141 rfl (lv_at hl 0 rfl) ?_
              refine g_get (ci := 11) (v := .ref (h + 4)) (C := RX9) (T := TX9) (N := 24) hx hb hts iU_X9 hown hK hM ⟨by omega, by omega⟩ hL0 rfl 4 (by decide) (hts _ u_1148) (fun _ h9 => h9) rfl dX9_isRemade_142 ?_
              refine lv_aload_n hx hb dX9_isRemade_145 rfl (lv_at hl 0 rfl) ?_
              refine g_get (ci := 11) (v := .int (zI (Z 9))) (C := RX9) (T := TX9) (N := 24) hx hb hts iU_X9 hown hK hM ⟨by omega, by omega⟩ hL0 rfl 9 (by decide) (hts _ u_1153) (fun _ h9 => h9) rfl dX9_isRemade_146 ?_
              rw [hz9]
              refine lv_dup2_11 hx hb dX9_isRemade_149 rfl rfl ?_
              refine g_iald hx hb hK hM ⟨by omega, by omega⟩ hL4 (by omega) (by omega) (by decide) dX9_isRemade_150 ?_
              show W _ _ _ _ _ _ _ _ _ _ _ _ _ _ _ (F0 _ _ _ (.int (zI (Mn ps)) :: _))
              rw [hmn9]
              refine g_iconst hx hb dX9_isRemade_151 ?_
              refine g_isub hx hb dX9_isRemade_152 ?_
              refine g_iast hx hb hK hM ⟨by omega, by omega⟩ hL4 (by omega) (by omega) (by decide) dX9_isRemade_153 (fun f24 H locs hM ha26 o25 => ?_)
              refine g_iconst hx hb dX9_isRemade_154 ?_
              have hf27 := hL1.kept (fun q h1 h2 => (o25 (q) (by omega)))
              have hf28 := hL3.kept (o25 (h + 3) (by omega))
              have hf29 : f24 (h) = .inr (11, [.int (zI (Z 0)), .ref (h + 1), .ref (h + 2), .ref (h + 3), .ref (h + 4), .ref (h + 5), .ref (h + 6), .ref (h + 7), .ref (h + 8), .int (zI (Z 9)), .int (zI (Z 10)), .int (zI 1911), .int (zI (Z 12)), .int (zI (Z 13)), .int (zI (Z 14)), .int (zI z15), .int (zI (Z 16)), .ref (h + 9), .ref (h + 10), .ref (h + 11), .int (zI (Z 20)), .int (zI (Z 21)), .int (zI (Z 22)), .ref (h + 12)]) := (o25 (h) (by omega)).trans hL0
              have hf30 := hL2.kept (fun q h1 h2 => (o25 (q) (by omega)))
              refine g_zret hx hb hr hlk hK hM dX9_isRemade_155 rfl ?_
              have hjj : j = 300 * ps + 5 * (sc ps - 1) := by omega
              subst hjj
              refine Or.inr ⟨by rw [hfin], rfl, ⟨_, _, hf27, hf28, ha26, ?_⟩, ⟨(pu (pu Z 11 1911) 15 z15), hf29, ((zKeep.rf.pu (by decide)).pu (by decide)), rfl⟩, hf30, (fun q hq => ((o25 (q) (by omega)).trans (hfr (q) (by omega))))⟩
              rw [hfin]
              exact mRel_drop hR hps hpx hscs hw0 (fun i hi => mov_at rfl hi) (fun j hj hd => by rw [mov_n (by omega), mov_n (by omega)])
            · skip
              refine lv_aload_n hx hb dX9_isRemade_121 rfl (lv_at hl 0 rfl) ?_
              refine g_get (ci := 11) (v := .ref (h + 3)) (C := RX9) (T := TX9) (N := 24) hx hb hts iU_X9 hown hK hM ⟨by omega, by omega⟩ hL0 rfl 3 (by decide) (hts _ u_1147) (fun _ h9 => h9) rfl dX9_isRemade_122 ?_
              refine lv_iload_n hx hb dX9_isRemade_125 rfl (lv_at hl 2 rfl) ?_
              refine lv_aload_n hx hb dX9_isRemade_126 rfl (lv_at hl 0 rfl) ?_
              refine g_get (ci := 11) (v := .ref (h + 3)) (C := RX9) (T := TX9) (N := 24) hx hb hts iU_X9 hown hK hM ⟨by omega, by omega⟩ hL0 rfl 3 (by decide) (hts _ u_1147) (fun _ h9 => h9) rfl dX9_isRemade_127 ?_
              refine lv_iload_n hx hb dX9_isRemade_130 rfl (lv_at hl 2 rfl) ?_
              refine g_iconst hx hb dX9_isRemade_131 ?_
              refine g_iadd hx hb dX9_isRemade_132 ?_
              refine g_iald hx hb hK hM ⟨by omega, by omega⟩ hL3 (by omega) (by omega) (by decide) dX9_isRemade_133 ?_
              show W _ _ _ _ _ _ _ _ _ _ _ _ _ _ _ (F0 _ _ _ (.int (zI ((shS St (300 * ps + 5 * w0) j) (j + 5))) :: _))
              refine g_iast hx hb hK hM ⟨by omega, by omega⟩ hL3 (by omega) (by omega) (by decide) dX9_isRemade_134 (fun f31 H locs hM ha33 o32 => ?_)
              refine lv_iinc (v := zI ((↑j : Int) + 1)) (lv' := [(2, .int (zI ((↑j : Int) + 1))), (0, .ref h), (1, .int (zI (↑w0 : Int)))]) hx hb dX9_isRemade_135 hl (k := 2) rfl (zI_add _ _) (by decide) rfl (fun ls hl => ?_)
              refine lv_goto (tgt := 96) hx hb dX9_isRemade_138 (by decide) ?_
              have hf34 : f31 (h) = .inr (11, [.int (zI (Z 0)), .ref (h + 1), .ref (h + 2), .ref (h + 3), .ref (h + 4), .ref (h + 5), .ref (h + 6), .ref (h + 7), .ref (h + 8), .int (zI (Z 9)), .int (zI (Z 10)), .int (zI 1911), .int (zI (Z 12)), .int (zI (Z 13)), .int (zI (Z 14)), .int (zI z15), .int (zI (Z 16)), .ref (h + 9), .ref (h + 10), .ref (h + 11), .int (zI (Z 20)), .int (zI (Z 21)), .int (zI (Z 22)), .ref (h + 12)]) := (o32 (h) (by omega)).trans hL0
              have hf35 := hL1.kept (fun q h1 h2 => (o32 (q) (by omega)))
              have hf36 := hL2.kept (fun q h1 h2 => (o32 (q) (by omega)))
              have hf37 := hL4.kept (o32 (h + 4) (by omega))
              have hf38 := hL5.kept (o32 (h + 5) (by omega))
              exact ih96 (j + 1) f31 _ _ _ (by omega) (by omega) (by omega) (fun q hq => ((o32 (q) (by omega)).trans (hfr (q) (by omega)))) hM hf34 hf35 hf36 (ha33.cong (fun k9 hk9 => by simp only [shS, pu] <;> (repeat' split) <;> first | rfl | omega | (congr 1; omega))) hf37 hf38 (lv_sub hl [1, 2, 0] rfl)
        have hf39 := hL2.kept (fun q h1 h2 => (o21 (q) (by omega)))
        have hf40 := hL3.kept (o21 (h + 3) (by omega))
        have hf41 := hL4.kept (o21 (h + 4) (by omega))
        have hf42 := hL5.kept (o21 (h + 5) (by omega))
        exact lp96 (1801) (5 * (60 * ps + w0)) f18 _ _ _ (by omega) (by omega) (by omega) (fun q hq => ((o21 (q) (by omega)).trans (hfr (q) (by omega)))) hM hf23 hp22 hf39 (hf40.cong (fun k9 hk9 => by simp only [shS, pu] <;> (repeat' split) <;> first | rfl | omega | (congr 1; omega))) hf41 hf42 (lv_sub hl [1, 2, 0] rfl)
      · skip
        refine lv_iload_n hx hb dX9_isRemade_36 rfl (lv_at hl 2 rfl) ?_
        refine lv_iload_n hx hb dX9_isRemade_37 rfl (lv_at hl 1 rfl) ?_
        refine g_icmp_ne (tgt := 44) hx hb dX9_isRemade_38 (by decide) ⟨by omega, by omega⟩ ⟨by omega, by omega⟩ (fun c38 => ?_) (fun c38 => ?_)
        · skip
          refine lv_aload_n hx hb dX9_isRemade_44 rfl (lv_at hl 0 rfl) ?_
          refine lv_aload_n hx hb dX9_isRemade_45 rfl (lv_at hl 0 rfl) ?_
          refine g_get (ci := 11) (v := .int (zI (Z 9))) (C := RX9) (T := TX9) (N := 24) hx hb hts iU_X9 hown hK hM ⟨by omega, by omega⟩ hL0 rfl 9 (by decide) (hts _ u_1153) (fun _ h9 => h9) rfl dX9_isRemade_46 ?_
          rw [hz9]
          refine lv_iload_n hx hb dX9_isRemade_49 rfl (lv_at hl 2 rfl) ?_
          refine g_iconst hx hb dX9_isRemade_50 ?_
          have hC43 := c_X9_replays l g b0 n fL h (pu (pu Z 11 1911) 15 z15) M 1911 Xi St ps i (T ps) 0 (v0 + 541 * i) hL0 hL1 hrg ((pu_n (by decide)).trans (pu_s _ _ _)) (by omega) hL2 hL3 (by omega) (by omega) (fun j hj => by rw [show 300 * ps + (5 * i + j) = 300 * ps + (i * 5 + j) by omega]; exact hbr.2.2.1 _ (by omega)) (htO i (by omega)) (Or.inl rfl) hod (by omega) (by omega)
          refine g_callVi (ci := 11) (C := RX9) (T := TX9) (N := 24) (As := [.int (zI (↑ps : Int)), .int (zI (↑i : Int)), .int (zI 0)]) (rest := []) ⟨hx, hb, hml, hown, hts⟩ hK hM hC43 (cuV (n := 3) hts u_1509 u_1506 u_10 (by decide) u_1508 us_64 ⟨Nat.le_of_ble_eq_true rfl, Nat.le_of_ble_eq_true rfl⟩) ⟨by omega, by omega⟩ hL0 rfl rfl hl.1 rfl (Nat.le_of_ble_eq_true rfl) dX9_isRemade_51 ⟨Nat.zero_le _, Nat.zero_le _⟩ (fun r51 f44 H locs hM hp45 => ?_)
          obtain ⟨hm46, rfl, hn47, hs48, o49⟩ := hp45
          have ho50 : f44 h = .inr (11, [.int (zI (Z 0)), .ref (h + 1), .ref (h + 2), .ref (h + 3), .ref (h + 4), .ref (h + 5), .ref (h + 6), .ref (h + 7), .ref (h + 8), .int (zI (Z 9)), .int (zI (Z 10)), .int (zI 1911), .int (zI (Z 12)), .int (zI (Z 13)), .int (zI (Z 14)), .int (zI (dRf Xi ((T ps) (i * 5)) ((T ps) (i * 5 + 1)) ((T ps) (i * 5 + 2)) ((T ps) (i * 5 + 3)) ((T ps) (i * 5 + 4)) 0)), .int (zI (Z 16)), .ref (h + 9), .ref (h + 10), .ref (h + 11), .int (zI (Z 20)), .int (zI (Z 21)), .int (zI (Z 22)), .ref (h + 12)]) := hm46
          refine lv_istore_n (lv' := [(3, .int (zI (dA Xi ((T ps) (i * 5)) ((T ps) (i * 5 + 1)) ((T ps) (i * 5 + 2)) ((T ps) (i * 5 + 3)) ((T ps) (i * 5 + 4)) 0))), (0, .ref h), (1, .int (zI (↑w0 : Int))), (2, .int (zI (↑i : Int)))]) hx hb dX9_isRemade_54 rfl hl (by decide) rfl (fun ls hl => ?_)
          have hrr9 : rI (dRf Xi ((T ps) (i * 5)) ((T ps) (i * 5 + 1)) ((T ps) (i * 5 + 2)) ((T ps) (i * 5 + 3)) ((T ps) (i * 5 + 4)) 0) := by have := @ref_in Xi ((T ps) (i * 5)) ((T ps) (i * 5 + 1)) ((T ps) (i * 5 + 2)) ((T ps) (i * 5 + 3)) ((T ps) (i * 5 + 4)) ((0 : Int) = 1) _; unfold dRf; exact ⟨by omega, by omega⟩
          refine lv_aload_n hx hb dX9_isRemade_55 rfl (lv_at hl 1 rfl) ?_
          refine g_get (ci := 11) (v := .int (zI (dRf Xi ((T ps) (i * 5)) ((T ps) (i * 5 + 1)) ((T ps) (i * 5 + 2)) ((T ps) (i * 5 + 3)) ((T ps) (i * 5 + 4)) 0))) (C := RX9) (T := TX9) (N := 24) hx hb hts iU_X9 hown hK hM ⟨by omega, by omega⟩ ho50 rfl 15 (by decide) (hts _ u_1159) (fun _ h9 => h9) rfl dX9_isRemade_56 ?_
          refine g_if_eq (tgt := 64) hx hb dX9_isRemade_59 (by decide) hrr9 (fun c59 => ?_) (fun c59 => ?_)
          · skip
            refine lv_iinc (v := zI ((↑i : Int) + 1)) (lv' := [(2, .int (zI ((↑i : Int) + 1))), (3, .int (zI (dA Xi ((T ps) (i * 5)) ((T ps) (i * 5 + 1)) ((T ps) (i * 5 + 2)) ((T ps) (i * 5 + 3)) ((T ps) (i * 5 + 4)) 0))), (0, .ref h), (1, .int (zI (↑w0 : Int)))]) hx hb dX9_isRemade_64 hl (k := 3) rfl (zI_add _ _) (by decide) rfl (fun ls hl => ?_)
            refine lv_goto (tgt := 23) hx hb dX9_isRemade_67 (by decide) ?_
            have hgo := sRp_go (fl := 0) hst (by omega) ⟨fun hh => absurd hh (by decide), fun hh => absurd hh (by omega)⟩ c59
            have hf51 := hL3.kept (o49 (h + 3) (by omega))
            have hf52 := hL4.kept (o49 (h + 4) (by omega))
            have hf53 := hL5.kept (o49 (h + 5) (by omega))
            exact ih23 (i + 1) (dP Xi ((T ps) (i * 5)) ((T ps) (i * 5 + 1)) ((T ps) (i * 5 + 2)) ((T ps) (i * 5 + 3)) ((T ps) (i * 5 + 4)) 0) (dRf Xi ((T ps) (i * 5)) ((T ps) (i * 5 + 1)) ((T ps) (i * 5 + 2)) ((T ps) (i * 5 + 3)) ((T ps) (i * 5 + 4)) 0) f44 _ _ _ (by omega) (by omega) hgo.1 (by have q9 := sRp_ok (T := T ps) (sk := ↑w0) (bf := 0) hokB hv1 htO (n := i + 1) (by omega) (by omega); rw [hgo.1] at q9; exact q9) (fun q hq => ((o49 (q) (by omega)).trans (hfr (q) (by omega)))) hM ho50 hn47 hs48 hf51 hf52 hf53 (lv_sub hl [2, 3, 0] rfl)
          · skip
            refine g_iconst hx hb dX9_isRemade_62 ?_
            have hf54 := hL3.kept (o49 (h + 3) (by omega))
            have hf55 := hL4.kept (o49 (h + 4) (by omega))
            refine g_zret hx hb hr hlk hK hM dX9_isRemade_63 rfl ?_
            have hno := sRp_no (N := sc ps) (fl := 0) hst (by omega) ⟨fun hh => absurd hh (by decide), fun hh => absurd hh (by omega)⟩ c59 (by omega)
            refine Or.inl ⟨by rw [hno.1], rfl, ⟨_, hn47, fun j hj => mov_n (by omega)⟩, hf54, hf55, ⟨(pu (pu Z 11 1911) 15 (dRf Xi ((T ps) (i * 5)) ((T ps) (i * 5 + 1)) ((T ps) (i * 5 + 2)) ((T ps) (i * 5 + 3)) ((T ps) (i * 5 + 4)) 0)), ho50, ((zKeep.rf.pu (by decide)).pu (by decide)), rfl⟩, hs48, (fun q hq => ((o49 (q) (by omega)).trans (hfr (q) (by omega))))⟩
        · skip
          refine lv_goto (tgt := 64) hx hb dX9_isRemade_41 (by decide) ?_
          refine lv_iinc (v := zI ((↑i : Int) + 1)) (lv' := [(2, .int (zI ((↑i : Int) + 1))), (0, .ref h), (1, .int (zI (↑w0 : Int)))]) hx hb dX9_isRemade_64 hl (k := 2) rfl (zI_add _ _) (by decide) rfl (fun ls hl => ?_)
          refine lv_goto (tgt := 23) hx hb dX9_isRemade_67 (by decide) ?_
          exact ih23 (i + 1) Xi z15 fL _ _ _ (by omega) (by omega) (sRp_skip hst (by omega)) (pOk_mono hod (by omega)) (fun q hq => (hfr (q) (by omega))) hM hL0 hL1 hL2 hL3 hL4 hL5 (lv_sub hl [1, 2, 0] rfl)
  have hf56 := hp9.kept (fun q h1 h2 => (o12 (q) (by omega)))
  have hf57 := hsc.kept (fun q h1 h2 => ((o12 (q) (by omega)).trans (o8 (q) (by omega))))
  have hf58 := hSt.kept ((o12 (h + 3) (by omega)).trans (o8 (h + 3) (by omega)))
  have hf59 := hMn.kept ((o12 (h + 4) (by omega)).trans (o8 (h + 4) (by omega)))
  have hf60 := hPr.kept ((o12 (h + 5) (by omega)).trans (o8 (h + 5) (by omega)))
  exact lp23 ((sc ps + 1)) 0 (B ps) (Z 15) f11 _ _ _ (by omega) (by omega) rfl (pOk_mono hokB (by omega)) (fun q hq => ((o12 (q) (by omega)).trans (o8 (q) (by omega)))) hM hf13 hf56 hf57 hf58 hf59 hf60 (lv_sub hl [1, 2, 0] rfl)
