def po_X8_savedShare (g : gE) (f : gF) (h : Nat) (B P T : Nat → Nat → Int) (sc : Nat → Nat) (pr ex : Nat → Int) (ps : Nat) (sv rs an cs cr : Int) (v0 : Int) : UInt64 → gF → Prop := fun r f1 => P ps 2 ≠ 0 ∧ r = svV (P ps) ∧ f = f1
def px_X8_savedShare (g : gE) (f : gF) (h : Nat) (B P T : Nat → Nat → Int) (sc : Nat → Nat) (pr ex : Nat → Int) (ps : Nat) (sv rs an cs cr : Int) (v0 : Int) : String → gF → Prop := fun E f1 => E = exN5 ∧ P ps 2 = 0 ∧ f = f1
set_option maxRecDepth 100000 in
set_option maxHeartbeats 1000000 in
/-- savedShare -/
theorem c_X8_savedShare (l : Launch) (g : gE) (b0 n : Nat) (f : gF) (h : Nat) (B P T : Nat → Nat → Int) (sc : Nat → Nat) (pr ex : Nat → Int) (ps : Nat) (sv rs an cs cr : Int) (v0 : Int) (hl9 : l.stackTraces = false) (hO : obP f h sv rs an cs cr) (hrg : b0 ≤ h ∧ h + 607 ≤ b0 + n) (hS : brsAt g f (h + 1) B P T (fun k => (↑(sc k) : Int)) pr ex (↑ps : Int)) (hex : ∀ k, k < 6 → ex k = 0 ∨ ex k = 1) (hps : ps < 6) (hpx : ex ps = 1) (hok : ∀ k, k < 6 → pOk (P k) v0) (hv1 : 0 ≤ v0) (hv0 : v0 + 1800 ≤ 800000000) : cxD l yX8_savedShare cX8_savedShare 2 (some .double) 6 82 1 [.ref h] g b0 n f (po_X8_savedShare g f h B P T sc pr ex ps sv rs an cs cr v0) (px_X8_savedShare g f h B P T sc pr ex ps sv rs an cs cr v0) := by
  refine gs_xd (cc := cX8_savedShare) (maxL := 2) (ret := (some .double)) (by decide) (Nat.le_of_ble_eq_true rfl) ?_
  intro p e0 s m args below meth c ls hx hb hr hml hown hts hlk hxt hE hK hM hl
  have hl : lv_has ls 2 [(0, .ref h)] := hl
  have hok8 := hok ps hps
  have hp2a : 0 ≤ P ps 2 := by have m := (hok8).2.2.2.1; obtain ⟨m0, m3, mb, mc⟩ := m; have hb0 : 0 ≤ bS (P ps) := (sSum_ge (n := 10) mb).1; omega
  have hp2b := (hok8).2.2.2.2.1
  refine lv_aload_n hx hb dX8_savedShare_0 rfl (lv_at hl 0 rfl) ?_
  refine g_get (ci := 10) (v := .ref (h + 1)) (C := RX8) (T := TX8) (N := 9) hx hb hts iU_X8 hown hK hM ⟨by omega, by omega⟩ hO rfl 0 (by decide) (hts _ u_275) (fun _ h9 => h9) rfl dX8_savedShare_1 ?_
  have hC1 := c_X1_here l g b0 n f (h + 1) B P T (fun k => (↑(sc k) : Int)) pr ex ps hS ⟨by omega, by omega⟩ hex hps hpx
  obtain ⟨ho4, ho5, ho6⟩ := id hS
  refine g_callVq (ci := 3) (C := RX1) (T := TX1) (N := 3) (As := []) (rest := []) ⟨hx, hb, hml, hown, hts⟩ hK hM hC1 (cuV (n := 0) hts u_366 u_363 u_2 (by decide) u_364 u_365 ⟨Nat.le_of_ble_eq_true rfl, Nat.le_of_ble_eq_true rfl⟩) ⟨by omega, by omega⟩ ho4 rfl rfl hl.1 rfl (Nat.le_of_ble_eq_true rfl) dX8_savedShare_4 ⟨Nat.le_of_ble_eq_true rfl, Nat.le_of_ble_eq_true rfl⟩ (fun r4 f2 H locs hM hp3 => ?_)
  obtain ⟨rfl, rfl⟩ := hp3
  have hbb7 := brB_in (h := h + 1) (k := ps) (by omega)
  have hbr7 := hS.2.2 ps (by omega)
  obtain ⟨ho8, ho9, ho10, ho11⟩ := id hbr7
  refine g_getN (ci := 2) (v := .ref ((brB (h + 1) ps) + 24)) (C := RX0) (T := TX0) (N := 6) hx hb hts iU_X0 hown hK hM ⟨by omega, by omega⟩ ho8 rfl 1 (by decide) (hts _ u_210) (fun _ h9 => h9) rfl dX8_savedShare_7 ?_
  refine lv_astore_n (lv' := [(1, .ref ((brB (h + 1) ps) + 24)), (0, .ref h)]) hx hb dX8_savedShare_10 rfl hl (by decide) rfl (fun ls hl => ?_)
  refine lv_aload_n hx hb dX8_savedShare_11 rfl (lv_at hl 0 rfl) ?_
  obtain ⟨ho12, ho13, ho14, ho15, ho16⟩ := id ho10
  refine g_getN (ci := 7) (v := .long (zL ((P ps) 2))) (C := RX5) (T := TX5) (N := 11) hx hb hts iU_X5 hown hK hM ⟨by omega, by omega⟩ ho12 rfl 6 (by decide) (hts _ u_177) (fun _ h9 => h9) rfl dX8_savedShare_12 ?_
  refine g_lconst (z := 0) hx hb dX8_savedShare_15 (by decide) ?_
  refine g_lcmp_ne (tgt := 30) hx hb dX8_savedShare_16 dX8_savedShare_17 (by decide) ⟨by omega, by omega⟩ (by decide) (fun c16 => ?_) (fun c16 => ?_)
  · skip
    refine lv_aload_n hx hb dX8_savedShare_30 rfl (lv_at hl 0 rfl) ?_
    refine g_getN (ci := 7) (v := .long (zL ((P ps) 2))) (C := RX5) (T := TX5) (N := 11) hx hb hts iU_X5 hown hK hM ⟨by omega, by omega⟩ ho12 rfl 6 (by decide) (hts _ u_177) (fun _ h9 => h9) rfl dX8_savedShare_31 ?_
    refine lv_aload_n hx hb dX8_savedShare_34 rfl (lv_at hl 0 rfl) ?_
    refine g_getN (ci := 7) (v := .long (zL ((P ps) 3))) (C := RX5) (T := TX5) (N := 11) hx hb hts iU_X5 hown hK hM ⟨by omega, by omega⟩ ho12 rfl 7 (by decide) (hts _ u_179) (fun _ h9 => h9) rfl dX8_savedShare_35 ?_
    refine g_lsub hx hb dX8_savedShare_38 ?_
    refine lv_l2d hx hb dX8_savedShare_39 ?_
    refine lv_aload_n hx hb dX8_savedShare_40 rfl (lv_at hl 0 rfl) ?_
    refine g_getN (ci := 7) (v := .long (zL ((P ps) 2))) (C := RX5) (T := TX5) (N := 11) hx hb hts iU_X5 hown hK hM ⟨by omega, by omega⟩ ho12 rfl 6 (by decide) (hts _ u_177) (fun _ h9 => h9) rfl dX8_savedShare_41 ?_
    refine lv_l2d hx hb dX8_savedShare_44 ?_
    refine lv_ddiv hx hb dX8_savedShare_45 (dv_ok (zL_nz ⟨by omega, by omega⟩ (by omega))) ?_
    refine gx_dret hx hb hr hlk hK hM dX8_savedShare_46 (by decide) (by decide) ?_
    exact ⟨by omega, rfl, rfl⟩
  · skip
    refine gx_throwS (is := 164) (text := "nothing was received") hx hb hl9 hown hlk hts hxt hE hK hM (hl.1.trans hml.symm) (by decide +kernel) u_920 u_21 (by decide +kernel) xk_5 xg_5 dX8_savedShare_20 dX8_savedShare_23 dX8_savedShare_24 dX8_savedShare_26 dX8_savedShare_29 ⟨by decide, by decide, by decide, by decide⟩ (by decide) (by decide) ?_
    exact ⟨rfl, by omega, rfl⟩

def po_X9_savedShare (g : gE) (f : gF) (h : Nat) (Z M : Nat → Int) (P : Nat → Nat → Int) (ps : Nat) (v0 : Int) : UInt64 → gF → Prop := fun r f1 => ∃ Z1 : Nat → Int, mdO f1 h Z1 ∧ zKeep Z Z1 ∧ Z1 0 = cd1 (P ps 2 ≠ 0) ∧ (Z1 0 = 0 → r = svV (P ps)) ∧ ∀ q, q ≠ h → f1 q = f q
set_option maxRecDepth 100000 in
set_option maxHeartbeats 1000000 in
/-- savedShare -/
theorem c_X9_savedShare (l : Launch) (g : gE) (b0 n : Nat) (f : gF) (h : Nat) (Z M : Nat → Int) (P : Nat → Nat → Int) (ps : Nat) (v0 : Int) (hO : mdO f h Z) (hP : mpAt g f h M (294 * ps) (P ps)) (hrg : b0 ≤ h ∧ h + 13 ≤ b0 + n) (hsc : scrAt g f h) (hz9 : Z 9 = ↑ps) (hps : ps < 6) (hok : pOk (P ps) v0) (hv1 : 0 ≤ v0) (hv0 : v0 + 1800 ≤ 800000000) : cD l yX9_savedShare cX9_savedShare 1 (some .double) 2 40 [.ref h] g b0 n f (po_X9_savedShare g f h Z M P ps v0) := by
  refine gs_d (cc := cX9_savedShare) (maxL := 1) (ret := (some .double)) (by decide) (Nat.le_of_ble_eq_true rfl) ?_
  intro p e0 s m args below meth c ls hx hb hr hml hown hts hlk hK hM hl
  have hl : lv_has ls 1 [(0, .ref h)] := hl
  have hok8 := hok
  have hp2a : 0 ≤ P ps 2 := by have m := (hok8).2.2.2.1; obtain ⟨m0, m3, mb, mc⟩ := m; have hb0 : 0 ≤ bS (P ps) := (sSum_ge (n := 10) mb).1; omega
  have hp2b := (hok8).2.2.2.2.1
  refine lv_aload_n hx hb dX9_savedShare_0 rfl (lv_at hl 0 rfl) ?_
  have hC1 := c_X9_begins l g b0 n f h Z ps hO hrg hz9 hps
  refine g_callVv (ci := 11) (C := RX9) (T := TX9) (N := 24) (As := []) (rest := []) ⟨hx, hb, hml, hown, hts⟩ hK hM hC1 (cuV (n := 0) hts u_1408 u_1405 u_10 (by decide) u_1407 us_54 ⟨Nat.le_of_ble_eq_true rfl, Nat.le_of_ble_eq_true rfl⟩) ⟨by omega, by omega⟩ hO rfl rfl hl.1 rfl (Nat.le_of_ble_eq_true rfl) dX9_savedShare_1 ⟨Nat.zero_le _, Nat.zero_le _⟩ (fun f2 H locs hM hp3 => ?_)
  obtain ⟨hm4, o5⟩ := hp3
  have ho6 : f2 h = .inr (11, [.int (zI 0), .ref (h + 1), .ref (h + 2), .ref (h + 3), .ref (h + 4), .ref (h + 5), .ref (h + 6), .ref (h + 7), .ref (h + 8), .int (zI (Z 9)), .int (zI (Z 10)), .int (zI (↑(294 * ps) : Int)), .int (zI (Z 12)), .int (zI (Z 13)), .int (zI (Z 14)), .int (zI (Z 15)), .int (zI (Z 16)), .ref (h + 9), .ref (h + 10), .ref (h + 11), .int (zI (Z 20)), .int (zI (Z 21)), .int (zI (Z 22)), .ref (h + 12)]) := hm4
  refine lv_aload_n hx hb dX9_savedShare_4 rfl (lv_at hl 0 rfl) ?_
  refine g_iconst hx hb dX9_savedShare_5 ?_
  have hf7 := hP.kept (fun q h1 h2 => (o5 (q) (by omega)))
  have hC8 := c_X9_p l g b0 n f2 h (pu (pu Z 0 0) 11 (↑(294 * ps) : Int)) M (294 * ps) (P ps) 2 (2) ho6 hf7 hrg (pu_s _ _ _) (by omega) (by omega) (by omega)
  refine g_callVl (ci := 11) (C := RX9) (T := TX9) (N := 24) (As := [.int (zI 2)]) (rest := []) ⟨hx, hb, hml, hown, hts⟩ hK hM hC8 (cuV (n := 1) hts u_1283 u_1280 u_10 (by decide) u_1282 us_37 ⟨Nat.le_of_ble_eq_true rfl, Nat.le_of_ble_eq_true rfl⟩) ⟨by omega, by omega⟩ ho6 rfl rfl hl.1 rfl (Nat.le_of_ble_eq_true rfl) dX9_savedShare_6 ⟨Nat.zero_le _, Nat.zero_le _⟩ (fun r6 f9 H locs hM hp10 => ?_)
  obtain ⟨rfl, rfl⟩ := hp10
  refine g_lconst (z := 0) hx hb dX9_savedShare_9 (by decide) ?_
  refine g_lcmp_ne (tgt := 23) hx hb dX9_savedShare_10 dX9_savedShare_11 (by decide) ⟨by omega, by omega⟩ (by decide) (fun c10 => ?_) (fun c10 => ?_)
  · skip
    refine lv_aload_n hx hb dX9_savedShare_23 rfl (lv_at hl 0 rfl) ?_
    refine g_iconst hx hb dX9_savedShare_24 ?_
    have hC11 := c_X9_p l g b0 n f2 h (pu (pu Z 0 0) 11 (↑(294 * ps) : Int)) M (294 * ps) (P ps) 2 (2) ho6 hf7 hrg (pu_s _ _ _) (by omega) (by omega) (by omega)
    refine g_callVl (ci := 11) (C := RX9) (T := TX9) (N := 24) (As := [.int (zI 2)]) (rest := []) ⟨hx, hb, hml, hown, hts⟩ hK hM hC11 (cuV (n := 1) hts u_1283 u_1280 u_10 (by decide) u_1282 us_37 ⟨Nat.le_of_ble_eq_true rfl, Nat.le_of_ble_eq_true rfl⟩) ⟨by omega, by omega⟩ ho6 rfl rfl hl.1 rfl (Nat.le_of_ble_eq_true rfl) dX9_savedShare_25 ⟨Nat.zero_le _, Nat.zero_le _⟩ (fun r25 f12 H locs hM hp13 => ?_)
    obtain ⟨rfl, rfl⟩ := hp13
    refine lv_aload_n hx hb dX9_savedShare_28 rfl (lv_at hl 0 rfl) ?_
    refine g_iconst hx hb dX9_savedShare_29 ?_
    have hC14 := c_X9_p l g b0 n f2 h (pu (pu Z 0 0) 11 (↑(294 * ps) : Int)) M (294 * ps) (P ps) 3 (3) ho6 hf7 hrg (pu_s _ _ _) (by omega) (by omega) (by omega)
    refine g_callVl (ci := 11) (C := RX9) (T := TX9) (N := 24) (As := [.int (zI 3)]) (rest := [.long (zL ((P ps) 2))]) ⟨hx, hb, hml, hown, hts⟩ hK hM hC14 (cuV (n := 1) hts u_1283 u_1280 u_10 (by decide) u_1282 us_37 ⟨Nat.le_of_ble_eq_true rfl, Nat.le_of_ble_eq_true rfl⟩) ⟨by omega, by omega⟩ ho6 rfl rfl hl.1 rfl (Nat.le_of_ble_eq_true rfl) dX9_savedShare_30 ⟨Nat.zero_le _, Nat.zero_le _⟩ (fun r30 f15 H locs hM hp16 => ?_)
    obtain ⟨rfl, rfl⟩ := hp16
    refine g_lsub hx hb dX9_savedShare_33 ?_
    refine lv_l2d hx hb dX9_savedShare_34 ?_
    refine lv_aload_n hx hb dX9_savedShare_35 rfl (lv_at hl 0 rfl) ?_
    refine g_iconst hx hb dX9_savedShare_36 ?_
    have hC17 := c_X9_p l g b0 n f2 h (pu (pu Z 0 0) 11 (↑(294 * ps) : Int)) M (294 * ps) (P ps) 2 (2) ho6 hf7 hrg (pu_s _ _ _) (by omega) (by omega) (by omega)
    refine g_callVl (ci := 11) (C := RX9) (T := TX9) (N := 24) (As := [.int (zI 2)]) (rest := [.double (FP.l2d (zL (((P ps) 2) - ((P ps) 3))))]) ⟨hx, hb, hml, hown, hts⟩ hK hM hC17 (cuV (n := 1) hts u_1283 u_1280 u_10 (by decide) u_1282 us_37 ⟨Nat.le_of_ble_eq_true rfl, Nat.le_of_ble_eq_true rfl⟩) ⟨by omega, by omega⟩ ho6 rfl rfl hl.1 rfl (Nat.le_of_ble_eq_true rfl) dX9_savedShare_37 ⟨Nat.zero_le _, Nat.zero_le _⟩ (fun r37 f18 H locs hM hp19 => ?_)
    obtain ⟨rfl, rfl⟩ := hp19
    refine lv_l2d hx hb dX9_savedShare_40 ?_
    refine lv_ddiv hx hb dX9_savedShare_41 (dv_ok (zL_nz ⟨by omega, by omega⟩ (by omega))) ?_
    refine g_dret hx hb hr hlk hK hM dX9_savedShare_42 ?_
    exact ⟨(pu (pu Z 0 0) 11 (↑(294 * ps) : Int)), ho6, ((zKeep.rf.pu (by decide)).pu (by decide)), (cd1_y (by omega)).symm, fun _ => rfl, (fun q hq => (o5 (q) (by omega)))⟩
  · skip
    refine lv_aload_n hx hb dX9_savedShare_14 rfl (lv_at hl 0 rfl) ?_
    refine g_iconst hx hb dX9_savedShare_15 ?_
    have hC20 := c_X9_fails l g b0 n f2 h (pu (pu Z 0 0) 11 (↑(294 * ps) : Int)) 1 ho6 hrg
    refine g_callVi (ci := 11) (C := RX9) (T := TX9) (N := 24) (As := [.int (zI 1)]) (rest := []) ⟨hx, hb, hml, hown, hts⟩ hK hM hC20 (cuV (n := 1) hts u_1412 u_1409 u_10 (by decide) u_1411 us_55 ⟨Nat.le_of_ble_eq_true rfl, Nat.le_of_ble_eq_true rfl⟩) ⟨by omega, by omega⟩ ho6 rfl rfl hl.1 rfl (Nat.le_of_ble_eq_true rfl) dX9_savedShare_16 ⟨Nat.zero_le _, Nat.zero_le _⟩ (fun r16 f21 H locs hM hp22 => ?_)
    obtain ⟨rfl, hm23, o24⟩ := hp22
    have ho25 : f21 h = .inr (11, [.int (zI 1), .ref (h + 1), .ref (h + 2), .ref (h + 3), .ref (h + 4), .ref (h + 5), .ref (h + 6), .ref (h + 7), .ref (h + 8), .int (zI (Z 9)), .int (zI (Z 10)), .int (zI (↑(294 * ps) : Int)), .int (zI (Z 12)), .int (zI (Z 13)), .int (zI (Z 14)), .int (zI (Z 15)), .int (zI (Z 16)), .ref (h + 9), .ref (h + 10), .ref (h + 11), .int (zI (Z 20)), .int (zI (Z 21)), .int (zI (Z 22)), .ref (h + 12)]) := hm23
    refine lv_i2d hx hb dX9_savedShare_19 ?_
    refine lv_goto (tgt := 42) hx hb dX9_savedShare_20 (by decide) ?_
    refine g_dret hx hb hr hlk hK hM dX9_savedShare_42 ?_
    exact ⟨(pu (pu Z 0 1) 11 (↑(294 * ps) : Int)), ho25, ((zKeep.rf.pu (by decide)).pu (by decide)), (cd1_n (fun hh => hh (by omega))).symm, fun hh => absurd (show (1 : Int) = 0 from hh) (by decide), (fun q hq => ((o24 (q) (by omega)).trans (o5 (q) (by omega))))⟩
