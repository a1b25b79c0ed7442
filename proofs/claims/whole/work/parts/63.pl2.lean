def po_X8_clearReason (g : gE) (f : gF) (h : Nat) (sv rs an cs cr : Int) : Int32 → gF → Prop := fun r f1 => r = zI rs ∧ obP f1 h sv 0 an cs cr ∧ ∀ q, (q < h ∨ h + 1 ≤ q) → f1 q = f q
set_option maxRecDepth 100000 in
set_option maxHeartbeats 1000000 in
/-- clearReason() -/
theorem c_X8_clearReason (l : Launch) (g : gE) (b0 n : Nat) (f : gF) (h : Nat) (sv rs an cs cr : Int) (hO : obP f h sv rs an cs cr) (hrg : b0 ≤ h ∧ h + 607 ≤ b0 + n) : cI l yX8_clearReason cX8_clearReason 2 (some .int) 0 0 [.ref h] g b0 n f (po_X8_clearReason g f h sv rs an cs cr) := by
  refine gs_i (cc := cX8_clearReason) (maxL := 2) (ret := (some .int)) (by decide) (Nat.le_of_ble_eq_true rfl) ?_
  intro p e0 s m args below meth c ls hx hb hr hml hown hts hlk hK hM hl
  have hl : lv_has ls 2 [(0, .ref h)] := hl
  refine lv_aload_n hx hb dX8_clearReason_0 rfl (lv_at hl 0 rfl) ?_
  refine g_get (ci := 10) (v := .int (zI rs)) (C := RX8) (T := TX8) (N := 9) hx hb hts iU_X8 hown hK hM ⟨by omega, by omega⟩ hO rfl 5 (by decide) (hts _ u_280) (fun _ h9 => h9) rfl dX8_clearReason_1 ?_
  refine lv_istore_n (lv' := [(1, .int (zI rs)), (0, .ref h)]) hx hb dX8_clearReason_4 rfl hl (by decide) rfl (fun ls hl => ?_)
  refine lv_aload_n hx hb dX8_clearReason_5 rfl (lv_at hl 1 rfl) ?_
  refine g_iconst hx hb dX8_clearReason_6 ?_
  refine g_put (ci := 10) (v := .int (zI 0)) (ty := .int) (C := RX8) (T := TX8) (N := 9) hx hb hts iU_X8 tyX8 tyX8_ok nmX8 hown hK hM ⟨by omega, by omega⟩ hO rfl 5 (by decide) (hts _ u_280) (fun _ h9 => h9) rfl (by decide +kernel) rfl rfl (Nat.le_of_ble_eq_true rfl) dX8_clearReason_7 (fun f1 H locs hM hf3 o2 => ?_)
  have hf3 : f1 (h) = .inr (10, [.ref (h + 1), .ref (h + 291), .ref (h + 581), .ref (h + 604), .int (zI sv), .int (zI 0), .int (zI an), .int (zI cs), .int (zI cr)]) := hf3
  refine lv_iload_n hx hb dX8_clearReason_10 rfl (lv_at hl 0 rfl) ?_
  refine g_iret hx hb hr hlk hK hM dX8_clearReason_11 ?_
  exact ⟨rfl, hf3, (fun q hq => (o2 (q) (by omega)))⟩

def po_X8_save (g : gE) (f : gF) (h : Nat) (B P T : Nat → Nat → Int) (sc : Nat → Nat) (pr ex : Nat → Int) (ps : Nat) (sv rs an cs cr : Int) (B2 P2 T2 : Nat → Nat → Int) (sc2 : Nat → Nat) (pr2 ex2 : Nat → Int) (ps2 : Nat) : Int32 → gF → Prop := fun r f1 => r = zI (sCnt ex 6) ∧ obP f1 h 1 rs an cs cr ∧ brsAt g f1 (h + 291) B P T (fun k => (↑(sc k) : Int)) pr ex (↑ps : Int) ∧ ∀ q, (q < h ∨ (h + 1 ≤ q ∧ q < h + 291) ∨ h + 581 ≤ q) → f1 q = f q
set_option maxRecDepth 100000 in
set_option maxHeartbeats 1000000 in
/-- save() -/
theorem c_X8_save (l : Launch) (g : gE) (b0 n : Nat) (f : gF) (h : Nat) (B P T : Nat → Nat → Int) (sc : Nat → Nat) (pr ex : Nat → Int) (ps : Nat) (sv rs an cs cr : Int) (B2 P2 T2 : Nat → Nat → Int) (sc2 : Nat → Nat) (pr2 ex2 : Nat → Int) (ps2 : Nat) (hO : obP f h sv rs an cs cr) (hrg : b0 ≤ h ∧ h + 607 ≤ b0 + n) (hS : brsAt g f (h + 1) B P T (fun k => (↑(sc k) : Int)) pr ex (↑ps : Int)) (hS2 : brsAt g f (h + 291) B2 P2 T2 (fun k => (↑(sc2 k) : Int)) pr2 ex2 (↑ps2 : Int)) (hex : ∀ k, k < 6 → ex k = 0 ∨ ex k = 1) : cI l yX8_save cX8_save 1 (some .int) 5 147 [.ref h] g b0 n f (po_X8_save g f h B P T sc pr ex ps sv rs an cs cr B2 P2 T2 sc2 pr2 ex2 ps2) := by
  refine gs_i (cc := cX8_save) (maxL := 1) (ret := (some .int)) (by decide) (Nat.le_of_ble_eq_true rfl) ?_
  intro p e0 s m args below meth c ls hx hb hr hml hown hts hlk hK hM hl
  have hl : lv_has ls 1 [(0, .ref h)] := hl
  refine lv_aload_n hx hb dX8_save_0 rfl (lv_at hl 0 rfl) ?_
  refine g_get (ci := 10) (v := .ref (h + 291)) (C := RX8) (T := TX8) (N := 9) hx hb hts iU_X8 hown hK hM ⟨by omega, by omega⟩ hO rfl 1 (by decide) (hts _ u_276) (fun _ h9 => h9) rfl dX8_save_1 ?_
  refine lv_aload_n hx hb dX8_save_4 rfl (lv_at hl 0 rfl) ?_
  refine g_get (ci := 10) (v := .ref (h + 1)) (C := RX8) (T := TX8) (N := 9) hx hb hts iU_X8 hown hK hM ⟨by omega, by omega⟩ hO rfl 0 (by decide) (hts _ u_275) (fun _ h9 => h9) rfl dX8_save_5 ?_
  have hC1 := c_X1_copyFrom l g b0 n f (h + 291) _ _ _ _ _ _ _ (h + 1) _ _ _ _ _ _ _ hS2 ⟨by omega, by omega⟩ hS ⟨by omega, by omega⟩ (by omega) hex (fun k _ => by show (0 : Int) ≤ ↑(sc2 k); omega) (fun k _ => by show (0 : Int) ≤ ↑(sc k); omega)
  obtain ⟨ho4, ho5, ho6⟩ := id hS2
  refine g_callVv (ci := 3) (C := RX1) (T := TX1) (N := 3) (As := [.ref (h + 1)]) (rest := []) ⟨hx, hb, hml, hown, hts⟩ hK hM hC1 (cuV (n := 1) hts u_553 u_550 u_2 (by decide) u_551 u_552 ⟨Nat.le_of_ble_eq_true rfl, Nat.le_of_ble_eq_true rfl⟩) ⟨by omega, by omega⟩ ho4 rfl rfl hl.1 rfl (Nat.le_of_ble_eq_true rfl) dX8_save_8 ⟨Nat.zero_le _, Nat.zero_le _⟩ (fun f2 H locs hM hp3 => ?_)
  obtain ⟨hn7, o8⟩ := hp3
  refine lv_aload_n hx hb dX8_save_11 rfl (lv_at hl 0 rfl) ?_
  refine g_iconst hx hb dX8_save_12 ?_
  have hf9 : f2 (h) = .inr (10, [.ref (h + 1), .ref (h + 291), .ref (h + 581), .ref (h + 604), .int (zI sv), .int (zI rs), .int (zI an), .int (zI cs), .int (zI cr)]) := (o8 (h) (by omega)).trans hO
  refine g_put (ci := 10) (v := .int (zI 1)) (ty := .boolean) (C := RX8) (T := TX8) (N := 9) hx hb hts iU_X8 tyX8 tyX8_ok nmX8 hown hK hM ⟨by omega, by omega⟩ hf9 rfl 4 (by decide) (hts _ u_279) (fun _ h9 => h9) rfl (by decide +kernel) (by decide) (by decide) (Nat.le_of_ble_eq_true rfl) dX8_save_13 (fun f10 H locs hM hf12 o11 => ?_)
  have hf12 : f10 (h) = .inr (10, [.ref (h + 1), .ref (h + 291), .ref (h + 581), .ref (h + 604), .int (zI 1), .int (zI rs), .int (zI an), .int (zI cs), .int (zI cr)]) := hf12
  refine lv_aload_n hx hb dX8_save_16 rfl (lv_at hl 0 rfl) ?_
  refine g_get (ci := 10) (v := .ref (h + 291)) (C := RX8) (T := TX8) (N := 9) hx hb hts iU_X8 hown hK hM ⟨by omega, by omega⟩ hf12 rfl 1 (by decide) (hts _ u_276) (fun _ h9 => h9) rfl dX8_save_17 ?_
  have hf13 := hn7.kept (fun q h1 h2 => (o11 (q) (by omega)))
  have hC14 := c_X1_count l g b0 n f10 (h + 291) B P T (fun k => (↑(sc k) : Int)) pr ex ps hf13 ⟨by omega, by omega⟩ hex
  obtain ⟨ho17, ho18, ho19⟩ := id hf13
  refine g_callVi (ci := 3) (C := RX1) (T := TX1) (N := 3) (As := []) (rest := []) ⟨hx, hb, hml, hown, hts⟩ hK hM hC14 (cuV (n := 0) hts u_588 u_585 u_2 (by decide) u_586 u_587 ⟨Nat.le_of_ble_eq_true rfl, Nat.le_of_ble_eq_true rfl⟩) ⟨by omega, by omega⟩ ho17 rfl rfl hl.1 rfl (Nat.le_of_ble_eq_true rfl) dX8_save_20 ⟨Nat.zero_le _, Nat.zero_le _⟩ (fun r20 f15 H locs hM hp16 => ?_)
  obtain ⟨rfl, rfl⟩ := hp16
  refine g_iret hx hb hr hlk hK hM dX8_save_23 ?_
  exact ⟨rfl, hf12, hf13, fun q hq => ((o11 (q) (by omega)).trans (o8 (q) (by omega)))⟩

def po_X8_readPlan (g : gE) (f : gF) (h : Nat) (B P T : Nat → Nat → Int) (sc : Nat → Nat) (pr ex : Nat → Int) (ps : Nat) (sv rs an cs cr : Int) (rT rC : Nat → Int) (rL : Nat) (rn ra rm : Int) (v0 : Int) : Int32 → gF → Prop := fun r f1 => ∃ (e9 : Int) (N M : Nat), rdE rT rL e9 N ∧ M = (if e9 = -1 then N + 1 else 0) ∧ r = zI (if e9 = -1 then (↑(sEx rT rL ps P T sc rs M).2.1 : Int) else -100 - e9) ∧ brsAt g f1 (h + 1) B (exP (sEx rT rL ps P T sc rs M)) (exT (sEx rT rL ps P T sc rs M)) (fun k => (↑(exC (sEx rT rL ps P T sc rs M) k) : Int)) pr ex (↑ps : Int) ∧ (∃ an9 : Int, obP f1 h sv (exR (sEx rT rL ps P T sc rs M)) an9 cs cr) ∧ (∃ (C9 : Nat → Int) (c9 a9 m9 : Int), rdAt g f1 (h + 604) rT C9 0 c9 a9 m9) ∧ ∀ q, (q < h ∨ (h + 291 ≤ q ∧ q < h + 604) ∨ h + 607 ≤ q) → f1 q = f q
set_option maxRecDepth 100000 in
set_option maxHeartbeats 1000000 in
/-- readPlan() -/
theorem c_X8_readPlan (l : Launch) (g : gE) (b0 n : Nat) (f : gF) (h : Nat) (B P T : Nat → Nat → Int) (sc : Nat → Nat) (pr ex : Nat → Int) (ps : Nat) (sv rs an cs cr : Int) (rT rC : Nat → Int) (rL : Nat) (rn ra rm : Int) (v0 : Int) (hO : obP f h sv rs an cs cr) (hrg : b0 ≤ h ∧ h + 607 ≤ b0 + n) (hS : brsAt g f (h + 1) B P T (fun k => (↑(sc k) : Int)) pr ex (↑ps : Int)) (hex : ∀ k, k < 6 → ex k = 0 ∨ ex k = 1) (hps : ps < 6) (hpx : ex ps = 1) (hR : rdAt g f (h + 604) rT rC ↑rL rn ra rm) (hT : txOk rT) (hL : rL ≤ 60) (hok : ∀ k, k < 6 → pOk (P k) v0) (hv1 : 0 ≤ v0) (hv0 : v0 + 541 * 62 ≤ 800000000) (hsc : ∀ k, k < 6 → sc k ≤ 60) : cI l yX8_readPlan cX8_readPlan 3 (some .int) 6 161 [.ref h] g b0 n f (po_X8_readPlan g f h B P T sc pr ex ps sv rs an cs cr rT rC rL rn ra rm v0) := by
  refine gs_i (cc := cX8_readPlan) (maxL := 3) (ret := (some .int)) (by decide) (Nat.le_of_ble_eq_true rfl) ?_
  intro p e0 s m args below meth c ls hx hb hr hml hown hts hlk hK hM hl
  have hl : lv_has ls 3 [(0, .ref h)] := hl
  refine lv_aload_n hx hb dX8_readPlan_0 rfl (lv_at hl 0 rfl) ?_
  refine g_get (ci := 10) (v := .ref (h + 604)) (C := RX8) (T := TX8) (N := 9) hx hb hts iU_X8 hown hK hM ⟨by omega, by omega⟩ hO rfl 3 (by decide) (hts _ u_278) (fun _ h9 => h9) rfl dX8_readPlan_1 ?_
  have hC1 := c_X6_readAll l g b0 n f (h + 604) rT rC rL rn ra rm hR ⟨by omega, by omega⟩ hT hL
  obtain ⟨ho4, ho5, ho6⟩ := id hR
  refine g_callVi (ci := 8) (C := RX6) (T := TX6) (N := 6) (As := []) (rest := []) ⟨hx, hb, hml, hown, hts⟩ hK hM hC1 (cuV (n := 0) hts u_314 u_311 u_9 (by decide) u_312 u_313 ⟨Nat.le_of_ble_eq_true rfl, Nat.le_of_ble_eq_true rfl⟩) ⟨by omega, by omega⟩ ho4 rfl rfl hl.1 rfl (Nat.le_of_ble_eq_true rfl) dX8_readPlan_4 ⟨Nat.zero_le _, Nat.zero_le _⟩ (fun r4 f2 H locs hM hp3 => ?_)
  obtain ⟨N, e9, C1, nm1, cn1, a1, hrd, rfl, hn7, hcm, o8⟩ := hp3
  have he9 : -1 ≤ e9 ∧ e9 ≤ 60 := by rcases hrd.2 with q | q; exact ⟨by omega, by omega⟩; have q2 := (chn_in hL hrd.1).1.2.1; exact ⟨by omega, by omega⟩
  refine lv_istore_n (lv' := [(1, .int (zI e9)), (0, .ref h)]) hx hb dX8_readPlan_7 rfl hl (by decide) rfl (fun ls hl => ?_)
  refine lv_iload_n hx hb dX8_readPlan_8 rfl (lv_at hl 0 rfl) ?_
  refine g_iconst hx hb dX8_readPlan_9 ?_
  refine g_icmp_eq (tgt := 18) hx hb dX8_readPlan_10 (by decide) ⟨by omega, by omega⟩ (by decide) (fun c10 => ?_) (fun c10 => ?_)
  · skip
    refine g_iconst hx hb dX8_readPlan_18 ?_
    refine lv_istore_n (lv' := [(2, .int (zI 0)), (1, .int (zI e9)), (0, .ref h)]) hx hb dX8_readPlan_19 rfl hl (by decide) rfl (fun ls hl => ?_)
    obtain ⟨hcz, hcm2⟩ := hcm c10
    subst hcz
    have hpp := chn_pos hL hrd.1
    have hN29 : N < 30 := by
      rcases hrd.2 with q | q
      · have q2 := (chn_in hL hrd.1).2 q.1
        have q3 := (chn_in hL hrd.1).1.2.1
        omega
      · have q2 := q.2; omega
    have lp20 : ∀ (k : Nat), ∀ (i : Nat) (an1 : Int) (fL : gF) (H : Heap) (locs : List Loc) (ls : Array Slot), (N + 1 - i < k) → (i ≤ N + 1) → ((sEx rT rL ps P T sc rs i).1 = false) → (∀ q, (q < h ∨ (h + 291 ≤ q ∧ q < h + 604) ∨ h + 607 ≤ q) → fL q = f q) → gH g b0 n fL s.heap H locs → (obP fL h sv (exR (sEx rT rL ps P T sc rs i)) an1 cs cr) → (brsAt g fL (h + 1) B (exP (sEx rT rL ps P T sc rs i)) (exT (sEx rT rL ps P T sc rs i)) (fun k => (↑(exC (sEx rT rL ps P T sc rs i) k) : Int)) pr ex (↑ps : Int)) → (rdAt g fL (h + 604) rT C1 0 ↑(N + 1) a1 nm1) → lv_has ls 3 [(0, .ref h), (2, .int (zI (↑i : Int)))] → W p l e0 { frames := 6, cells := 0, slots := 0, locals := 161 } s m args below meth c H locs 0 0 (MQ below (va_Qi (po_X8_readPlan g f h B P T sc pr ex ps sv rs an cs cr rT rC rL rn ra rm v0) (gB g b0 n) (gA b0)) args s 0 0 (gA b0)) (F0 m 20 ls []) := by
      intro k
      induction k with
      | zero =>
        intro i an1 fL H locs ls hk hi hns hfr hM hL0 hL1 hL2 hl
        exact absurd hk (Nat.not_lt_zero _)
      | succ k ih20 =>
        intro i an1 fL H locs ls hk hi hns hfr hM hL0 hL1 hL2 hl
        refine lv_iload_n hx hb dX8_readPlan_20 rfl (lv_at hl 1 rfl) ?_
        refine lv_aload_n hx hb dX8_readPlan_21 rfl (lv_at hl 0 rfl) ?_
        refine g_get (ci := 10) (v := .ref (h + 604)) (C := RX8) (T := TX8) (N := 9) hx hb hts iU_X8 hown hK hM ⟨by omega, by omega⟩ hL0 rfl 3 (by decide) (hts _ u_278) (fun _ h9 => h9) rfl dX8_readPlan_22 ?_
        obtain ⟨ho9, ho10, ho11⟩ := id hL2
        refine g_getN (ci := 8) (v := .int (zI (↑(N + 1) : Int))) (C := RX6) (T := TX6) (N := 6) hx hb hts iU_X6 hown hK hM ⟨by omega, by omega⟩ ho9 rfl 3 (by decide) (hts _ u_258) (fun _ h9 => h9) rfl dX8_readPlan_25 ?_
        refine g_icmp_ge (tgt := 83) hx hb dX8_readPlan_28 (by decide) ⟨by omega, by omega⟩ ⟨by omega, by omega⟩ (fun c28 => ?_) (fun c28 => ?_)
        · skip
          refine lv_aload_n hx hb dX8_readPlan_83 rfl (lv_at hl 0 rfl) ?_
          refine g_get (ci := 10) (v := .ref (h + 604)) (C := RX8) (T := TX8) (N := 9) hx hb hts iU_X8 hown hK hM ⟨by omega, by omega⟩ hL0 rfl 3 (by decide) (hts _ u_278) (fun _ h9 => h9) rfl dX8_readPlan_84 ?_
          refine g_getN (ci := 8) (v := .int (zI (↑(N + 1) : Int))) (C := RX6) (T := TX6) (N := 6) hx hb hts iU_X6 hown hK hM ⟨by omega, by omega⟩ ho9 rfl 3 (by decide) (hts _ u_258) (fun _ h9 => h9) rfl dX8_readPlan_87 ?_
          refine g_iret hx hb hr hlk hK hM dX8_readPlan_90 ?_
          have hii : i = N + 1 := by omega
          subst hii
          refine ⟨e9, N, N + 1, hrd, (if_pos c10).symm, ?_, hL1, ⟨_, hL0⟩, ⟨_, _, _, _, hL2⟩, fun q hq => (hfr (q) (by omega))⟩
          rw [if_pos c10, sEx_cnt hns]
        · skip
          have hci := (chn_in (T := rT) hL (N := i) (fun j hj => hrd.1 j (by omega))).1
          have hio := sEx_ok (T := T) (rs := rs) hL hrd.1 hps hok hv1 hsc (n := i) (by omega) (by omega)
          unfold rdIn at hci
          refine lv_aload_n hx hb dX8_readPlan_31 rfl (lv_at hl 0 rfl) ?_
          refine lv_aload_n hx hb dX8_readPlan_32 rfl (lv_at hl 0 rfl) ?_
          refine g_get (ci := 10) (v := .ref (h + 604)) (C := RX8) (T := TX8) (N := 9) hx hb hts iU_X8 hown hK hM ⟨by omega, by omega⟩ hL0 rfl 3 (by decide) (hts _ u_278) (fun _ h9 => h9) rfl dX8_readPlan_33 ?_
          refine lv_iload_n hx hb dX8_readPlan_36 rfl (lv_at hl 1 rfl) ?_
          refine g_iconst hx hb dX8_readPlan_37 ?_
          have hC12 := c_X6_partOf l g b0 n fL (h + 604) rT C1 0 (↑(N + 1)) a1 nm1 i 0 hL2 ⟨by omega, by omega⟩ (by omega) (by omega)
          refine g_callVi (ci := 8) (C := RX6) (T := TX6) (N := 6) (As := [.int (zI (↑i : Int)), .int (zI 0)]) (rest := [.ref h]) ⟨hx, hb, hml, hown, hts⟩ hK hM hC12 (cuV (n := 2) hts u_358 u_355 u_9 (by decide) u_356 u_357 ⟨Nat.le_of_ble_eq_true rfl, Nat.le_of_ble_eq_true rfl⟩) ⟨by omega, by omega⟩ ho9 rfl rfl hl.1 rfl (Nat.le_of_ble_eq_true rfl) dX8_readPlan_38 ⟨Nat.zero_le _, Nat.zero_le _⟩ (fun r38 f13 H locs hM hp14 => ?_)
          obtain ⟨rfl, rfl⟩ := hp14
          rw [show C1 (i * 4 + 0) = (cq rT rL i).2.2.1 from (hcm2 i (by omega)).1]
          refine lv_aload_n hx hb dX8_readPlan_41 rfl (lv_at hl 0 rfl) ?_
          refine g_get (ci := 10) (v := .ref (h + 604)) (C := RX8) (T := TX8) (N := 9) hx hb hts iU_X8 hown hK hM ⟨by omega, by omega⟩ hL0 rfl 3 (by decide) (hts _ u_278) (fun _ h9 => h9) rfl dX8_readPlan_42 ?_
          refine lv_iload_n hx hb dX8_readPlan_45 rfl (lv_at hl 1 rfl) ?_
          refine g_iconst hx hb dX8_readPlan_46 ?_
          have hC15 := c_X6_partOf l g b0 n fL (h + 604) rT C1 0 (↑(N + 1)) a1 nm1 i 1 hL2 ⟨by omega, by omega⟩ (by omega) (by omega)
          refine g_callVi (ci := 8) (C := RX6) (T := TX6) (N := 6) (As := [.int (zI (↑i : Int)), .int (zI 1)]) (rest := [.int (zI ((cq rT rL i).2.2.1)), .ref h]) ⟨hx, hb, hml, hown, hts⟩ hK hM hC15 (cuV (n := 2) hts u_358 u_355 u_9 (by decide) u_356 u_357 ⟨Nat.le_of_ble_eq_true rfl, Nat.le_of_ble_eq_true rfl⟩) ⟨by omega, by omega⟩ ho9 rfl rfl hl.1 rfl (Nat.le_of_ble_eq_true rfl) dX8_readPlan_47 ⟨Nat.zero_le _, Nat.zero_le _⟩ (fun r47 f16 H locs hM hp17 => ?_)
          obtain ⟨rfl, rfl⟩ := hp17
          rw [show C1 (i * 4 + 1) = (cq rT rL i).2.2.2.1 from (hcm2 i (by omega)).2.1]
          refine lv_aload_n hx hb dX8_readPlan_50 rfl (lv_at hl 0 rfl) ?_
          refine g_get (ci := 10) (v := .ref (h + 604)) (C := RX8) (T := TX8) (N := 9) hx hb hts iU_X8 hown hK hM ⟨by omega, by omega⟩ hL0 rfl 3 (by decide) (hts _ u_278) (fun _ h9 => h9) rfl dX8_readPlan_51 ?_
          refine lv_iload_n hx hb dX8_readPlan_54 rfl (lv_at hl 1 rfl) ?_
          refine g_iconst hx hb dX8_readPlan_55 ?_
          have hC18 := c_X6_partOf l g b0 n fL (h + 604) rT C1 0 (↑(N + 1)) a1 nm1 i 2 hL2 ⟨by omega, by omega⟩ (by omega) (by omega)
          refine g_callVi (ci := 8) (C := RX6) (T := TX6) (N := 6) (As := [.int (zI (↑i : Int)), .int (zI 2)]) (rest := [.int (zI ((cq rT rL i).2.2.2.1)), .int (zI ((cq rT rL i).2.2.1)), .ref h]) ⟨hx, hb, hml, hown, hts⟩ hK hM hC18 (cuV (n := 2) hts u_358 u_355 u_9 (by decide) u_356 u_357 ⟨Nat.le_of_ble_eq_true rfl, Nat.le_of_ble_eq_true rfl⟩) ⟨by omega, by omega⟩ ho9 rfl rfl hl.1 rfl (Nat.le_of_ble_eq_true rfl) dX8_readPlan_56 ⟨Nat.zero_le _, Nat.zero_le _⟩ (fun r56 f19 H locs hM hp20 => ?_)
          obtain ⟨rfl, rfl⟩ := hp20
          rw [show C1 (i * 4 + 2) = (cq rT rL i).2.2.2.2.1 from (hcm2 i (by omega)).2.2.1]
          refine lv_aload_n hx hb dX8_readPlan_59 rfl (lv_at hl 0 rfl) ?_
          refine g_get (ci := 10) (v := .ref (h + 604)) (C := RX8) (T := TX8) (N := 9) hx hb hts iU_X8 hown hK hM ⟨by omega, by omega⟩ hL0 rfl 3 (by decide) (hts _ u_278) (fun _ h9 => h9) rfl dX8_readPlan_60 ?_
          refine lv_iload_n hx hb dX8_readPlan_63 rfl (lv_at hl 1 rfl) ?_
          refine g_iconst hx hb dX8_readPlan_64 ?_
          have hC21 := c_X6_partOf l g b0 n fL (h + 604) rT C1 0 (↑(N + 1)) a1 nm1 i 3 hL2 ⟨by omega, by omega⟩ (by omega) (by omega)
          refine g_callVi (ci := 8) (C := RX6) (T := TX6) (N := 6) (As := [.int (zI (↑i : Int)), .int (zI 3)]) (rest := [.int (zI ((cq rT rL i).2.2.2.2.1)), .int (zI ((cq rT rL i).2.2.2.1)), .int (zI ((cq rT rL i).2.2.1)), .ref h]) ⟨hx, hb, hml, hown, hts⟩ hK hM hC21 (cuV (n := 2) hts u_358 u_355 u_9 (by decide) u_356 u_357 ⟨Nat.le_of_ble_eq_true rfl, Nat.le_of_ble_eq_true rfl⟩) ⟨by omega, by omega⟩ ho9 rfl rfl hl.1 rfl (Nat.le_of_ble_eq_true rfl) dX8_readPlan_65 ⟨Nat.zero_le _, Nat.zero_le _⟩ (fun r65 f22 H locs hM hp23 => ?_)
          obtain ⟨rfl, rfl⟩ := hp23
          rw [show C1 (i * 4 + 3) = (cq rT rL i).2.2.2.2.2 from (hcm2 i (by omega)).2.2.2]
          refine g_iconst hx hb dX8_readPlan_68 ?_
          have hC24 := c_X8_tryStep l g b0 n fL h B (exP (sEx rT rL ps P T sc rs i)) (exT (sEx rT rL ps P T sc rs i)) (exC (sEx rT rL ps P T sc rs i)) pr ex ps sv (exR (sEx rT rL ps P T sc rs i)) an1 cs cr (cq rT rL i).2.2.1 (cq rT rL i).2.2.2.1 (cq rT rL i).2.2.2.2.1 (cq rT rL i).2.2.2.2.2 0 (v0 + 541 * i) hL0 hrg hL1 hex hps hpx hio.1 (by omega) (by omega) hci.2.2.1 ⟨by omega, by omega⟩ ⟨by omega, by omega⟩ ⟨by omega, by omega⟩ ⟨by omega, by omega⟩ rI_0 hio.2
          refine g_callVi (ci := 10) (C := RX8) (T := TX8) (N := 9) (As := [.int (zI ((cq rT rL i).2.2.1)), .int (zI ((cq rT rL i).2.2.2.1)), .int (zI ((cq rT rL i).2.2.2.2.1)), .int (zI ((cq rT rL i).2.2.2.2.2)), .int (zI 0)]) (rest := []) ⟨hx, hb, hml, hown, hts⟩ hK hM hC24 (cuV (n := 5) hts u_362 u_359 u_1 (by decide) u_361 us_10 ⟨Nat.le_of_ble_eq_true rfl, Nat.le_of_ble_eq_true rfl⟩) ⟨by omega, by omega⟩ hL0 rfl rfl hl.1 rfl (Nat.le_of_ble_eq_true rfl) dX8_readPlan_69 ⟨Nat.zero_le _, Nat.zero_le _⟩ (fun r69 f25 H locs hM hp26 => ?_)
          obtain ⟨rfl, hs27, ho28, o29⟩ := hp26
          refine g_if_eq (tgt := 77) hx hb dX8_readPlan_72 (by decide) (by have := @ref_in (exP (sEx rT rL ps P T sc rs i) ps) (cq rT rL i).2.2.1 (cq rT rL i).2.2.2.1 (cq rT rL i).2.2.2.2.1 (cq rT rL i).2.2.2.2.2 0 (60 ≤ exC (sEx rT rL ps P T sc rs i) ps) _; unfold tRf; exact ⟨by omega, by omega⟩) (fun c72 => ?_) (fun c72 => ?_)
          · skip
            refine lv_iinc (v := zI ((↑i : Int) + 1)) (lv' := [(2, .int (zI ((↑i : Int) + 1))), (0, .ref h)]) hx hb dX8_readPlan_77 hl (k := 1) rfl (zI_add _ _) (by decide) rfl (fun ls hl => ?_)
            refine lv_goto (tgt := 20) hx hb dX8_readPlan_80 (by decide) ?_
            have hse : (sEx rT rL ps P T sc rs (i + 1)) = (false, i + 1, tP (exP (sEx rT rL ps P T sc rs i)) (exT (sEx rT rL ps P T sc rs i)) (exC (sEx rT rL ps P T sc rs i)) ps (cq rT rL i).2.2.1 (cq rT rL i).2.2.2.1 (cq rT rL i).2.2.2.2.1 (cq rT rL i).2.2.2.2.2 0, tT (exP (sEx rT rL ps P T sc rs i)) (exT (sEx rT rL ps P T sc rs i)) (exC (sEx rT rL ps P T sc rs i)) ps (cq rT rL i).2.2.1 (cq rT rL i).2.2.2.1 (cq rT rL i).2.2.2.2.1 (cq rT rL i).2.2.2.2.2 0, tS (exP (sEx rT rL ps P T sc rs i)) (exT (sEx rT rL ps P T sc rs i)) (exC (sEx rT rL ps P T sc rs i)) ps (cq rT rL i).2.2.1 (cq rT rL i).2.2.2.1 (cq rT rL i).2.2.2.2.1 (cq rT rL i).2.2.2.2.2 0, exR (sEx rT rL ps P T sc rs i)) := by
              show sExT rT rL ps i (sEx rT rL ps P T sc rs i) = _
              unfold sExT
              rw [if_neg (by rw [hns]; exact Bool.false_ne_true), if_pos c72]
            have hf30 := hL2.kept (fun q h1 h2 => (o29 (q) (by omega)))
            exact ih20 (i + 1) _ f25 _ _ _ (by omega) (by omega) (by rw [hse]) (fun q hq => ((o29 (q) (by omega)).trans (hfr (q) (by omega)))) hM (by have q9 := ho28; unfold tR tA at q9; rw [if_pos c72, if_pos c72] at q9; rw [hse]; exact q9) (by rw [hse]; exact hs27) hf30 (lv_sub hl [1, 0] rfl)
          · skip
            refine lv_iload_n hx hb dX8_readPlan_75 rfl (lv_at hl 1 rfl) ?_
            have hf31 := hL2.kept (fun q h1 h2 => (o29 (q) (by omega)))
            refine g_iret hx hb hr hlk hK hM dX8_readPlan_76 ?_
            have hse : (sEx rT rL ps P T sc rs (i + 1)) = (true, i, exP (sEx rT rL ps P T sc rs i), exT (sEx rT rL ps P T sc rs i), exC (sEx rT rL ps P T sc rs i), tRf (exP (sEx rT rL ps P T sc rs i)) (exT (sEx rT rL ps P T sc rs i)) (exC (sEx rT rL ps P T sc rs i)) ps (cq rT rL i).2.2.1 (cq rT rL i).2.2.2.1 (cq rT rL i).2.2.2.2.1 (cq rT rL i).2.2.2.2.2 0) := by
              show sExT rT rL ps i (sEx rT rL ps P T sc rs i) = _
              unfold sExT
              rw [if_neg (by rw [hns]; exact Bool.false_ne_true), if_neg c72]
            have hst := sEx_stop (tx := rT) (L := rL) (ps := ps) (P := P) (T := T) (sc := sc) (rs := rs) (i := i + 1) (by rw [hse]) (N + 1 - (i + 1))
            rw [show i + 1 + (N + 1 - (i + 1)) = N + 1 by omega, hse] at hst
            refine ⟨e9, N, N + 1, hrd, (if_pos c10).symm, ?_, ?_, ⟨an1, ?_⟩, ⟨_, _, _, _, hf31⟩, fun q hq => ((o29 (q) (by omega)).trans (hfr (q) (by omega)))⟩
            · rw [if_pos c10, hst]
            · have q9 := hs27
              unfold tP tT tS at q9
              rw [if_neg c72, if_neg c72, if_neg c72] at q9
              rw [hst]; exact q9
            · have q9 := ho28
              unfold tR tA at q9
              rw [if_neg c72, if_neg c72] at q9
              rw [hst]; exact q9
    have hf32 : f2 (h) = .inr (10, [.ref (h + 1), .ref (h + 291), .ref (h + 581), .ref (h + 604), .int (zI sv), .int (zI rs), .int (zI an), .int (zI cs), .int (zI cr)]) := (o8 (h) (by omega)).trans hO
    have hf33 := hS.kept (fun q h1 h2 => (o8 (q) (by omega)))
    exact lp20 ((N + 2)) 0 _ f2 _ _ _ (by omega) (by omega) rfl (fun q hq => (o8 (q) (by omega))) hM hf32 hf33 hn7 (lv_sub hl [2, 0] rfl)
  · skip
    refine g_bipush hx hb dX8_readPlan_13 (by decide) ?_
    refine lv_iload_n hx hb dX8_readPlan_15 rfl (lv_at hl 0 rfl) ?_
    refine g_isub hx hb dX8_readPlan_16 ?_
    have hf34 : f2 (h) = .inr (10, [.ref (h + 1), .ref (h + 291), .ref (h + 581), .ref (h + 604), .int (zI sv), .int (zI rs), .int (zI an), .int (zI cs), .int (zI cr)]) := (o8 (h) (by omega)).trans hO
    have hf35 := hS.kept (fun q h1 h2 => (o8 (q) (by omega)))
    refine g_iret hx hb hr hlk hK hM dX8_readPlan_17 ?_
    exact ⟨e9, N, 0, hrd, (if_neg c10).symm, by rw [if_neg c10], hf35, ⟨an, hf34⟩, ⟨_, _, _, _, hn7⟩, fun q hq => (o8 (q) (by omega))⟩
