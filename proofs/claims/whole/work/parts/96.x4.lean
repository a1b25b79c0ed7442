def po_X8_daysUntil (g : gE) (f : gF) (h : Nat) (B P T : Nat → Nat → Int) (sc : Nat → Nat) (pr ex : Nat → Int) (ps : Nat) (sv rs an cs cr : Int) (Tr : Nat → Int) (a b v0 : Int) : Int32 → gF → Prop := fun r f1 => (0 ≤ a ∧ a < P ps 7) ∧ (0 ≤ b ∧ b ≤ 9000000) ∧ duR (P ps) (11 + 4 * a.toNat) b 201 0 < 201 ∧ r = zI ↑(duR (P ps) (11 + 4 * a.toNat) b 201 0) ∧ (∃ Tr1 : Nat → Int, planAt g f1 (h + 581) Tr1) ∧ ∀ q, (q < h + 581 ∨ h + 604 ≤ q) → f1 q = f q
def px_X8_daysUntil (g : gE) (f : gF) (h : Nat) (B P T : Nat → Nat → Int) (sc : Nat → Nat) (pr ex : Nat → Int) (ps : Nat) (sv rs an cs cr : Int) (Tr : Nat → Int) (a b v0 : Int) : String → gF → Prop := fun E f1 => (E = exN2 ∧ ¬ (0 ≤ a ∧ a < P ps 7) ∧ f = f1) ∨ (E = exN0 ∧ (0 ≤ a ∧ a < P ps 7) ∧ ¬ (0 ≤ b ∧ b ≤ 9000000) ∧ f = f1) ∨ (E = exN3 ∧ (0 ≤ a ∧ a < P ps 7) ∧ (0 ≤ b ∧ b ≤ 9000000) ∧ ¬ duR (P ps) (11 + 4 * a.toNat) b 201 0 < 201 ∧ (∃ Tr1 : Nat → Int, planAt g f1 (h + 581) Tr1) ∧ ∀ q, (q < h + 581 ∨ h + 604 ≤ q) → f1 q = f q)
set_option maxRecDepth 100000 in
set_option maxHeartbeats 1000000 in
/-- daysUntil -/
theorem c_X8_daysUntil (l : Launch) (g : gE) (b0 n : Nat) (f : gF) (h : Nat) (B P T : Nat → Nat → Int) (sc : Nat → Nat) (pr ex : Nat → Int) (ps : Nat) (sv rs an cs cr : Int) (Tr : Nat → Int) (a b v0 : Int) (hl9 : l.stackTraces = false) (hO : obP f h sv rs an cs cr) (hrg : b0 ≤ h ∧ h + 607 ≤ b0 + n) (hS : brsAt g f (h + 1) B P T (fun k => (↑(sc k) : Int)) pr ex (↑ps : Int)) (hex : ∀ k, k < 6 → ex k = 0 ∨ ex k = 1) (hps : ps < 6) (hpx : ex ps = 1) (hTr : planAt g f (h + 581) Tr) (hok : ∀ k, k < 6 → pOk (P k) v0) (hv1 : 0 ≤ v0) (hv0 : v0 + 2000 ≤ 800000000) (hra : rI a) (hrb : rI b) : cxI l yX8_daysUntil cX8_daysUntil 5 (some .int) 7 107 3 [.ref h, .int (zI a), .int (zI b)] g b0 n f (po_X8_daysUntil g f h B P T sc pr ex ps sv rs an cs cr Tr a b v0) (px_X8_daysUntil g f h B P T sc pr ex ps sv rs an cs cr Tr a b v0) := by
  refine gs_xi (cc := cX8_daysUntil) (maxL := 5) (ret := (some .int)) (by decide) (Nat.le_of_ble_eq_true rfl) ?_
  intro p e0 s m args below meth c ls hx hb hr hml hown hts hlk hxt hE hK hM hl
  have hl : lv_has ls 5 [(0, .ref h), (1, .int (zI a)), (2, .int (zI b))] := hl
  have hokp := hok ps hps
  have hcn7 := hokp.1.1
  have hcn8 := hokp.2.1.1
  have hcn9 := hokp.2.2.1.1
  have hcn10 := hokp.2.2.2.2.2.2.2.1
  have hcp7 := hcn7.1
  have hcp8 := hcn8.1
  have hcp9 := hcn9.1
  have hcp10 := hcn10.1
  have hcq7 := hcn7.2
  have hcq8 := hcn8.2
  have hcq9 := hcn9.2
  have hcq10 := hcn10.2
  have hws := pOkL_wfS hokp (by omega)
  refine lv_aload_n hx hb dX8_daysUntil_0 rfl (lv_at hl 0 rfl) ?_
  refine g_get (ci := 10) (v := .ref (h + 1)) (C := RX8) (T := TX8) (N := 9) hx hb hts iU_X8 hown hK hM ⟨by omega, by omega⟩ hO rfl 0 (by decide) (hts _ u_275) (fun _ h9 => h9) rfl dX8_daysUntil_1 ?_
  have hC1 := c_X1_here l g b0 n f (h + 1) B P T (fun k => (↑(sc k) : Int)) pr ex ps hS ⟨by omega, by omega⟩ hex hps hpx
  obtain ⟨ho4, ho5, ho6⟩ := id hS
  refine g_callVq (ci := 3) (C := RX1) (T := TX1) (N := 3) (As := []) (rest := []) ⟨hx, hb, hml, hown, hts⟩ hK hM hC1 (cuV (n := 0) hts u_366 u_363 u_2 (by decide) u_364 u_365 ⟨Nat.le_of_ble_eq_true rfl, Nat.le_of_ble_eq_true rfl⟩) ⟨by omega, by omega⟩ ho4 rfl rfl hl.1 rfl (Nat.le_of_ble_eq_true rfl) dX8_daysUntil_4 ⟨Nat.le_of_ble_eq_true rfl, Nat.le_of_ble_eq_true rfl⟩ (fun r4 f2 H locs hM hp3 => ?_)
  obtain ⟨rfl, rfl⟩ := hp3
  have hbb7 := brB_in (h := h + 1) (k := ps) (by omega)
  have hbr7 := hS.2.2 ps (by omega)
  obtain ⟨ho8, ho9, ho10, ho11⟩ := id hbr7
  refine g_getN (ci := 2) (v := .ref ((brB (h + 1) ps) + 24)) (C := RX0) (T := TX0) (N := 6) hx hb hts iU_X0 hown hK hM ⟨by omega, by omega⟩ ho8 rfl 1 (by decide) (hts _ u_210) (fun _ h9 => h9) rfl dX8_daysUntil_7 ?_
  refine lv_astore_n (lv' := [(3, .ref ((brB (h + 1) ps) + 24)), (0, .ref h), (1, .int (zI a)), (2, .int (zI b))]) hx hb dX8_daysUntil_10 rfl hl (by decide) rfl (fun ls hl => ?_)
  refine lv_aload_n hx hb dX8_daysUntil_11 rfl (lv_at hl 0 rfl) ?_
  obtain ⟨ho12, ho13, ho14, ho15, ho16⟩ := id ho10
  refine g_getN (ci := 7) (v := .ref ((brB (h + 1) ps) + 24 + 1)) (C := RX5) (T := TX5) (N := 11) hx hb hts iU_X5 hown hK hM ⟨by omega, by omega⟩ ho12 rfl 0 (by decide) (hts _ u_165) (fun _ h9 => h9) rfl dX8_daysUntil_12 ?_
  refine lv_iload_n hx hb dX8_daysUntil_15 rfl (lv_at hl 2 rfl) ?_
  have hC17 := c_X2_has l g b0 n f ((brB (h + 1) ps) + 24 + 1) (P ps) a ho13 ⟨by omega, by omega⟩ hcn7 hra
  obtain ⟨ho20, ho21, ho22, ho23, ho24⟩ := id ho13
  refine g_callVi (ci := 4) (C := RX2) (T := TX2) (N := 5) (As := [.int (zI a)]) (rest := []) ⟨hx, hb, hml, hown, hts⟩ hK hM hC17 (cuV (n := 1) hts u_382 u_819 u_5 (by decide) u_380 u_381 ⟨Nat.le_of_ble_eq_true rfl, Nat.le_of_ble_eq_true rfl⟩) ⟨by omega, by omega⟩ ho20 rfl rfl hl.1 rfl (Nat.le_of_ble_eq_true rfl) dX8_daysUntil_16 ⟨Nat.le_of_ble_eq_true rfl, Nat.le_of_ble_eq_true rfl⟩ (fun r16 f18 H locs hM hp19 => ?_)
  obtain ⟨rfl, rfl⟩ := hp19
  have hC25 := c_X8_requirePart l g b0 n f (0 ≤ a ∧ a < P ps 7) hl9
  refine gx_callSv (As := [.int (bI (0 ≤ a ∧ a < P ps 7))]) (rest := []) ⟨hx, hb, hml, hown, hts⟩ hK hM hE hC25 (cuSx (n := 1) hts u_822 u_820 u_1 (by decide) u_821 ⟨Nat.le_of_ble_eq_true rfl, Nat.le_of_ble_eq_true rfl⟩) rfl hl.1 rfl (Nat.le_of_ble_eq_true rfl) dX8_daysUntil_19 ⟨(Nat.le_of_ble_eq_true rfl), (Nat.le_of_ble_eq_true rfl)⟩ (fun E9 ce9 q9 f26 H locs hM hp27 h91 h92 h93 => gx_pass hxt hlk hK hM ?_ h91 h92 h93 (by decide) (by decide)) (fun f26 H locs hM hp27 => ?_)
  · skip
    obtain ⟨hE9, hn9, rfl⟩ := hp27
    exact Or.inl ⟨hE9, hn9, rfl⟩
  · skip
    obtain ⟨hrq28, rfl⟩ := hp27
    refine lv_iload_n hx hb dX8_daysUntil_22 rfl (lv_at hl 3 rfl) ?_
    refine g_iconst hx hb dX8_daysUntil_23 ?_
    refine g_ldc (z := 9000000) hx hb hown (hts _ u_942) dX8_daysUntil_24 (by decide) ?_
    have hC29 := c_X8_isWithin l g b0 n f b 0 9000000 hrb (by decide) (by decide)
    refine g_callSi (As := [.int (zI b), .int (zI 0), .int (zI 9000000)]) (rest := []) ⟨hx, hb, hml, hown, hts⟩ hK hM hC29 (cuS (n := 3) hts u_406 u_824 u_1 (by decide) u_405 ⟨Nat.le_of_ble_eq_true rfl, Nat.le_of_ble_eq_true rfl⟩) rfl hl.1 rfl (Nat.le_of_ble_eq_true rfl) dX8_daysUntil_26 ⟨Nat.le_of_ble_eq_true rfl, Nat.le_of_ble_eq_true rfl⟩ (fun r26 f30 H locs hM hp31 => ?_)
    obtain ⟨rfl, rfl⟩ := hp31
    have hC32 := c_X8_requireRange l g b0 n f (0 ≤ b ∧ b ≤ 9000000) hl9
    refine gx_callSv (As := [.int (bI (0 ≤ b ∧ b ≤ 9000000))]) (rest := []) ⟨hx, hb, hml, hown, hts⟩ hK hM hE hC32 (cuSx (n := 1) hts u_827 u_825 u_1 (by decide) u_826 ⟨Nat.le_of_ble_eq_true rfl, Nat.le_of_ble_eq_true rfl⟩) rfl hl.1 rfl (Nat.le_of_ble_eq_true rfl) dX8_daysUntil_29 ⟨(Nat.le_of_ble_eq_true rfl), (Nat.le_of_ble_eq_true rfl)⟩ (fun E9 ce9 q9 f33 H locs hM hp34 h91 h92 h93 => gx_pass hxt hlk hK hM ?_ h91 h92 h93 (by decide) (by decide)) (fun f33 H locs hM hp34 => ?_)
    · skip
      obtain ⟨hE9, hn9, rfl⟩ := hp34
      exact Or.inr (Or.inl ⟨hE9, hrq28, hn9, rfl⟩)
    · skip
      obtain ⟨hrq35, rfl⟩ := hp34
      refine lv_aload_n hx hb dX8_daysUntil_32 rfl (lv_at hl 1 rfl) ?_
      refine g_get (ci := 10) (v := .ref (h + 581)) (C := RX8) (T := TX8) (N := 9) hx hb hts iU_X8 hown hK hM ⟨by omega, by omega⟩ hO rfl 2 (by decide) (hts _ u_277) (fun _ h9 => h9) rfl dX8_daysUntil_33 ?_
      refine lv_aload_n hx hb dX8_daysUntil_36 rfl (lv_at hl 0 rfl) ?_
      have hC36 := c_X5_copyFrom l g b0 n f (h + 581) ((brB (h + 1) ps) + 24) Tr (P ps) hTr ho10 ⟨by omega, by omega⟩ ⟨by omega, by omega⟩ (by omega)
      obtain ⟨ho39, ho40, ho41, ho42, ho43⟩ := id hTr
      refine g_callVv (ci := 7) (C := RX5) (T := TX5) (N := 11) (As := [.ref ((brB (h + 1) ps) + 24)]) (rest := []) ⟨hx, hb, hml, hown, hts⟩ hK hM hC36 (cuV (n := 1) hts u_561 u_857 u_4 (by decide) u_559 u_560 ⟨Nat.le_of_ble_eq_true rfl, Nat.le_of_ble_eq_true rfl⟩) ⟨by omega, by omega⟩ ho39 rfl rfl hl.1 rfl (Nat.le_of_ble_eq_true rfl) dX8_daysUntil_37 ⟨Nat.le_of_ble_eq_true rfl, Nat.le_of_ble_eq_true rfl⟩ (fun f37 H locs hM hp38 => ?_)
      obtain ⟨hn44, o45⟩ := hp38
      refine g_iconst hx hb dX8_daysUntil_40 ?_
      refine lv_istore (lv' := [(4, .int (zI 0)), (3, .ref ((brB (h + 1) ps) + 24)), (0, .ref h), (1, .int (zI a)), (2, .int (zI b))]) hx hb dX8_daysUntil_41 hl (by decide) rfl (fun ls hl => ?_)
      have lp43 : ∀ (k : Nat), ∀ (i : Nat) (Pk : Nat → Int) (fL : gF) (H : Heap) (locs : List Loc) (ls : Array Slot), (202 - i < k) → (i ≤ 201) → (Pk = sDays (P ps) i) → (∀ j, j < i → ¬ b ≤ sDays (P ps) j (11 + 4 * a.toNat)) → (pOk Pk (v0 + 9 * i)) → (∀ q, (q < h + 581 ∨ h + 604 ≤ q) → fL q = f q) → gH g b0 n fL s.heap H locs → (obP fL h sv rs an cs cr) → (planAt g fL (h + 581) Pk) → lv_has ls 5 [(0, .ref h), (1, .int (zI a)), (2, .int (zI b)), (4, .int (zI (↑i : Int)))] → W p l e0 { frames := 7, cells := 3, slots := 6 * 3, locals := 107 } s m args below meth c H locs ((0 + 1) + 1) ((0 + 6 * 1) + 6 * 1) (vx_MQ below (va_Qi (po_X8_daysUntil g f h B P T sc pr ex ps sv rs an cs cr Tr a b v0) (gB g b0 n) (gA b0)) (xX (px_X8_daysUntil g f h B P T sc pr ex ps sv rs an cs cr Tr a b v0) g b0 n) args s 3 (6 * 3) (gA b0)) (F0 m 43 ls []) := by
        intro k
        induction k with
        | zero =>
          intro i Pk fL H locs ls hk hi hPk hnf hod hfr hM hL0 hL1 hl
          exact absurd hk (Nat.not_lt_zero _)
        | succ k ih43 =>
          intro i Pk fL H locs ls hk hi hPk hnf hod hfr hM hL0 hL1 hl
          refine lv_iload hx hb dX8_daysUntil_43 (lv_at hl 3 rfl) ?_
          refine g_sipush hx hb dX8_daysUntil_45 (by decide) ?_
          refine g_icmp_gt (tgt := 83) hx hb dX8_daysUntil_48 (by decide) ⟨by omega, by omega⟩ (by decide) (fun c48 => ?_) (fun c48 => ?_)
          · skip
            refine gx_throwSN (is := 185) (text := "the balance stays below the amount") hx hb hl9 hown hlk hts hxt hE hK hM (hl.1.trans hml.symm) (by decide +kernel) u_943 u_22 (by decide +kernel) dX8_daysUntil_83 dX8_daysUntil_86 dX8_daysUntil_87 dX8_daysUntil_89 dX8_daysUntil_92 ⟨by decide, by decide, by decide, by decide⟩ (by decide) (by decide) ?_
            have hdu : duR (P ps) (11 + 4 * a.toNat) b 201 0 = 201 := duR_eq (by omega) (by omega) (fun j _ hj => hnf j (by omega)) (Or.inl rfl)
            exact Or.inr (Or.inr ⟨rfl, hrq28, hrq35, by omega, ⟨_, hL1⟩, (fun q hq => (hfr (q) (by omega)))⟩)
          · skip
            have hk7 : Pk 7 = P ps 7 := by rw [hPk]; exact days7 hokp i (by omega)
            have hsm : sMon Pk a = Pk (11 + 4 * a.toNat) := if_neg (by omega)
            obtain ⟨⟨hx1, hx2⟩, hx3⟩ := (pOkL_wfS hod (by omega)).E.2 a.toNat (by omega)
            refine lv_aload_n hx hb dX8_daysUntil_51 rfl (lv_at hl 0 rfl) ?_
            refine g_get (ci := 10) (v := .ref (h + 581)) (C := RX8) (T := TX8) (N := 9) hx hb hts iU_X8 hown hK hM ⟨by omega, by omega⟩ hL0 rfl 2 (by decide) (hts _ u_277) (fun _ h9 => h9) rfl dX8_daysUntil_52 ?_
            refine lv_iload_n hx hb dX8_daysUntil_55 rfl (lv_at hl 1 rfl) ?_
            have hC46 := c_X5_moneyIn l g b0 n fL (h + 581) Pk a hL1 ⟨by omega, by omega⟩ (by rw [hk7]; exact hcn7) hra (by rw [hk7]; omega)
            obtain ⟨ho49, ho50, ho51, ho52, ho53⟩ := id hL1
            refine g_callVl (ci := 7) (C := RX5) (T := TX5) (N := 11) (As := [.int (zI a)]) (rest := []) ⟨hx, hb, hml, hown, hts⟩ hK hM hC46 (cuV (n := 1) hts u_431 u_859 u_4 (by decide) u_429 u_430 ⟨Nat.le_of_ble_eq_true rfl, Nat.le_of_ble_eq_true rfl⟩) ⟨by omega, by omega⟩ ho49 rfl rfl hl.1 rfl (Nat.le_of_ble_eq_true rfl) dX8_daysUntil_56 ⟨Nat.le_of_ble_eq_true rfl, Nat.le_of_ble_eq_true rfl⟩ (fun r56 f47 H locs hM hp48 => ?_)
            obtain ⟨rfl, rfl⟩ := hp48
            refine lv_iload_n hx hb dX8_daysUntil_59 rfl (lv_at hl 2 rfl) ?_
            refine g_i2l hx hb dX8_daysUntil_60 hrb ?_
            refine g_lcmp_lt (tgt := 68) hx hb dX8_daysUntil_61 dX8_daysUntil_62 (by decide) (by rw [hsm]; exact ⟨by omega, by omega⟩) (rI_L hrb) (fun c61 => ?_) (fun c61 => ?_)
            · skip
              refine lv_aload_n hx hb dX8_daysUntil_68 rfl (lv_at hl 0 rfl) ?_
              refine g_get (ci := 10) (v := .ref (h + 581)) (C := RX8) (T := TX8) (N := 9) hx hb hts iU_X8 hown hK hM ⟨by omega, by omega⟩ hL0 rfl 2 (by decide) (hts _ u_277) (fun _ h9 => h9) rfl dX8_daysUntil_69 ?_
              refine g_iconst hx hb dX8_daysUntil_72 ?_
              have hq54 := c_X5_passDays l g b0 n fL (h + 581) Pk 1 (v0 + 9 * i) hL1 ⟨by omega, by omega⟩ hod (by omega) (by omega)
              rw [show ((1 : Nat) : Int) = 1 from rfl] at hq54
              have hC55 := hq54
              refine g_callVi (ci := 7) (C := RX5) (T := TX5) (N := 11) (As := [.int (zI 1)]) (rest := []) ⟨hx, hb, hml, hown, hts⟩ hK hM hC55 (cuV (n := 1) hts u_479 u_930 u_4 (by decide) u_477 u_478 ⟨Nat.le_of_ble_eq_true rfl, Nat.le_of_ble_eq_true rfl⟩) ⟨by omega, by omega⟩ ho49 rfl rfl hl.1 rfl (Nat.le_of_ble_eq_true rfl) dX8_daysUntil_73 ⟨Nat.le_of_ble_eq_true rfl, Nat.le_of_ble_eq_true rfl⟩ (fun r73 f56 H locs hM hp57 => ?_)
              obtain ⟨hr958, hn59, o60⟩ := hp57
              have hr958 : r73 = zI (sDay Pk 4 - Pk 4) := hr958
              subst hr958
              have hn59 : planAt g f56 (h + 581) (sDay Pk) := hn59
              have hod1 : pOk (sDay Pk) ((v0 + 9 * i) + 9) := (pOk_day hod (by omega)).1
              have hq4 := pOk_P4 hod1
              have hq4a := hq4.1
              have hq4b := hq4.2
              have hqp := pOk_pool hod1 (by omega)
              have hqpa := hqp.1
              have hqpb := hqp.2
              have hmn4 := day4 hod (by omega)
              refine lv_pop hx hb dX8_daysUntil_76 rfl ?_
              refine lv_iinc (v := zI ((↑i : Int) + 1)) (lv' := [(4, .int (zI ((↑i : Int) + 1))), (0, .ref h), (1, .int (zI a)), (2, .int (zI b))]) hx hb dX8_daysUntil_77 hl (k := 3) rfl (zI_add _ _) (by decide) rfl (fun ls hl => ?_)
              refine lv_goto (tgt := 43) hx hb dX8_daysUntil_80 (by decide) ?_
              have hf61 : f56 (h) = .inr (10, [.ref (h + 1), .ref (h + 291), .ref (h + 581), .ref (h + 604), .int (zI sv), .int (zI rs), .int (zI an), .int (zI cs), .int (zI cr)]) := (o60 (h) (by omega)).trans hL0
              exact ih43 (i + 1) (sDay Pk) f56 _ _ _ (by omega) (by omega) (by rw [hPk]; rfl) (fun j hj => (Nat.lt_or_ge j i).elim (fun q => hnf j q) (fun q => by rw [show j = i by omega, ← hPk]; omega)) (pOk_mono hod1 (by omega)) (fun q hq => ((o60 (q) (by omega)).trans (hfr (q) (by omega)))) hM hf61 hn59 (lv_sub hl [1, 2, 3, 0] rfl)
            · skip
              refine lv_iload hx hb dX8_daysUntil_65 (lv_at hl 3 rfl) ?_
              refine gx_iret hx hb hr hlk hK hM dX8_daysUntil_67 (by decide) (by decide) ?_
              have hdu : duR (P ps) (11 + 4 * a.toNat) b 201 0 = i := duR_eq (by omega) (by omega) (fun j _ hj => hnf j hj) (Or.inr (by rw [← hPk]; omega))
              exact ⟨hrq28, hrq35, by omega, by rw [hdu], ⟨_, hL1⟩, (fun q hq => (hfr (q) (by omega)))⟩
      have hf62 : f37 (h) = .inr (10, [.ref (h + 1), .ref (h + 291), .ref (h + 581), .ref (h + 604), .int (zI sv), .int (zI rs), .int (zI an), .int (zI cs), .int (zI cr)]) := (o45 (h) (by omega)).trans hO
      exact lp43 (203) 0 (P ps) f37 _ _ _ (by omega) (by omega) rfl (fun j hj => absurd hj (Nat.not_lt_zero _)) (pOk_mono hokp (by omega)) (fun q hq => (o45 (q) (by omega))) hM hf62 hn44 (lv_sub hl [2, 3, 4, 0] rfl)

def po_X8_canSpare (g : gE) (f : gF) (h : Nat) (B P T : Nat → Nat → Int) (sc : Nat → Nat) (pr ex : Nat → Int) (ps : Nat) (sv rs an cs cr : Int) (Tr : Nat → Int) (a x b v0 : Int) : Int32 → gF → Prop := fun r f1 => r = bI (spB (P ps) a.toNat x b.toNat = true) ∧ (∃ Tr1 : Nat → Int, planAt g f1 (h + 581) Tr1) ∧ ∀ q, (q < h + 581 ∨ h + 604 ≤ q) → f1 q = f q
set_option maxRecDepth 100000 in
set_option maxHeartbeats 1000000 in
/-- canSpare -/
theorem c_X8_canSpare (l : Launch) (g : gE) (b0 n : Nat) (f : gF) (h : Nat) (B P T : Nat → Nat → Int) (sc : Nat → Nat) (pr ex : Nat → Int) (ps : Nat) (sv rs an cs cr : Int) (Tr : Nat → Int) (a x b v0 : Int) (hO : obP f h sv rs an cs cr) (hrg : b0 ≤ h ∧ h + 607 ≤ b0 + n) (hS : brsAt g f (h + 1) B P T (fun k => (↑(sc k) : Int)) pr ex (↑ps : Int)) (hex : ∀ k, k < 6 → ex k = 0 ∨ ex k = 1) (hps : ps < 6) (hpx : ex ps = 1) (hTr : planAt g f (h + 581) Tr) (hok : ∀ k, k < 6 → pOk (P k) v0) (hv1 : 0 ≤ v0) (hv0 : v0 + 2000 ≤ 800000000) (ha : 0 ≤ a ∧ a < P ps 7) (hx0 : 0 ≤ x ∧ x ≤ 1000000) (hbd : 1 ≤ b ∧ b ≤ 60) : cI l yX8_canSpare cX8_canSpare 5 (some .boolean) 4 107 [.ref h, .int (zI a), .int (zI x), .int (zI b)] g b0 n f (po_X8_canSpare g f h B P T sc pr ex ps sv rs an cs cr Tr a x b v0) := by
  refine gs_i (cc := cX8_canSpare) (maxL := 5) (ret := (some .boolean)) (by decide) (Nat.le_of_ble_eq_true rfl) ?_
  intro p e0 s m args below meth c ls hx hb hr hml hown hts hlk hK hM hl
  have hl : lv_has ls 5 [(0, .ref h), (1, .int (zI a)), (2, .int (zI x)), (3, .int (zI b))] := hl
  have hokp := hok ps hps
  have hcn7 := hokp.1.1
  have hcn8 := hokp.2.1.1
  have hcn9 := hokp.2.2.1.1
  have hcn10 := hokp.2.2.2.2.2.2.2.1
  have hcp7 := hcn7.1
  have hcp8 := hcn8.1
  have hcp9 := hcn9.1
  have hcp10 := hcn10.1
  have hcq7 := hcn7.2
  have hcq8 := hcn8.2
  have hcq9 := hcn9.2
  have hcq10 := hcn10.2
  have hws := pOkL_wfS hokp (by omega)
  have ha1 := ha.1
  have ha2 := ha.2
  have hx1 := hx0.1
  have hx2 := hx0.2
  have hb8 := hbd.1
  have hb9 := hbd.2
  have hae : ((a.toNat : Nat) : Int) = a := by omega
  have hpb := pOk_b (e := a.toNat) hokp (by omega) (by omega)
  refine lv_aload_n hx hb dX8_canSpare_0 rfl (lv_at hl 0 rfl) ?_
  refine g_get (ci := 10) (v := .ref (h + 581)) (C := RX8) (T := TX8) (N := 9) hx hb hts iU_X8 hown hK hM ⟨by omega, by omega⟩ hO rfl 2 (by decide) (hts _ u_277) (fun _ h9 => h9) rfl dX8_canSpare_1 ?_
  refine lv_aload_n hx hb dX8_canSpare_4 rfl (lv_at hl 0 rfl) ?_
  refine g_get (ci := 10) (v := .ref (h + 1)) (C := RX8) (T := TX8) (N := 9) hx hb hts iU_X8 hown hK hM ⟨by omega, by omega⟩ hO rfl 0 (by decide) (hts _ u_275) (fun _ h9 => h9) rfl dX8_canSpare_5 ?_
  have hC1 := c_X1_here l g b0 n f (h + 1) B P T (fun k => (↑(sc k) : Int)) pr ex ps hS ⟨by omega, by omega⟩ hex hps hpx
  obtain ⟨ho4, ho5, ho6⟩ := id hS
  refine g_callVq (ci := 3) (C := RX1) (T := TX1) (N := 3) (As := []) (rest := [.ref (h + 581)]) ⟨hx, hb, hml, hown, hts⟩ hK hM hC1 (cuV (n := 0) hts u_366 u_363 u_2 (by decide) u_364 u_365 ⟨Nat.le_of_ble_eq_true rfl, Nat.le_of_ble_eq_true rfl⟩) ⟨by omega, by omega⟩ ho4 rfl rfl hl.1 rfl (Nat.le_of_ble_eq_true rfl) dX8_canSpare_8 ⟨Nat.zero_le _, Nat.zero_le _⟩ (fun r8 f2 H locs hM hp3 => ?_)
  obtain ⟨rfl, rfl⟩ := hp3
  have hbb7 := brB_in (h := h + 1) (k := ps) (by omega)
  have hbr7 := hS.2.2 ps (by omega)
  obtain ⟨ho8, ho9, ho10, ho11⟩ := id hbr7
  refine g_getN (ci := 2) (v := .ref ((brB (h + 1) ps) + 24)) (C := RX0) (T := TX0) (N := 6) hx hb hts iU_X0 hown hK hM ⟨by omega, by omega⟩ ho8 rfl 1 (by decide) (hts _ u_210) (fun _ h9 => h9) rfl dX8_canSpare_11 ?_
  have hC12 := c_X5_copyFrom l g b0 n f (h + 581) ((brB (h + 1) ps) + 24) Tr (P ps) hTr ho10 ⟨by omega, by omega⟩ ⟨by omega, by omega⟩ (by omega)
  obtain ⟨ho15, ho16, ho17, ho18, ho19⟩ := id hTr
  refine g_callVv (ci := 7) (C := RX5) (T := TX5) (N := 11) (As := [.ref ((brB (h + 1) ps) + 24)]) (rest := []) ⟨hx, hb, hml, hown, hts⟩ hK hM hC12 (cuV (n := 1) hts u_561 u_857 u_4 (by decide) u_559 u_560 ⟨Nat.le_of_ble_eq_true rfl, Nat.le_of_ble_eq_true rfl⟩) ⟨by omega, by omega⟩ ho15 rfl rfl hl.1 rfl (Nat.le_of_ble_eq_true rfl) dX8_canSpare_14 ⟨Nat.zero_le _, Nat.zero_le _⟩ (fun f13 H locs hM hp14 => ?_)
  obtain ⟨hn20, o21⟩ := hp14
  refine lv_aload_n hx hb dX8_canSpare_17 rfl (lv_at hl 0 rfl) ?_
  have hf22 : f13 (h) = .inr (10, [.ref (h + 1), .ref (h + 291), .ref (h + 581), .ref (h + 604), .int (zI sv), .int (zI rs), .int (zI an), .int (zI cs), .int (zI cr)]) := (o21 (h) (by omega)).trans hO
  refine g_get (ci := 10) (v := .ref (h + 581)) (C := RX8) (T := TX8) (N := 9) hx hb hts iU_X8 hown hK hM ⟨by omega, by omega⟩ hf22 rfl 2 (by decide) (hts _ u_277) (fun _ h9 => h9) rfl dX8_canSpare_18 ?_
  refine lv_iload_n hx hb dX8_canSpare_21 rfl (lv_at hl 1 rfl) ?_
  refine lv_iload_n hx hb dX8_canSpare_22 rfl (lv_at hl 2 rfl) ?_
  have hq23 := c_X5_canPay l g b0 n f13 (h + 581) (P ps) a.toNat x hn20 ⟨by omega, by omega⟩ hcn7 (by omega) hpb.1 hpb.2 hx0
  rw [hae] at hq23
  have hC24 := hq23
  obtain ⟨ho27, ho28, ho29, ho30, ho31⟩ := id hn20
  refine g_callVi (ci := 7) (C := RX5) (T := TX5) (N := 11) (As := [.int (zI a), .int (zI x)]) (rest := []) ⟨hx, hb, hml, hown, hts⟩ hK hM hC24 (cuV (n := 2) hts u_423 u_971 u_4 (by decide) u_421 u_422 ⟨Nat.le_of_ble_eq_true rfl, Nat.le_of_ble_eq_true rfl⟩) ⟨by omega, by omega⟩ ho27 rfl rfl hl.1 rfl (Nat.le_of_ble_eq_true rfl) dX8_canSpare_23 ⟨Nat.zero_le _, Nat.zero_le _⟩ (fun r23 f25 H locs hM hp26 => ?_)
  obtain ⟨rfl, rfl⟩ := hp26
  refine g_ifb_ne (tgt := 31) hx hb dX8_canSpare_26 (by decide) (fun c26 => ?_) (fun c26 => ?_)
  · skip
    refine lv_aload_n hx hb dX8_canSpare_31 rfl (lv_at hl 0 rfl) ?_
    refine g_get (ci := 10) (v := .ref (h + 581)) (C := RX8) (T := TX8) (N := 9) hx hb hts iU_X8 hown hK hM ⟨by omega, by omega⟩ hf22 rfl 2 (by decide) (hts _ u_277) (fun _ h9 => h9) rfl dX8_canSpare_32 ?_
    refine lv_iload_n hx hb dX8_canSpare_35 rfl (lv_at hl 1 rfl) ?_
    refine lv_iload_n hx hb dX8_canSpare_36 rfl (lv_at hl 2 rfl) ?_
    have hq32 := c_X5_pay l g b0 n f13 (h + 581) (P ps) a.toNat x hn20 ⟨by omega, by omega⟩ hcn7 (by omega) hpb.1 hpb.2 hx0
    rw [hae] at hq32
    have hC33 := hq32
    refine g_callVl (ci := 7) (C := RX5) (T := TX5) (N := 11) (As := [.int (zI a), .int (zI x)]) (rest := []) ⟨hx, hb, hml, hown, hts⟩ hK hM hC33 (cuV (n := 2) hts u_508 u_972 u_4 (by decide) u_506 u_507 ⟨Nat.le_of_ble_eq_true rfl, Nat.le_of_ble_eq_true rfl⟩) ⟨by omega, by omega⟩ ho27 rfl rfl hl.1 rfl (Nat.le_of_ble_eq_true rfl) dX8_canSpare_37 ⟨Nat.zero_le _, Nat.zero_le _⟩ (fun r37 f34 H locs hM hp35 => ?_)
    obtain ⟨rfl, hn36, o37⟩ := hp35
    have hd2 := pOkL_pay hokp (by omega) hx0.1 c26
    refine lv_pop2_2 hx hb dX8_canSpare_40 rfl ?_
    refine lv_aload_n hx hb dX8_canSpare_41 rfl (lv_at hl 0 rfl) ?_
    have hf38 : f34 (h) = .inr (10, [.ref (h + 1), .ref (h + 291), .ref (h + 581), .ref (h + 604), .int (zI sv), .int (zI rs), .int (zI an), .int (zI cs), .int (zI cr)]) := (o37 (h) (by omega)).trans hf22
    refine g_get (ci := 10) (v := .ref (h + 581)) (C := RX8) (T := TX8) (N := 9) hx hb hts iU_X8 hown hK hM ⟨by omega, by omega⟩ hf38 rfl 2 (by decide) (hts _ u_277) (fun _ h9 => h9) rfl dX8_canSpare_42 ?_
    have hC39 := c_X5_settle l g b0 n f34 (h + 581) (sPay (P ps) a.toNat x) hn36 ⟨by omega, by omega⟩ (wfS_mono (pOkL_wfS hd2 (by omega)) (by omega)) hd2.2.2.1
    obtain ⟨ho42, ho43, ho44, ho45, ho46⟩ := id hn36
    refine g_callVv (ci := 7) (C := RX5) (T := TX5) (N := 11) (As := []) (rest := []) ⟨hx, hb, hml, hown, hts⟩ hK hM hC39 (cuV (n := 0) hts u_516 u_973 u_4 (by decide) u_514 u_515 ⟨Nat.le_of_ble_eq_true rfl, Nat.le_of_ble_eq_true rfl⟩) ⟨by omega, by omega⟩ ho42 rfl rfl hl.1 rfl (Nat.le_of_ble_eq_true rfl) dX8_canSpare_45 ⟨Nat.zero_le _, Nat.zero_le _⟩ (fun f40 H locs hM hp41 => ?_)
    obtain ⟨hn47, o48⟩ := hp41
    have hd3 : pOk (sSet (sPay (P ps) a.toNat x)) v0 := pOkL_set hd2 (by omega)
    have h24 : (sSet (sPay (P ps) a.toNat x)) 4 = P ps 4 := spay4 hokp (by omega) (by omega) hx0.1 c26
    refine g_iconst hx hb dX8_canSpare_48 ?_
    refine lv_istore (lv' := [(4, .int (zI 0)), (0, .ref h), (1, .int (zI a)), (2, .int (zI x)), (3, .int (zI b))]) hx hb dX8_canSpare_49 hl (by decide) rfl (fun ls hl => ?_)
    have lp51 : ∀ (k : Nat), ∀ (i : Nat) (Pk : Nat → Int) (fL : gF) (H : Heap) (locs : List Loc) (ls : Array Slot), (b.toNat - i < k) → ((i : Int) ≤ b) → (Pk = sDays (sSet (sPay (P ps) a.toNat x)) i) → (pOk Pk (v0 + 9 * i)) → (Pk 4 = P ps 4) → (∀ q, (q < h + 581 ∨ h + 604 ≤ q) → fL q = f q) → gH g b0 n fL s.heap H locs → (obP fL h sv rs an cs cr) → (planAt g fL (h + 581) Pk) → lv_has ls 5 [(0, .ref h), (3, .int (zI b)), (4, .int (zI (↑i : Int)))] → W p l e0 { frames := 4, cells := 0, slots := 0, locals := 107 } s m args below meth c H locs 0 0 (MQ below (va_Qi (po_X8_canSpare g f h B P T sc pr ex ps sv rs an cs cr Tr a x b v0) (gB g b0 n) (gA b0)) args s 0 0 (gA b0)) (F0 m 51 ls []) := by
      intro k
      induction k with
      | zero =>
        intro i Pk fL H locs ls hk hi hPk hod hP4 hfr hM hL0 hL1 hl
        exact absurd hk (Nat.not_lt_zero _)
      | succ k ih51 =>
        intro i Pk fL H locs ls hk hi hPk hod hP4 hfr hM hL0 hL1 hl
        have hp4 := pOk_P4 hod
        have hp4a := hp4.1
        have hp4b := hp4.2
        refine lv_iload hx hb dX8_canSpare_51 (lv_at hl 2 rfl) ?_
        refine lv_iload_n hx hb dX8_canSpare_53 rfl (lv_at hl 1 rfl) ?_
        refine g_icmp_ge (tgt := 76) hx hb dX8_canSpare_54 (by decide) ⟨by omega, by omega⟩ ⟨by omega, by omega⟩ (fun c54 => ?_) (fun c54 => ?_)
        · skip
          refine g_iconst hx hb dX8_canSpare_76 ?_
          refine g_zret hx hb hr hlk hK hM dX8_canSpare_77 rfl ?_
          have hib : i = b.toNat := by omega
          have hB : spB (P ps) a.toNat x b.toNat = true := by
            unfold spB
            rw [← hib, ← hPk]
            rw [decide_eq_true (show x ≤ P ps (11 + 4 * a.toNat) + P ps 0 from c26), decide_eq_true (show Pk 4 = P ps 4 from hP4)]
            rfl
          exact ⟨by rw [hB]; rfl, ⟨_, hL1⟩, (fun q hq => (hfr (q) (by omega)))⟩
        · skip
          refine lv_aload_n hx hb dX8_canSpare_57 rfl (lv_at hl 0 rfl) ?_
          refine g_get (ci := 10) (v := .ref (h + 581)) (C := RX8) (T := TX8) (N := 9) hx hb hts iU_X8 hown hK hM ⟨by omega, by omega⟩ hL0 rfl 2 (by decide) (hts _ u_277) (fun _ h9 => h9) rfl dX8_canSpare_58 ?_
          refine g_iconst hx hb dX8_canSpare_61 ?_
          have hq49 := c_X5_passDays l g b0 n fL (h + 581) Pk 1 (v0 + 9 * i) hL1 ⟨by omega, by omega⟩ hod (by omega) (by omega)
          rw [show ((1 : Nat) : Int) = 1 from rfl] at hq49
          have hC50 := hq49
          obtain ⟨ho53, ho54, ho55, ho56, ho57⟩ := id hL1
          refine g_callVi (ci := 7) (C := RX5) (T := TX5) (N := 11) (As := [.int (zI 1)]) (rest := []) ⟨hx, hb, hml, hown, hts⟩ hK hM hC50 (cuV (n := 1) hts u_479 u_930 u_4 (by decide) u_477 u_478 ⟨Nat.le_of_ble_eq_true rfl, Nat.le_of_ble_eq_true rfl⟩) ⟨by omega, by omega⟩ ho53 rfl rfl hl.1 rfl (Nat.le_of_ble_eq_true rfl) dX8_canSpare_62 ⟨Nat.zero_le _, Nat.zero_le _⟩ (fun r62 f51 H locs hM hp52 => ?_)
          obtain ⟨hr958, hn59, o60⟩ := hp52
          have hr958 : r62 = zI (sDay Pk 4 - Pk 4) := hr958
          subst hr958
          have hn59 : planAt g f51 (h + 581) (sDay Pk) := hn59
          have hod1 : pOk (sDay Pk) ((v0 + 9 * i) + 9) := (pOk_day hod (by omega)).1
          have hq4 := pOk_P4 hod1
          have hq4a := hq4.1
          have hq4b := hq4.2
          have hqp := pOk_pool hod1 (by omega)
          have hqpa := hqp.1
          have hqpb := hqp.2
          have hmn4 := day4 hod (by omega)
          refine g_if_le (tgt := 70) hx hb dX8_canSpare_65 (by decide) ⟨by omega, by omega⟩ (fun c65 => ?_) (fun c65 => ?_)
          · skip
            refine lv_iinc (v := zI ((↑i : Int) + 1)) (lv' := [(4, .int (zI ((↑i : Int) + 1))), (0, .ref h), (3, .int (zI b))]) hx hb dX8_canSpare_70 hl (k := 2) rfl (zI_add _ _) (by decide) rfl (fun ls hl => ?_)
            refine lv_goto (tgt := 51) hx hb dX8_canSpare_73 (by decide) ?_
            have hf61 : f51 (h) = .inr (10, [.ref (h + 1), .ref (h + 291), .ref (h + 581), .ref (h + 604), .int (zI sv), .int (zI rs), .int (zI an), .int (zI cs), .int (zI cr)]) := (o60 (h) (by omega)).trans hL0
            exact ih51 (i + 1) (sDay Pk) f51 _ _ _ (by omega) (by omega) (by rw [hPk]; rfl) (pOk_mono hod1 (by omega)) (by omega) (fun q hq => ((o60 (q) (by omega)).trans (hfr (q) (by omega)))) hM hf61 hn59 (lv_sub hl [1, 2, 0] rfl)
          · skip
            refine g_iconst hx hb dX8_canSpare_68 ?_
            refine g_zret hx hb hr hlk hK hM dX8_canSpare_69 rfl ?_
            have hB : spB (P ps) a.toNat x b.toNat = false := by
              unfold spB
              have h6 := days4 hd3 (i + 1) (b.toNat - (i + 1)) (by omega)
              rw [show i + 1 + (b.toNat - (i + 1)) = b.toNat by omega] at h6
              have h7 : sDays (sSet (sPay (P ps) a.toNat x)) (i + 1) = sDay Pk := by rw [hPk]; rfl
              rw [h7] at h6
              rw [decide_eq_false (show ¬ sDays (sSet (sPay (P ps) a.toNat x)) b.toNat 4 = P ps 4 by omega), Bool.and_false]
            exact ⟨by rw [hB]; rfl, ⟨_, hn59⟩, (fun q hq => ((o60 (q) (by omega)).trans (hfr (q) (by omega))))⟩
    have hf62 : f40 (h) = .inr (10, [.ref (h + 1), .ref (h + 291), .ref (h + 581), .ref (h + 604), .int (zI sv), .int (zI rs), .int (zI an), .int (zI cs), .int (zI cr)]) := (o48 (h) (by omega)).trans hf38
    exact lp51 ((b.toNat + 1)) 0 (sSet (sPay (P ps) a.toNat x)) f40 _ _ _ (by omega) (by omega) rfl (pOk_mono hd3 (by omega)) h24 (fun q hq => ((o48 (q) (by omega)).trans ((o37 (q) (by omega)).trans (o21 (q) (by omega))))) hM hf62 hn47 (lv_sub hl [1, 4, 0] rfl)
  · skip
    refine g_iconst hx hb dX8_canSpare_29 ?_
    refine g_zret hx hb hr hlk hK hM dX8_canSpare_30 rfl ?_
    have hB : spB (P ps) a.toNat x b.toNat = false := by
      unfold spB
      rw [decide_eq_false (show ¬ x ≤ P ps (11 + 4 * a.toNat) + P ps 0 from c26)]
      rfl
    exact ⟨by rw [hB]; rfl, ⟨_, hn20⟩, (fun q hq => (o21 (q) (by omega)))⟩

def po_X8_spare (g : gE) (f : gF) (h : Nat) (B P T : Nat → Nat → Int) (sc : Nat → Nat) (pr ex : Nat → Int) (ps : Nat) (sv rs an cs cr : Int) (Tr : Nat → Int) (a b v0 : Int) : Int32 → gF → Prop := fun r f1 => (0 ≤ a ∧ a < P ps 7) ∧ (1 ≤ b ∧ b ≤ 60) ∧ r = zI (spV (P ps) a.toNat b.toNat) ∧ (∃ Tr1 : Nat → Int, planAt g f1 (h + 581) Tr1) ∧ ∀ q, (q < h + 581 ∨ h + 604 ≤ q) → f1 q = f q
def px_X8_spare (g : gE) (f : gF) (h : Nat) (B P T : Nat → Nat → Int) (sc : Nat → Nat) (pr ex : Nat → Int) (ps : Nat) (sv rs an cs cr : Int) (Tr : Nat → Int) (a b v0 : Int) : String → gF → Prop := fun E f1 => ((E = exN2 ∧ ¬ (0 ≤ a ∧ a < P ps 7)) ∨ (E = exN0 ∧ (0 ≤ a ∧ a < P ps 7) ∧ ¬ (1 ≤ b ∧ b ≤ 60))) ∧ f = f1
set_option maxRecDepth 100000 in
set_option maxHeartbeats 1000000 in
/-- spare -/
theorem c_X8_spare (l : Launch) (g : gE) (b0 n : Nat) (f : gF) (h : Nat) (B P T : Nat → Nat → Int) (sc : Nat → Nat) (pr ex : Nat → Int) (ps : Nat) (sv rs an cs cr : Int) (Tr : Nat → Int) (a b v0 : Int) (hl9 : l.stackTraces = false) (hO : obP f h sv rs an cs cr) (hrg : b0 ≤ h ∧ h + 607 ≤ b0 + n) (hS : brsAt g f (h + 1) B P T (fun k => (↑(sc k) : Int)) pr ex (↑ps : Int)) (hex : ∀ k, k < 6 → ex k = 0 ∨ ex k = 1) (hps : ps < 6) (hpx : ex ps = 1) (hTr : planAt g f (h + 581) Tr) (hok : ∀ k, k < 6 → pOk (P k) v0) (hv1 : 0 ≤ v0) (hv0 : v0 + 2000 ≤ 800000000) (hra : rI a) (hrb : rI b) : cxI l yX8_spare cX8_spare 7 (some .int) 7 131 2 [.ref h, .int (zI a), .int (zI b)] g b0 n f (po_X8_spare g f h B P T sc pr ex ps sv rs an cs cr Tr a b v0) (px_X8_spare g f h B P T sc pr ex ps sv rs an cs cr Tr a b v0) := by
  refine gs_xi (cc := cX8_spare) (maxL := 7) (ret := (some .int)) (by decide) (Nat.le_of_ble_eq_true rfl) ?_
  intro p e0 s m args below meth c ls hx hb hr hml hown hts hlk hxt hE hK hM hl
  have hl : lv_has ls 7 [(0, .ref h), (1, .int (zI a)), (2, .int (zI b))] := hl
  have hokp := hok ps hps
  have hcn7 := hokp.1.1
  have hcn8 := hokp.2.1.1
  have hcn9 := hokp.2.2.1.1
  have hcn10 := hokp.2.2.2.2.2.2.2.1
  have hcp7 := hcn7.1
  have hcp8 := hcn8.1
  have hcp9 := hcn9.1
  have hcp10 := hcn10.1
  have hcq7 := hcn7.2
  have hcq8 := hcn8.2
  have hcq9 := hcn9.2
  have hcq10 := hcn10.2
  have hws := pOkL_wfS hokp (by omega)
  refine lv_aload_n hx hb dX8_spare_0 rfl (lv_at hl 0 rfl) ?_
  refine g_get (ci := 10) (v := .ref (h + 1)) (C := RX8) (T := TX8) (N := 9) hx hb hts iU_X8 hown hK hM ⟨by omega, by omega⟩ hO rfl 0 (by decide) (hts _ u_275) (fun _ h9 => h9) rfl dX8_spare_1 ?_
  have hC1 := c_X1_here l g b0 n f (h + 1) B P T (fun k => (↑(sc k) : Int)) pr ex ps hS ⟨by omega, by omega⟩ hex hps hpx
  obtain ⟨ho4, ho5, ho6⟩ := id hS
  refine g_callVq (ci := 3) (C := RX1) (T := TX1) (N := 3) (As := []) (rest := []) ⟨hx, hb, hml, hown, hts⟩ hK hM hC1 (cuV (n := 0) hts u_366 u_363 u_2 (by decide) u_364 u_365 ⟨Nat.le_of_ble_eq_true rfl, Nat.le_of_ble_eq_true rfl⟩) ⟨by omega, by omega⟩ ho4 rfl rfl hl.1 rfl (Nat.le_of_ble_eq_true rfl) dX8_spare_4 ⟨Nat.le_of_ble_eq_true rfl, Nat.le_of_ble_eq_true rfl⟩ (fun r4 f2 H locs hM hp3 => ?_)
  obtain ⟨rfl, rfl⟩ := hp3
  have hbb7 := brB_in (h := h + 1) (k := ps) (by omega)
  have hbr7 := hS.2.2 ps (by omega)
  obtain ⟨ho8, ho9, ho10, ho11⟩ := id hbr7
  refine g_getN (ci := 2) (v := .ref ((brB (h + 1) ps) + 24)) (C := RX0) (T := TX0) (N := 6) hx hb hts iU_X0 hown hK hM ⟨by omega, by omega⟩ ho8 rfl 1 (by decide) (hts _ u_210) (fun _ h9 => h9) rfl dX8_spare_7 ?_
  obtain ⟨ho12, ho13, ho14, ho15, ho16⟩ := id ho10
  refine g_getN (ci := 7) (v := .ref ((brB (h + 1) ps) + 24 + 1)) (C := RX5) (T := TX5) (N := 11) hx hb hts iU_X5 hown hK hM ⟨by omega, by omega⟩ ho12 rfl 0 (by decide) (hts _ u_165) (fun _ h9 => h9) rfl dX8_spare_10 ?_
  refine lv_iload_n hx hb dX8_spare_13 rfl (lv_at hl 1 rfl) ?_
  have hC17 := c_X2_has l g b0 n f ((brB (h + 1) ps) + 24 + 1) (P ps) a ho13 ⟨by omega, by omega⟩ hcn7 hra
  obtain ⟨ho20, ho21, ho22, ho23, ho24⟩ := id ho13
  refine g_callVi (ci := 4) (C := RX2) (T := TX2) (N := 5) (As := [.int (zI a)]) (rest := []) ⟨hx, hb, hml, hown, hts⟩ hK hM hC17 (cuV (n := 1) hts u_382 u_819 u_5 (by decide) u_380 u_381 ⟨Nat.le_of_ble_eq_true rfl, Nat.le_of_ble_eq_true rfl⟩) ⟨by omega, by omega⟩ ho20 rfl rfl hl.1 rfl (Nat.le_of_ble_eq_true rfl) dX8_spare_14 ⟨Nat.le_of_ble_eq_true rfl, Nat.le_of_ble_eq_true rfl⟩ (fun r14 f18 H locs hM hp19 => ?_)
  obtain ⟨rfl, rfl⟩ := hp19
  have hC25 := c_X8_requirePart l g b0 n f (0 ≤ a ∧ a < P ps 7) hl9
  refine gx_callSv (As := [.int (bI (0 ≤ a ∧ a < P ps 7))]) (rest := []) ⟨hx, hb, hml, hown, hts⟩ hK hM hE hC25 (cuSx (n := 1) hts u_822 u_820 u_1 (by decide) u_821 ⟨Nat.le_of_ble_eq_true rfl, Nat.le_of_ble_eq_true rfl⟩) rfl hl.1 rfl (Nat.le_of_ble_eq_true rfl) dX8_spare_17 ⟨(Nat.le_of_ble_eq_true rfl), (Nat.le_of_ble_eq_true rfl)⟩ (fun E9 ce9 q9 f26 H locs hM hp27 h91 h92 h93 => gx_pass hxt hlk hK hM ?_ h91 h92 h93 (by decide) (by decide)) (fun f26 H locs hM hp27 => ?_)
  · skip
    obtain ⟨hE9, hn9, rfl⟩ := hp27
    exact ⟨Or.inl ⟨hE9, hn9⟩, rfl⟩
  · skip
    obtain ⟨hrq28, rfl⟩ := hp27
    refine lv_iload_n hx hb dX8_spare_20 rfl (lv_at hl 2 rfl) ?_
    refine g_iconst hx hb dX8_spare_21 ?_
    refine g_bipush hx hb dX8_spare_22 (by decide) ?_
    have hC29 := c_X8_isWithin l g b0 n f b 1 60 hrb (by decide) (by decide)
    refine g_callSi (As := [.int (zI b), .int (zI 1), .int (zI 60)]) (rest := []) ⟨hx, hb, hml, hown, hts⟩ hK hM hC29 (cuS (n := 3) hts u_406 u_824 u_1 (by decide) u_405 ⟨Nat.le_of_ble_eq_true rfl, Nat.le_of_ble_eq_true rfl⟩) rfl hl.1 rfl (Nat.le_of_ble_eq_true rfl) dX8_spare_24 ⟨Nat.le_of_ble_eq_true rfl, Nat.le_of_ble_eq_true rfl⟩ (fun r24 f30 H locs hM hp31 => ?_)
    obtain ⟨rfl, rfl⟩ := hp31
    have hC32 := c_X8_requireRange l g b0 n f (1 ≤ b ∧ b ≤ 60) hl9
    refine gx_callSv (As := [.int (bI (1 ≤ b ∧ b ≤ 60))]) (rest := []) ⟨hx, hb, hml, hown, hts⟩ hK hM hE hC32 (cuSx (n := 1) hts u_827 u_825 u_1 (by decide) u_826 ⟨Nat.le_of_ble_eq_true rfl, Nat.le_of_ble_eq_true rfl⟩) rfl hl.1 rfl (Nat.le_of_ble_eq_true rfl) dX8_spare_27 ⟨(Nat.le_of_ble_eq_true rfl), (Nat.le_of_ble_eq_true rfl)⟩ (fun E9 ce9 q9 f33 H locs hM hp34 h91 h92 h93 => gx_pass hxt hlk hK hM ?_ h91 h92 h93 (by decide) (by decide)) (fun f33 H locs hM hp34 => ?_)
    · skip
      obtain ⟨hE9, hn9, rfl⟩ := hp34
      exact ⟨Or.inr ⟨hE9, hrq28, hn9⟩, rfl⟩
    · skip
      obtain ⟨hrq35, rfl⟩ := hp34
      refine g_iconst hx hb dX8_spare_30 ?_
      refine lv_istore_n (lv' := [(3, .int (zI 0)), (0, .ref h), (1, .int (zI a)), (2, .int (zI b))]) hx hb dX8_spare_31 rfl hl (by decide) rfl (fun ls hl => ?_)
      refine g_ldc (z := 1000001) hx hb hown (hts _ u_966) dX8_spare_32 (by decide) ?_
      refine lv_istore (lv' := [(4, .int (zI 1000001)), (3, .int (zI 0)), (0, .ref h), (1, .int (zI a)), (2, .int (zI b))]) hx hb dX8_spare_34 hl (by decide) rfl (fun ls hl => ?_)
      refine g_iconst hx hb dX8_spare_36 ?_
      refine lv_istore (lv' := [(5, .int (zI 0)), (4, .int (zI 1000001)), (3, .int (zI 0)), (0, .ref h), (1, .int (zI a)), (2, .int (zI b))]) hx hb dX8_spare_37 hl (by decide) rfl (fun ls hl => ?_)
      have lp39 : ∀ (k : Nat), ∀ (i : Nat) (lo : Int) (hh9 : Int) (Tk : Nat → Int) (fL : gF) (H : Heap) (locs : List Loc) (ls : Array Slot), (21 - i < k) → (i ≤ 20) → ((lo, hh9) = sIt (spT (P ps) a.toNat b.toNat) (0, 1000001) i) → (∀ q, (q < h + 581 ∨ h + 604 ≤ q) → fL q = f q) → gH g b0 n fL s.heap H locs → (obP fL h sv rs an cs cr) → (planAt g fL (h + 581) Tk) → (brsAt g fL (h + 1) B P T (fun k => (↑(sc k) : Int)) pr ex (↑ps : Int)) → lv_has ls 7 [(0, .ref h), (1, .int (zI a)), (2, .int (zI b)), (3, .int (zI lo)), (4, .int (zI hh9)), (5, .int (zI (↑i : Int)))] → W p l e0 { frames := 7, cells := 2, slots := 6 * 2, locals := 131 } s m args below meth c H locs ((0 + 1) + 1) ((0 + 6 * 1) + 6 * 1) (vx_MQ below (va_Qi (po_X8_spare g f h B P T sc pr ex ps sv rs an cs cr Tr a b v0) (gB g b0 n) (gA b0)) (xX (px_X8_spare g f h B P T sc pr ex ps sv rs an cs cr Tr a b v0) g b0 n) args s 2 (6 * 2) (gA b0)) (F0 m 39 ls []) := by
        intro k
        induction k with
        | zero =>
          intro i lo hh9 Tk fL H locs ls hk hi hst hfr hM hL0 hL1 hL2 hl
          exact absurd hk (Nat.not_lt_zero _)
        | succ k ih39 =>
          intro i lo hh9 Tk fL H locs ls hk hi hst hfr hM hL0 hL1 hL2 hl
          have hin := spT_in (P := P ps) (e := a.toNat) (d := b.toNat) i hi
          rw [← hst] at hin
          obtain ⟨⟨hin1, hin2, hin3⟩, hin4⟩ := hin
          simp only [] at hin1 hin2 hin3 hin4
          have htd : Int.tdiv (lo + hh9) 2 = (lo + hh9) / 2 := Int.tdiv_eq_ediv_of_nonneg (by omega)
          have hi20 : lo + 1 < hh9 → i < 20 := fun hh => by
            rcases Nat.lt_or_ge i 20 with q | q
            · exact q
            · exfalso; have e20 : i = 20 := by omega
              rw [e20] at hin4; have hz : (2 : Int) ^ (20 - 20) = 1 := rfl
              omega
          refine lv_iload hx hb dX8_spare_39 (lv_at hl 5 rfl) ?_
          refine g_bipush hx hb dX8_spare_41 (by decide) ?_
          refine g_icmp_ge (tgt := 89) hx hb dX8_spare_43 (by decide) ⟨by omega, by omega⟩ (by decide) (fun c43 => ?_) (fun c43 => ?_)
          · skip
            refine lv_iload_n hx hb dX8_spare_89 rfl (lv_at hl 3 rfl) ?_
            refine gx_iret hx hb hr hlk hK hM dX8_spare_90 (by decide) (by decide) ?_
            refine ⟨hrq28, hrq35, ?_, ⟨_, hL1⟩, (fun q hq => (hfr (q) (by omega)))⟩
            rw [spV_eq (i := i) (by omega) (by rw [← hst]; show ¬ lo + 1 < hh9; omega), ← hst]
          · skip
            refine lv_iload hx hb dX8_spare_46 (lv_at hl 4 rfl) ?_
            refine lv_iload_n hx hb dX8_spare_48 rfl (lv_at hl 3 rfl) ?_
            refine g_iconst hx hb dX8_spare_49 ?_
            refine g_iadd hx hb dX8_spare_50 ?_
            refine g_icmp_le (tgt := 89) hx hb dX8_spare_51 (by decide) ⟨by omega, by omega⟩ ⟨by omega, by omega⟩ (fun c51 => ?_) (fun c51 => ?_)
            · skip
              refine lv_iload_n hx hb dX8_spare_89 rfl (lv_at hl 3 rfl) ?_
              refine gx_iret hx hb hr hlk hK hM dX8_spare_90 (by decide) (by decide) ?_
              refine ⟨hrq28, hrq35, ?_, ⟨_, hL1⟩, (fun q hq => (hfr (q) (by omega)))⟩
              rw [spV_eq (i := i) (by omega) (by rw [← hst]; show ¬ lo + 1 < hh9; omega), ← hst]
            · skip
              have hi19 := hi20 (by omega)
              refine lv_iload_n hx hb dX8_spare_54 rfl (lv_at hl 3 rfl) ?_
              refine lv_iload hx hb dX8_spare_55 (lv_at hl 4 rfl) ?_
              refine g_iadd hx hb dX8_spare_57 ?_
              refine g_iconst hx hb dX8_spare_58 ?_
              refine g_idiv hx hb dX8_spare_59 ⟨by omega, by omega⟩ (by decide) (by decide) ?_
              refine lv_istore (lv' := [(6, .int (zI (Int.tdiv (lo + hh9) 2))), (0, .ref h), (1, .int (zI a)), (2, .int (zI b)), (3, .int (zI lo)), (4, .int (zI hh9)), (5, .int (zI (↑i : Int)))]) hx hb dX8_spare_60 hl (by decide) rfl (fun ls hl => ?_)
              refine lv_aload_n hx hb dX8_spare_62 rfl (lv_at hl 1 rfl) ?_
              refine lv_iload_n hx hb dX8_spare_63 rfl (lv_at hl 2 rfl) ?_
              refine lv_iload hx hb dX8_spare_64 (lv_at hl 0 rfl) ?_
              refine lv_iload_n hx hb dX8_spare_66 rfl (lv_at hl 3 rfl) ?_
              have hC36 := c_X8_canSpare l g b0 n fL h B P T sc pr ex ps sv rs an cs cr Tk a (Int.tdiv (lo + hh9) 2) b v0 hL0 hrg hL2 hex hps hpx hL1 hok hv1 hv0 (by omega) ⟨by omega, by omega⟩ (by omega)
              refine g_callVi (ci := 10) (C := RX8) (T := TX8) (N := 9) (As := [.int (zI a), .int (zI (Int.tdiv (lo + hh9) 2)), .int (zI b)]) (rest := []) ⟨hx, hb, hml, hown, hts⟩ hK hM hC36 (cuV (n := 3) hts u_970 u_967 u_1 (by decide) u_969 us_24 ⟨Nat.le_of_ble_eq_true rfl, Nat.le_of_ble_eq_true rfl⟩) ⟨by omega, by omega⟩ hL0 rfl rfl hl.1 rfl (Nat.le_of_ble_eq_true rfl) dX8_spare_67 ⟨Nat.le_of_ble_eq_true rfl, Nat.le_of_ble_eq_true rfl⟩ (fun r67 f37 H locs hM hp38 => ?_)
              obtain ⟨rfl, ⟨T2, hn39⟩, o40⟩ := hp38
              refine g_ifb_eq (tgt := 79) hx hb dX8_spare_70 (by decide) (fun c70 => ?_) (fun c70 => ?_)
              · skip
                refine lv_iload hx hb dX8_spare_79 (lv_at hl 0 rfl) ?_
                refine lv_istore (lv' := [(4, .int (zI (Int.tdiv (lo + hh9) 2))), (6, .int (zI (Int.tdiv (lo + hh9) 2))), (0, .ref h), (1, .int (zI a)), (2, .int (zI b)), (3, .int (zI lo)), (5, .int (zI (↑i : Int)))]) hx hb dX8_spare_81 hl (by decide) rfl (fun ls hl => ?_)
                refine lv_iinc (v := zI ((↑i : Int) + 1)) (lv' := [(5, .int (zI ((↑i : Int) + 1))), (4, .int (zI (Int.tdiv (lo + hh9) 2))), (6, .int (zI (Int.tdiv (lo + hh9) 2))), (0, .ref h), (1, .int (zI a)), (2, .int (zI b)), (3, .int (zI lo))]) hx hb dX8_spare_83 hl (k := 6) rfl (zI_add _ _) (by decide) rfl (fun ls hl => ?_)
                refine lv_goto (tgt := 39) hx hb dX8_spare_86 (by decide) ?_
                have hf41 : f37 (h) = .inr (10, [.ref (h + 1), .ref (h + 291), .ref (h + 581), .ref (h + 604), .int (zI sv), .int (zI rs), .int (zI an), .int (zI cs), .int (zI cr)]) := (o40 (h) (by omega)).trans hL0
                have hf42 := hL2.kept (fun q h1 h2 => (o40 (q) (by omega)))
                exact ih39 (i + 1) lo (Int.tdiv (lo + hh9) 2) T2 f37 _ _ _ (by omega) (by omega) (by rw [sIt_succ, ← hst]; unfold spT; rw [if_pos (show lo + 1 < hh9 by omega), if_neg c70]) (fun q hq => ((o40 (q) (by omega)).trans (hfr (q) (by omega)))) hM hf41 hn39 hf42 (lv_sub hl [3, 4, 5, 6, 1, 0] rfl)
              · skip
                refine lv_iload hx hb dX8_spare_73 (lv_at hl 0 rfl) ?_
                refine lv_istore_n (lv' := [(3, .int (zI (Int.tdiv (lo + hh9) 2))), (6, .int (zI (Int.tdiv (lo + hh9) 2))), (0, .ref h), (1, .int (zI a)), (2, .int (zI b)), (4, .int (zI hh9)), (5, .int (zI (↑i : Int)))]) hx hb dX8_spare_75 rfl hl (by decide) rfl (fun ls hl => ?_)
                refine lv_goto (tgt := 83) hx hb dX8_spare_76 (by decide) ?_
                refine lv_iinc (v := zI ((↑i : Int) + 1)) (lv' := [(5, .int (zI ((↑i : Int) + 1))), (3, .int (zI (Int.tdiv (lo + hh9) 2))), (6, .int (zI (Int.tdiv (lo + hh9) 2))), (0, .ref h), (1, .int (zI a)), (2, .int (zI b)), (4, .int (zI hh9))]) hx hb dX8_spare_83 hl (k := 6) rfl (zI_add _ _) (by decide) rfl (fun ls hl => ?_)
                refine lv_goto (tgt := 39) hx hb dX8_spare_86 (by decide) ?_
                have hf43 : f37 (h) = .inr (10, [.ref (h + 1), .ref (h + 291), .ref (h + 581), .ref (h + 604), .int (zI sv), .int (zI rs), .int (zI an), .int (zI cs), .int (zI cr)]) := (o40 (h) (by omega)).trans hL0
                have hf44 := hL2.kept (fun q h1 h2 => (o40 (q) (by omega)))
                exact ih39 (i + 1) (Int.tdiv (lo + hh9) 2) hh9 T2 f37 _ _ _ (by omega) (by omega) (by rw [sIt_succ, ← hst]; unfold spT; rw [if_pos (show lo + 1 < hh9 by omega), if_pos c70]) (fun q hq => ((o40 (q) (by omega)).trans (hfr (q) (by omega)))) hM hf43 hn39 hf44 (lv_sub hl [3, 4, 5, 1, 6, 0] rfl)
      exact lp39 (22) 0 0 1000001 Tr f _ _ _ (by omega) (by omega) rfl (fun q hq => rfl) hM hO hTr hS (lv_sub hl [3, 4, 5, 2, 1, 0] rfl)
