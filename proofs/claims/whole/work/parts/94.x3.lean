def po_X8_split (g : gE) (f : gF) (h : Nat) (B P T : Nat → Nat → Int) (sc : Nat → Nat) (pr ex : Nat → Int) (ps : Nat) (sv rs an cs cr : Int) (Tr : Nat → Int) (a b v0 : Int) : Int32 → gF → Prop := fun r f1 => (a = -1 ∨ (0 ≤ a ∧ a < P ps 7)) ∧ (1 ≤ b ∧ b ≤ 1000000) ∧ r = zI (sMon (sInc (P ps) b).2 a - sMon (P ps) a) ∧ (∃ Tr1 : Nat → Int, planAt g f1 (h + 581) Tr1) ∧ ∀ q, (q < h + 581 ∨ h + 604 ≤ q) → f1 q = f q
def px_X8_split (g : gE) (f : gF) (h : Nat) (B P T : Nat → Nat → Int) (sc : Nat → Nat) (pr ex : Nat → Int) (ps : Nat) (sv rs an cs cr : Int) (Tr : Nat → Int) (a b v0 : Int) : String → gF → Prop := fun E f1 => ((E = exN2 ∧ ¬ (a = -1 ∨ (0 ≤ a ∧ a < P ps 7))) ∨ (E = exN0 ∧ (a = -1 ∨ (0 ≤ a ∧ a < P ps 7)) ∧ ¬ (1 ≤ b ∧ b ≤ 1000000))) ∧ f = f1
set_option maxRecDepth 100000 in
set_option maxHeartbeats 1000000 in
/-- split -/
theorem c_X8_split (l : Launch) (g : gE) (b0 n : Nat) (f : gF) (h : Nat) (B P T : Nat → Nat → Int) (sc : Nat → Nat) (pr ex : Nat → Int) (ps : Nat) (sv rs an cs cr : Int) (Tr : Nat → Int) (a b v0 : Int) (hl9 : l.stackTraces = false) (hO : obP f h sv rs an cs cr) (hrg : b0 ≤ h ∧ h + 607 ≤ b0 + n) (hS : brsAt g f (h + 1) B P T (fun k => (↑(sc k) : Int)) pr ex (↑ps : Int)) (hex : ∀ k, k < 6 → ex k = 0 ∨ ex k = 1) (hps : ps < 6) (hpx : ex ps = 1) (hTr : planAt g f (h + 581) Tr) (hok : ∀ k, k < 6 → pOk (P k) v0) (hv1 : 0 ≤ v0) (hv0 : v0 + 2000 ≤ 800000000) (hra : rI a) (hrb : rI b) : cxI l yX8_split cX8_split 4 (some .int) 7 102 2 [.ref h, .int (zI a), .int (zI b)] g b0 n f (po_X8_split g f h B P T sc pr ex ps sv rs an cs cr Tr a b v0) (px_X8_split g f h B P T sc pr ex ps sv rs an cs cr Tr a b v0) := by
  refine gs_xi (cc := cX8_split) (maxL := 4) (ret := (some .int)) (by decide) (Nat.le_of_ble_eq_true rfl) ?_
  intro p e0 s m args below meth c ls hx hb hr hml hown hts hlk hxt hE hK hM hl
  have hl : lv_has ls 4 [(0, .ref h), (1, .int (zI a)), (2, .int (zI b))] := hl
  have hokp := hok ps hps
  have hcn7 := hokp.1.1
  have hcn8 := hokp.2.1.1
  have hcn9 := hokp.2.2.1.1
  have hcn10 := hokp.2.2.2.2.2.2.2.1
  have hcp7 := hcn7.1
  have hcp8 := hcn8.1
  have hcp9 := hcn9.1
  have hcp10 := hcn10.1
  have hcq7 := hcn7.2
  have hcq8 := hcn8.2
  have hcq9 := hcn9.2
  have hcq10 := hcn10.2
  have hws := pOkL_wfS hokp (by omega)
  refine lv_aload_n hx hb dX8_split_0 rfl (lv_at hl 0 rfl) ?_
  refine g_get (ci := 10) (v := .ref (h + 1)) (C := RX8) (T := TX8) (N := 9) hx hb hts iU_X8 hown hK hM ⟨by omega, by omega⟩ hO rfl 0 (by decide) (hts _ u_275) (fun _ h9 => h9) rfl dX8_split_1 ?_
  have hC1 := c_X1_here l g b0 n f (h + 1) B P T (fun k => (↑(sc k) : Int)) pr ex ps hS ⟨by omega, by omega⟩ hex hps hpx
  obtain ⟨ho4, ho5, ho6⟩ := id hS
  refine g_callVq (ci := 3) (C := RX1) (T := TX1) (N := 3) (As := []) (rest := []) ⟨hx, hb, hml, hown, hts⟩ hK hM hC1 (cuV (n := 0) hts u_366 u_363 u_2 (by decide) u_364 u_365 ⟨Nat.le_of_ble_eq_true rfl, Nat.le_of_ble_eq_true rfl⟩) ⟨by omega, by omega⟩ ho4 rfl rfl hl.1 rfl (Nat.le_of_ble_eq_true rfl) dX8_split_4 ⟨Nat.le_of_ble_eq_true rfl, Nat.le_of_ble_eq_true rfl⟩ (fun r4 f2 H locs hM hp3 => ?_)
  obtain ⟨rfl, rfl⟩ := hp3
  have hbb7 := brB_in (h := h + 1) (k := ps) (by omega)
  have hbr7 := hS.2.2 ps (by omega)
  obtain ⟨ho8, ho9, ho10, ho11⟩ := id hbr7
  refine g_getN (ci := 2) (v := .ref ((brB (h + 1) ps) + 24)) (C := RX0) (T := TX0) (N := 6) hx hb hts iU_X0 hown hK hM ⟨by omega, by omega⟩ ho8 rfl 1 (by decide) (hts _ u_210) (fun _ h9 => h9) rfl dX8_split_7 ?_
  refine lv_astore_n (lv' := [(3, .ref ((brB (h + 1) ps) + 24)), (0, .ref h), (1, .int (zI a)), (2, .int (zI b))]) hx hb dX8_split_10 rfl hl (by decide) rfl (fun ls hl => ?_)
  refine lv_aload_n hx hb dX8_split_11 rfl (lv_at hl 0 rfl) ?_
  refine lv_iload_n hx hb dX8_split_12 rfl (lv_at hl 2 rfl) ?_
  have hC12 := c_X5_isPlace l g b0 n f ((brB (h + 1) ps) + 24) (P ps) a ho10 ⟨by omega, by omega⟩ hcn7 hra
  obtain ⟨ho15, ho16, ho17, ho18, ho19⟩ := id ho10
  refine g_callVi (ci := 7) (C := RX5) (T := TX5) (N := 11) (As := [.int (zI a)]) (rest := []) ⟨hx, hb, hml, hown, hts⟩ hK hM hC12 (cuV (n := 1) hts u_398 u_855 u_4 (by decide) u_396 u_397 ⟨Nat.le_of_ble_eq_true rfl, Nat.le_of_ble_eq_true rfl⟩) ⟨by omega, by omega⟩ ho15 rfl rfl hl.1 rfl (Nat.le_of_ble_eq_true rfl) dX8_split_13 ⟨Nat.le_of_ble_eq_true rfl, Nat.le_of_ble_eq_true rfl⟩ (fun r13 f13 H locs hM hp14 => ?_)
  obtain ⟨rfl, rfl⟩ := hp14
  have hC20 := c_X8_requirePart l g b0 n f (a = -1 ∨ (0 ≤ a ∧ a < P ps 7)) hl9
  refine gx_callSv (As := [.int (bI (a = -1 ∨ (0 ≤ a ∧ a < P ps 7)))]) (rest := []) ⟨hx, hb, hml, hown, hts⟩ hK hM hE hC20 (cuSx (n := 1) hts u_822 u_820 u_1 (by decide) u_821 ⟨Nat.le_of_ble_eq_true rfl, Nat.le_of_ble_eq_true rfl⟩) rfl hl.1 rfl (Nat.le_of_ble_eq_true rfl) dX8_split_16 ⟨(Nat.le_of_ble_eq_true rfl), (Nat.le_of_ble_eq_true rfl)⟩ (fun E9 ce9 q9 f21 H locs hM hp22 h91 h92 h93 => gx_pass hxt hlk hK hM ?_ h91 h92 h93 (by decide) (by decide)) (fun f21 H locs hM hp22 => ?_)
  · skip
    obtain ⟨hE9, hn9, rfl⟩ := hp22
    exact ⟨Or.inl ⟨hE9, hn9⟩, rfl⟩
  · skip
    obtain ⟨hrq23, rfl⟩ := hp22
    refine lv_iload_n hx hb dX8_split_19 rfl (lv_at hl 3 rfl) ?_
    refine g_iconst hx hb dX8_split_20 ?_
    refine g_ldc (z := 1000000) hx hb hown (hts _ u_856) dX8_split_21 (by decide) ?_
    have hC24 := c_X8_isWithin l g b0 n f b 1 1000000 hrb (by decide) (by decide)
    refine g_callSi (As := [.int (zI b), .int (zI 1), .int (zI 1000000)]) (rest := []) ⟨hx, hb, hml, hown, hts⟩ hK hM hC24 (cuS (n := 3) hts u_406 u_824 u_1 (by decide) u_405 ⟨Nat.le_of_ble_eq_true rfl, Nat.le_of_ble_eq_true rfl⟩) rfl hl.1 rfl (Nat.le_of_ble_eq_true rfl) dX8_split_23 ⟨Nat.le_of_ble_eq_true rfl, Nat.le_of_ble_eq_true rfl⟩ (fun r23 f25 H locs hM hp26 => ?_)
    obtain ⟨rfl, rfl⟩ := hp26
    have hC27 := c_X8_requireRange l g b0 n f (1 ≤ b ∧ b ≤ 1000000) hl9
    refine gx_callSv (As := [.int (bI (1 ≤ b ∧ b ≤ 1000000))]) (rest := []) ⟨hx, hb, hml, hown, hts⟩ hK hM hE hC27 (cuSx (n := 1) hts u_827 u_825 u_1 (by decide) u_826 ⟨Nat.le_of_ble_eq_true rfl, Nat.le_of_ble_eq_true rfl⟩) rfl hl.1 rfl (Nat.le_of_ble_eq_true rfl) dX8_split_26 ⟨(Nat.le_of_ble_eq_true rfl), (Nat.le_of_ble_eq_true rfl)⟩ (fun E9 ce9 q9 f28 H locs hM hp29 h91 h92 h93 => gx_pass hxt hlk hK hM ?_ h91 h92 h93 (by decide) (by decide)) (fun f28 H locs hM hp29 => ?_)
    · skip
      obtain ⟨hE9, hn9, rfl⟩ := hp29
      exact ⟨Or.inr ⟨hE9, hrq23, hn9⟩, rfl⟩
    · skip
      obtain ⟨hrq30, rfl⟩ := hp29
      refine lv_aload_n hx hb dX8_split_29 rfl (lv_at hl 1 rfl) ?_
      refine g_get (ci := 10) (v := .ref (h + 581)) (C := RX8) (T := TX8) (N := 9) hx hb hts iU_X8 hown hK hM ⟨by omega, by omega⟩ hO rfl 2 (by decide) (hts _ u_277) (fun _ h9 => h9) rfl dX8_split_30 ?_
      refine lv_aload_n hx hb dX8_split_33 rfl (lv_at hl 0 rfl) ?_
      have hC31 := c_X5_copyFrom l g b0 n f (h + 581) ((brB (h + 1) ps) + 24) Tr (P ps) hTr ho10 ⟨by omega, by omega⟩ ⟨by omega, by omega⟩ (by omega)
      obtain ⟨ho34, ho35, ho36, ho37, ho38⟩ := id hTr
      refine g_callVv (ci := 7) (C := RX5) (T := TX5) (N := 11) (As := [.ref ((brB (h + 1) ps) + 24)]) (rest := []) ⟨hx, hb, hml, hown, hts⟩ hK hM hC31 (cuV (n := 1) hts u_561 u_857 u_4 (by decide) u_559 u_560 ⟨Nat.le_of_ble_eq_true rfl, Nat.le_of_ble_eq_true rfl⟩) ⟨by omega, by omega⟩ ho34 rfl rfl hl.1 rfl (Nat.le_of_ble_eq_true rfl) dX8_split_34 ⟨Nat.le_of_ble_eq_true rfl, Nat.le_of_ble_eq_true rfl⟩ (fun f32 H locs hM hp33 => ?_)
      obtain ⟨hn39, o40⟩ := hp33
      refine lv_aload_n hx hb dX8_split_37 rfl (lv_at hl 1 rfl) ?_
      have hf41 : f32 (h) = .inr (10, [.ref (h + 1), .ref (h + 291), .ref (h + 581), .ref (h + 604), .int (zI sv), .int (zI rs), .int (zI an), .int (zI cs), .int (zI cr)]) := (o40 (h) (by omega)).trans hO
      refine g_get (ci := 10) (v := .ref (h + 581)) (C := RX8) (T := TX8) (N := 9) hx hb hts iU_X8 hown hK hM ⟨by omega, by omega⟩ hf41 rfl 2 (by decide) (hts _ u_277) (fun _ h9 => h9) rfl dX8_split_38 ?_
      refine lv_iload_n hx hb dX8_split_41 rfl (lv_at hl 3 rfl) ?_
      have hC42 := c_X5_takeIncome l g b0 n f32 (h + 581) (P ps) b hn39 ⟨by omega, by omega⟩ (wfE_mono hws.E (by omega)) hokp.2.1 ⟨by omega, by omega⟩
      obtain ⟨ho45, ho46, ho47, ho48, ho49⟩ := id hn39
      refine g_callVl (ci := 7) (C := RX5) (T := TX5) (N := 11) (As := [.int (zI b)]) (rest := []) ⟨hx, hb, hml, hown, hts⟩ hK hM hC42 (cuV (n := 1) hts u_483 u_858 u_4 (by decide) u_481 u_482 ⟨Nat.le_of_ble_eq_true rfl, Nat.le_of_ble_eq_true rfl⟩) ⟨by omega, by omega⟩ ho45 rfl rfl hl.1 rfl (Nat.le_of_ble_eq_true rfl) dX8_split_42 ⟨Nat.le_of_ble_eq_true rfl, Nat.le_of_ble_eq_true rfl⟩ (fun r42 f43 H locs hM hp44 => ?_)
      obtain ⟨rfl, hn50, o51⟩ := hp44
      have hk7 : (sInc (P ps) b).2 7 = P ps 7 := (sInc_ok hokp.1 hokp.2.1 hokp.2.2.2.1 (by omega) (by omega)).1 7 (by unfold keyI; omega)
      refine lv_pop2_2 hx hb dX8_split_45 rfl ?_
      refine lv_aload_n hx hb dX8_split_46 rfl (lv_at hl 1 rfl) ?_
      have hf52 : f43 (h) = .inr (10, [.ref (h + 1), .ref (h + 291), .ref (h + 581), .ref (h + 604), .int (zI sv), .int (zI rs), .int (zI an), .int (zI cs), .int (zI cr)]) := (o51 (h) (by omega)).trans hf41
      refine g_get (ci := 10) (v := .ref (h + 581)) (C := RX8) (T := TX8) (N := 9) hx hb hts iU_X8 hown hK hM ⟨by omega, by omega⟩ hf52 rfl 2 (by decide) (hts _ u_277) (fun _ h9 => h9) rfl dX8_split_47 ?_
      refine lv_iload_n hx hb dX8_split_50 rfl (lv_at hl 2 rfl) ?_
      have hC53 := c_X5_moneyIn l g b0 n f43 (h + 581) ((sInc (P ps) b).2) a hn50 ⟨by omega, by omega⟩ (by rw [hk7]; exact hcn7) hra (by rw [hk7]; omega)
      obtain ⟨ho56, ho57, ho58, ho59, ho60⟩ := id hn50
      refine g_callVl (ci := 7) (C := RX5) (T := TX5) (N := 11) (As := [.int (zI a)]) (rest := []) ⟨hx, hb, hml, hown, hts⟩ hK hM hC53 (cuV (n := 1) hts u_431 u_859 u_4 (by decide) u_429 u_430 ⟨Nat.le_of_ble_eq_true rfl, Nat.le_of_ble_eq_true rfl⟩) ⟨by omega, by omega⟩ ho56 rfl rfl hl.1 rfl (Nat.le_of_ble_eq_true rfl) dX8_split_51 ⟨Nat.le_of_ble_eq_true rfl, Nat.le_of_ble_eq_true rfl⟩ (fun r51 f54 H locs hM hp55 => ?_)
      obtain ⟨rfl, rfl⟩ := hp55
      refine lv_aload_n hx hb dX8_split_54 rfl (lv_at hl 0 rfl) ?_
      refine lv_iload_n hx hb dX8_split_55 rfl (lv_at hl 2 rfl) ?_
      have hf61 := ho10.kept (fun q h1 h2 => ((o51 (q) (by omega)).trans (o40 (q) (by omega))))
      have hC62 := c_X5_moneyIn l g b0 n f43 ((brB (h + 1) ps) + 24) (P ps) a hf61 ⟨by omega, by omega⟩ hcn7 hra (by omega)
      have hf65 : f43 ((brB (h + 1) ps) + 24) = .inr (7, [.ref ((brB (h + 1) ps) + 24 + 1), .ref ((brB (h + 1) ps) + 24 + 6), .ref ((brB (h + 1) ps) + 24 + 10), .ref ((brB (h + 1) ps) + 24 + 16), .long (zL ((P ps) 0)), .int (zI ((P ps) 1)), .long (zL ((P ps) 2)), .long (zL ((P ps) 3)), .int (zI ((P ps) 4)), .long (zL ((P ps) 5)), .long (zL ((P ps) 6))]) := ((o51 ((brB (h + 1) ps) + 24) (by omega)).trans (o40 ((brB (h + 1) ps) + 24) (by omega))).trans ho15
      refine g_callVl (ci := 7) (C := RX5) (T := TX5) (N := 11) (As := [.int (zI a)]) (rest := [.long (zL (sMon ((sInc (P ps) b).2) a))]) ⟨hx, hb, hml, hown, hts⟩ hK hM hC62 (cuV (n := 1) hts u_431 u_859 u_4 (by decide) u_429 u_430 ⟨Nat.le_of_ble_eq_true rfl, Nat.le_of_ble_eq_true rfl⟩) ⟨by omega, by omega⟩ hf65 rfl rfl hl.1 rfl (Nat.le_of_ble_eq_true rfl) dX8_split_56 ⟨Nat.le_of_ble_eq_true rfl, Nat.le_of_ble_eq_true rfl⟩ (fun r56 f63 H locs hM hp64 => ?_)
      obtain ⟨rfl, rfl⟩ := hp64
      refine g_lsub hx hb dX8_split_59 ?_
      refine g_l2i hx hb dX8_split_60 ?_
      refine gx_iret hx hb hr hlk hK hM dX8_split_61 (by decide) (by decide) ?_
      exact ⟨hrq23, hrq30, rfl, ⟨_, hn50⟩, (fun q hq => ((o51 (q) (by omega)).trans (o40 (q) (by omega))))⟩

def po_X8_requireRangeZ (g : gE) (f : gF) (zc : Int) : gF → Prop := fun f1 => zc = 1 ∧ f = f1
def px_X8_requireRangeZ (g : gE) (f : gF) (zc : Int) : String → gF → Prop := fun E f1 => E = exN0 ∧ zc = 0 ∧ f = f1
set_option maxRecDepth 100000 in
set_option maxHeartbeats 1000000 in
/-- requireRange(literal) -/
theorem c_X8_requireRangeZ (l : Launch) (g : gE) (b0 n : Nat) (f : gF) (zc : Int) (hl9 : l.stackTraces = false) (hzc : zc = 0 ∨ zc = 1) : cxV l yX8_requireRange cX8_requireRange 1 none 6 82 1 [.int (zI zc)] g b0 n f (po_X8_requireRangeZ g f zc) (px_X8_requireRangeZ g f zc) := by
  refine gs_xv (cc := cX8_requireRange) (maxL := 1) (ret := none) (by decide) (Nat.le_of_ble_eq_true rfl) ?_
  intro p e0 s m args below meth c ls hx hb hr hml hown hts hlk hxt hE hK hM hl
  have hl : lv_has ls 1 [(0, .int (zI zc))] := hl
  refine lv_iload_n hx hb dX8_requireRange_0 rfl (lv_at hl 0 rfl) ?_
  refine g_if_ne (tgt := 14) hx hb dX8_requireRange_1 (by decide) (by rcases hzc with q | q <;> rw [q] <;> decide) (fun c1 => ?_) (fun c1 => ?_)
  · skip
    refine gx_vret hx hb hr hlk hK hM dX8_requireRange_14 (by decide) (by decide) ?_
    exact ⟨by omega, rfl⟩
  · skip
    refine gx_throwS (is := 80) (text := "an argument is out of range") hx hb hl9 hown hlk hts hxt hE hK hM (hl.1.trans hml.symm) (by decide +kernel) u_674 u_15 (by decide +kernel) xk_0 xg_0 dX8_requireRange_4 dX8_requireRange_7 dX8_requireRange_8 dX8_requireRange_10 dX8_requireRange_13 ⟨by decide, by decide, by decide, by decide⟩ (by decide) (by decide) ?_
    exact ⟨rfl, by omega, rfl⟩

def po_X8_forecast (g : gE) (f : gF) (h : Nat) (B P T : Nat → Nat → Int) (sc : Nat → Nat) (pr ex : Nat → Int) (ps : Nat) (sv rs an cs cr : Int) (Tr : Nat → Int) (a b v0 : Int) : Int64 → gF → Prop := fun r f1 => ((1 ≤ a ∧ a ≤ 200) ∧ (0 ≤ b ∧ b ≤ 9)) ∧ r = zL (fcV (P ps) a.toNat b.toNat) ∧ (∃ Tr1 : Nat → Int, planAt g f1 (h + 581) Tr1) ∧ ∀ q, (q < h + 581 ∨ h + 604 ≤ q) → f1 q = f q
def px_X8_forecast (g : gE) (f : gF) (h : Nat) (B P T : Nat → Nat → Int) (sc : Nat → Nat) (pr ex : Nat → Int) (ps : Nat) (sv rs an cs cr : Int) (Tr : Nat → Int) (a b v0 : Int) : String → gF → Prop := fun E f1 => E = exN0 ∧ ¬ ((1 ≤ a ∧ a ≤ 200) ∧ (0 ≤ b ∧ b ≤ 9)) ∧ f = f1
set_option maxRecDepth 100000 in
set_option maxHeartbeats 1000000 in
/-- forecast -/
theorem c_X8_forecast (l : Launch) (g : gE) (b0 n : Nat) (f : gF) (h : Nat) (B P T : Nat → Nat → Int) (sc : Nat → Nat) (pr ex : Nat → Int) (ps : Nat) (sv rs an cs cr : Int) (Tr : Nat → Int) (a b v0 : Int) (hl9 : l.stackTraces = false) (hO : obP f h sv rs an cs cr) (hrg : b0 ≤ h ∧ h + 607 ≤ b0 + n) (hS : brsAt g f (h + 1) B P T (fun k => (↑(sc k) : Int)) pr ex (↑ps : Int)) (hex : ∀ k, k < 6 → ex k = 0 ∨ ex k = 1) (hps : ps < 6) (hpx : ex ps = 1) (hTr : planAt g f (h + 581) Tr) (hok : ∀ k, k < 6 → pOk (P k) v0) (hv1 : 0 ≤ v0) (hv0 : v0 + 2000 ≤ 800000000) (hra : rI a) (hrb : rI b) : cxL l yX8_forecast cX8_forecast 8 (some .long) 7 107 1 [.ref h, .int (zI a), .int (zI b)] g b0 n f (po_X8_forecast g f h B P T sc pr ex ps sv rs an cs cr Tr a b v0) (px_X8_forecast g f h B P T sc pr ex ps sv rs an cs cr Tr a b v0) := by
  refine gs_xl (cc := cX8_forecast) (maxL := 8) (ret := (some .long)) (by decide) (Nat.le_of_ble_eq_true rfl) ?_
  intro p e0 s m args below meth c ls hx hb hr hml hown hts hlk hxt hE hK hM hl
  have hl : lv_has ls 8 [(0, .ref h), (1, .int (zI a)), (2, .int (zI b))] := hl
  have hokp := hok ps hps
  have hcn7 := hokp.1.1
  have hcn8 := hokp.2.1.1
  have hcn9 := hokp.2.2.1.1
  have hcn10 := hokp.2.2.2.2.2.2.2.1
  have hcp7 := hcn7.1
  have hcp8 := hcn8.1
  have hcp9 := hcn9.1
  have hcp10 := hcn10.1
  have hcq7 := hcn7.2
  have hcq8 := hcn8.2
  have hcq9 := hcn9.2
  have hcq10 := hcn10.2
  have hws := pOkL_wfS hokp (by omega)
  refine lv_iload_n hx hb dX8_forecast_0 rfl (lv_at hl 1 rfl) ?_
  refine g_iconst hx hb dX8_forecast_1 ?_
  refine g_sipush hx hb dX8_forecast_2 (by decide) ?_
  have hC1 := c_X8_isWithin l g b0 n f a 1 200 hra (by decide) (by decide)
  refine g_callSi (As := [.int (zI a), .int (zI 1), .int (zI 200)]) (rest := []) ⟨hx, hb, hml, hown, hts⟩ hK hM hC1 (cuS (n := 3) hts u_406 u_824 u_1 (by decide) u_405 ⟨Nat.le_of_ble_eq_true rfl, Nat.le_of_ble_eq_true rfl⟩) rfl hl.1 rfl (Nat.le_of_ble_eq_true rfl) dX8_forecast_5 ⟨Nat.le_of_ble_eq_true rfl, Nat.le_of_ble_eq_true rfl⟩ (fun r5 f2 H locs hM hp3 => ?_)
  obtain ⟨rfl, rfl⟩ := hp3
  refine g_ifb_eq (tgt := 25) hx hb dX8_forecast_8 (by decide) (fun c8 => ?_) (fun c8 => ?_)
  · skip
    refine g_iconst hx hb dX8_forecast_25 ?_
    have hC4 := c_X8_requireRangeZ l g b0 n f 0 hl9 (by decide)
    refine gx_callSv (As := [.int (zI 0)]) (rest := []) ⟨hx, hb, hml, hown, hts⟩ hK hM hE hC4 (cuSx (n := 1) hts u_827 u_825 u_1 (by decide) u_826 ⟨Nat.le_of_ble_eq_true rfl, Nat.le_of_ble_eq_true rfl⟩) rfl hl.1 rfl (Nat.le_of_ble_eq_true rfl) dX8_forecast_26 ⟨(Nat.le_of_ble_eq_true rfl), (Nat.le_of_ble_eq_true rfl)⟩ (fun E9 ce9 q9 f5 H locs hM hp6 h91 h92 h93 => gx_pass hxt hlk hK hM ?_ h91 h92 h93 (by decide) (by decide)) (fun f5 H locs hM hp6 => ?_)
    · skip
      obtain ⟨hE9, hn9, rfl⟩ := hp6
      exact ⟨hE9, by omega, rfl⟩
    · skip
      obtain ⟨hrq7, rfl⟩ := hp6
      exact absurd hrq7 (by decide)
  · skip
    refine lv_iload_n hx hb dX8_forecast_11 rfl (lv_at hl 2 rfl) ?_
    refine g_iconst hx hb dX8_forecast_12 ?_
    refine g_bipush hx hb dX8_forecast_13 (by decide) ?_
    have hC8 := c_X8_isWithin l g b0 n f b 0 9 hrb (by decide) (by decide)
    refine g_callSi (As := [.int (zI b), .int (zI 0), .int (zI 9)]) (rest := []) ⟨hx, hb, hml, hown, hts⟩ hK hM hC8 (cuS (n := 3) hts u_406 u_824 u_1 (by decide) u_405 ⟨Nat.le_of_ble_eq_true rfl, Nat.le_of_ble_eq_true rfl⟩) rfl hl.1 rfl (Nat.le_of_ble_eq_true rfl) dX8_forecast_15 ⟨Nat.le_of_ble_eq_true rfl, Nat.le_of_ble_eq_true rfl⟩ (fun r15 f9 H locs hM hp10 => ?_)
    obtain ⟨rfl, rfl⟩ := hp10
    refine g_ifb_eq (tgt := 25) hx hb dX8_forecast_18 (by decide) (fun c18 => ?_) (fun c18 => ?_)
    · skip
      refine g_iconst hx hb dX8_forecast_25 ?_
      have hC11 := c_X8_requireRangeZ l g b0 n f 0 hl9 (by decide)
      refine gx_callSv (As := [.int (zI 0)]) (rest := []) ⟨hx, hb, hml, hown, hts⟩ hK hM hE hC11 (cuSx (n := 1) hts u_827 u_825 u_1 (by decide) u_826 ⟨Nat.le_of_ble_eq_true rfl, Nat.le_of_ble_eq_true rfl⟩) rfl hl.1 rfl (Nat.le_of_ble_eq_true rfl) dX8_forecast_26 ⟨(Nat.le_of_ble_eq_true rfl), (Nat.le_of_ble_eq_true rfl)⟩ (fun E9 ce9 q9 f12 H locs hM hp13 h91 h92 h93 => gx_pass hxt hlk hK hM ?_ h91 h92 h93 (by decide) (by decide)) (fun f12 H locs hM hp13 => ?_)
      · skip
        obtain ⟨hE9, hn9, rfl⟩ := hp13
        exact ⟨hE9, by omega, rfl⟩
      · skip
        obtain ⟨hrq14, rfl⟩ := hp13
        exact absurd hrq14 (by decide)
    · skip
      refine g_iconst hx hb dX8_forecast_21 ?_
      refine lv_goto (tgt := 26) hx hb dX8_forecast_22 (by decide) ?_
      have hC15 := c_X8_requireRangeZ l g b0 n f 1 hl9 (by decide)
      refine gx_callSv (As := [.int (zI 1)]) (rest := []) ⟨hx, hb, hml, hown, hts⟩ hK hM hE hC15 (cuSx (n := 1) hts u_827 u_825 u_1 (by decide) u_826 ⟨Nat.le_of_ble_eq_true rfl, Nat.le_of_ble_eq_true rfl⟩) rfl hl.1 rfl (Nat.le_of_ble_eq_true rfl) dX8_forecast_26 ⟨(Nat.le_of_ble_eq_true rfl), (Nat.le_of_ble_eq_true rfl)⟩ (fun E9 ce9 q9 f16 H locs hM hp17 h91 h92 h93 => gx_pass hxt hlk hK hM ?_ h91 h92 h93 (by decide) (by decide)) (fun f16 H locs hM hp17 => ?_)
      · skip
        obtain ⟨hE9, hn9, rfl⟩ := hp17
        exact absurd hn9 (by decide)
      · skip
        obtain ⟨hrq18, rfl⟩ := hp17
        refine lv_aload_n hx hb dX8_forecast_29 rfl (lv_at hl 0 rfl) ?_
        refine g_get (ci := 10) (v := .ref (h + 581)) (C := RX8) (T := TX8) (N := 9) hx hb hts iU_X8 hown hK hM ⟨by omega, by omega⟩ hO rfl 2 (by decide) (hts _ u_277) (fun _ h9 => h9) rfl dX8_forecast_30 ?_
        refine lv_aload_n hx hb dX8_forecast_33 rfl (lv_at hl 0 rfl) ?_
        refine g_get (ci := 10) (v := .ref (h + 1)) (C := RX8) (T := TX8) (N := 9) hx hb hts iU_X8 hown hK hM ⟨by omega, by omega⟩ hO rfl 0 (by decide) (hts _ u_275) (fun _ h9 => h9) rfl dX8_forecast_34 ?_
        have hC19 := c_X1_here l g b0 n f (h + 1) B P T (fun k => (↑(sc k) : Int)) pr ex ps hS ⟨by omega, by omega⟩ hex hps hpx
        obtain ⟨ho22, ho23, ho24⟩ := id hS
        refine g_callVq (ci := 3) (C := RX1) (T := TX1) (N := 3) (As := []) (rest := [.ref (h + 581)]) ⟨hx, hb, hml, hown, hts⟩ hK hM hC19 (cuV (n := 0) hts u_366 u_363 u_2 (by decide) u_364 u_365 ⟨Nat.le_of_ble_eq_true rfl, Nat.le_of_ble_eq_true rfl⟩) ⟨by omega, by omega⟩ ho22 rfl rfl hl.1 rfl (Nat.le_of_ble_eq_true rfl) dX8_forecast_37 ⟨Nat.le_of_ble_eq_true rfl, Nat.le_of_ble_eq_true rfl⟩ (fun r37 f20 H locs hM hp21 => ?_)
        obtain ⟨rfl, rfl⟩ := hp21
        have hbb25 := brB_in (h := h + 1) (k := ps) (by omega)
        have hbr25 := hS.2.2 ps (by omega)
        obtain ⟨ho26, ho27, ho28, ho29⟩ := id hbr25
        refine g_getN (ci := 2) (v := .ref ((brB (h + 1) ps) + 24)) (C := RX0) (T := TX0) (N := 6) hx hb hts iU_X0 hown hK hM ⟨by omega, by omega⟩ ho26 rfl 1 (by decide) (hts _ u_210) (fun _ h9 => h9) rfl dX8_forecast_40 ?_
        have hC30 := c_X5_copyFrom l g b0 n f (h + 581) ((brB (h + 1) ps) + 24) Tr (P ps) hTr ho28 ⟨by omega, by omega⟩ ⟨by omega, by omega⟩ (by omega)
        obtain ⟨ho33, ho34, ho35, ho36, ho37⟩ := id hTr
        refine g_callVv (ci := 7) (C := RX5) (T := TX5) (N := 11) (As := [.ref ((brB (h + 1) ps) + 24)]) (rest := []) ⟨hx, hb, hml, hown, hts⟩ hK hM hC30 (cuV (n := 1) hts u_561 u_857 u_4 (by decide) u_559 u_560 ⟨Nat.le_of_ble_eq_true rfl, Nat.le_of_ble_eq_true rfl⟩) ⟨by omega, by omega⟩ ho33 rfl rfl hl.1 rfl (Nat.le_of_ble_eq_true rfl) dX8_forecast_43 ⟨Nat.le_of_ble_eq_true rfl, Nat.le_of_ble_eq_true rfl⟩ (fun f31 H locs hM hp32 => ?_)
        obtain ⟨hn38, o39⟩ := hp32
        refine g_lconst (z := 0) hx hb dX8_forecast_46 (by decide) ?_
        refine lv_lstore_n (lv' := [(3, .long (zL 0)), (0, .ref h), (1, .int (zI a)), (2, .int (zI b))]) hx hb dX8_forecast_47 rfl hl (by decide) rfl (fun ls hl => ?_)
        refine g_iconst hx hb dX8_forecast_48 ?_
        refine lv_istore (lv' := [(5, .int (zI 0)), (3, .long (zL 0)), (0, .ref h), (1, .int (zI a)), (2, .int (zI b))]) hx hb dX8_forecast_49 hl (by decide) rfl (fun ls hl => ?_)
        refine g_iconst hx hb dX8_forecast_51 ?_
        refine lv_istore (lv' := [(6, .int (zI 1)), (5, .int (zI 0)), (3, .long (zL 0)), (0, .ref h), (1, .int (zI a)), (2, .int (zI b))]) hx hb dX8_forecast_52 hl (by decide) rfl (fun ls hl => ?_)
        have lp54 : ∀ (k : Nat), ∀ (i : Nat) (lst : Int) (fr : Int) (Pk : Nat → Int) (fL : gF) (H : Heap) (locs : List Loc) (ls : Array Slot), (a.toNat - i < k) → ((i : Int) ≤ a) → (Pk = sDays (P ps) i) → (lst = (fc (P ps) i).1) → (fr = (fc (P ps) i).2.1) → (rL lst) → (0 ≤ fr ∧ fr ≤ i) → (pOk Pk (v0 + 9 * i)) → (∀ q, (q < h + 581 ∨ h + 604 ≤ q) → fL q = f q) → gH g b0 n fL s.heap H locs → (obP fL h sv rs an cs cr) → (planAt g fL (h + 581) Pk) → lv_has ls 8 [(0, .ref h), (1, .int (zI a)), (2, .int (zI b)), (3, .long (zL lst)), (5, .int (zI fr)), (6, .int (zI ((↑i : Int) + 1)))] → W p l e0 { frames := 7, cells := 1, slots := 6 * 1, locals := 107 } s m args below meth c H locs (0 + 1) (0 + 6 * 1) (vx_MQ below (va_Ql (po_X8_forecast g f h B P T sc pr ex ps sv rs an cs cr Tr a b v0) (gB g b0 n) (gA b0)) (xX (px_X8_forecast g f h B P T sc pr ex ps sv rs an cs cr Tr a b v0) g b0 n) args s 1 (6 * 1) (gA b0)) (F0 m 54 ls []) := by
          intro k
          induction k with
          | zero =>
            intro i lst fr Pk fL H locs ls hk hi hPk hls hfr9 hlr hfr8 hod hfr hM hL0 hL1 hl
            exact absurd hk (Nat.not_lt_zero _)
          | succ k ih54 =>
            intro i lst fr Pk fL H locs ls hk hi hPk hls hfr9 hlr hfr8 hod hfr hM hL0 hL1 hl
            have hp4 := pOk_P4 hod
            have hp4a := hp4.1
            have hp4b := hp4.2
            refine lv_iload hx hb dX8_forecast_54 (lv_at hl 5 rfl) ?_
            refine lv_iload_n hx hb dX8_forecast_56 rfl (lv_at hl 1 rfl) ?_
            refine g_icmp_gt (tgt := 118) hx hb dX8_forecast_57 (by decide) ⟨by omega, by omega⟩ hra (fun c57 => ?_) (fun c57 => ?_)
            · skip
              refine lv_iload_n hx hb dX8_forecast_118 rfl (lv_at hl 2 rfl) ?_
              have hz119 := zI_toInt (z := b) hrb
              rcases (show b = 8 ∨ b = 9 ∨ (b ≠ 8 ∧ b ≠ 9) by omega) with c119 | c119 | c119
              · refine lv_lookup (off := 25) (tgt := 144) hx hb dX8_forecast_119 (by decide) (by rw [hz119, c119]; decide) (by decide) ?_
                refine lv_lload_n hx hb dX8_forecast_144 rfl (lv_at hl 3 rfl) ?_
                refine gx_lret hx hb hr hlk hK hM dX8_forecast_145 (by decide) (by decide) ?_
                refine ⟨⟨by omega, by omega⟩, ?_, ⟨_, hL1⟩, (fun q hq => (hfr (q) (by omega)))⟩
                have hia : i = a.toNat := by omega
                unfold fcV
                rw [if_neg (by omega), if_pos (by omega), ← hia, hls]
              · refine lv_lookup (off := 27) (tgt := 146) hx hb dX8_forecast_119 (by decide) (by rw [hz119, c119]; decide) (by decide) ?_
                refine lv_iload hx hb dX8_forecast_146 (lv_at hl 4 rfl) ?_
                refine g_i2l hx hb dX8_forecast_148 ⟨by omega, by omega⟩ ?_
                refine gx_lret hx hb hr hlk hK hM dX8_forecast_149 (by decide) (by decide) ?_
                refine ⟨⟨by omega, by omega⟩, ?_, ⟨_, hL1⟩, (fun q hq => (hfr (q) (by omega)))⟩
                have hia : i = a.toNat := by omega
                unfold fcV
                rw [if_neg (by omega), if_neg (by omega), ← hia, ← hfr9]
              · skip
                refine lv_lookup (off := 31) (tgt := 150) hx hb dX8_forecast_119 (by decide) ((lv_osw (k := zI 8) (by rw [zI_eq hrb (by decide)]; omega) (by decide)).trans ((lv_osw (k := zI 9) (by rw [zI_eq hrb (by decide)]; omega) (by decide)).trans rfl)) (by decide) ?_
                refine lv_aload_n hx hb dX8_forecast_150 rfl (lv_at hl 0 rfl) ?_
                refine g_get (ci := 10) (v := .ref (h + 581)) (C := RX8) (T := TX8) (N := 9) hx hb hts iU_X8 hown hK hM ⟨by omega, by omega⟩ hL0 rfl 2 (by decide) (hts _ u_277) (fun _ h9 => h9) rfl dX8_forecast_151 ?_
                refine lv_iload_n hx hb dX8_forecast_154 rfl (lv_at hl 2 rfl) ?_
                have hbe : ((b.toNat : Nat) : Int) = b := by omega
                have hq40 := c_X5_numberOf l g b0 n fL (h + 581) Pk b.toNat hL1 ⟨by omega, by omega⟩ hod.1.1 hod.2.1.1 hod.2.2.1.1 hod.2.2.2.2.2.2.2.1 (by omega) (by have := pOk_P1 hod; exact ⟨by omega, by omega⟩) (by have := pOk_P4 hod; exact ⟨by omega, by omega⟩)
                rw [hbe] at hq40
                have hC41 := hq40
                obtain ⟨ho44, ho45, ho46, ho47, ho48⟩ := id hL1
                refine g_callVl (ci := 7) (C := RX5) (T := TX5) (N := 11) (As := [.int (zI b)]) (rest := []) ⟨hx, hb, hml, hown, hts⟩ hK hM hC41 (cuV (n := 1) hts u_894 u_891 u_4 (by decide) u_892 u_893 ⟨Nat.le_of_ble_eq_true rfl, Nat.le_of_ble_eq_true rfl⟩) ⟨by omega, by omega⟩ ho44 rfl rfl hl.1 rfl (Nat.le_of_ble_eq_true rfl) dX8_forecast_155 ⟨Nat.le_of_ble_eq_true rfl, Nat.le_of_ble_eq_true rfl⟩ (fun r155 f42 H locs hM hp43 => ?_)
                obtain ⟨rfl, rfl⟩ := hp43
                refine gx_lret hx hb hr hlk hK hM dX8_forecast_158 (by decide) (by decide) ?_
                refine ⟨⟨by omega, by omega⟩, ?_, ⟨_, hL1⟩, (fun q hq => (hfr (q) (by omega)))⟩
                have hia : i = a.toNat := by omega
                unfold fcV
                rw [if_pos (by omega), fc_P, ← hia, ← hPk]
            · skip
              refine lv_aload_n hx hb dX8_forecast_60 rfl (lv_at hl 0 rfl) ?_
              refine g_get (ci := 10) (v := .ref (h + 581)) (C := RX8) (T := TX8) (N := 9) hx hb hts iU_X8 hown hK hM ⟨by omega, by omega⟩ hL0 rfl 2 (by decide) (hts _ u_277) (fun _ h9 => h9) rfl dX8_forecast_61 ?_
              refine g_iconst hx hb dX8_forecast_64 ?_
              have hq49 := c_X5_passDays l g b0 n fL (h + 581) Pk 1 (v0 + 9 * i) hL1 ⟨by omega, by omega⟩ hod (by omega) (by omega)
              rw [show ((1 : Nat) : Int) = 1 from rfl] at hq49
              have hC50 := hq49
              obtain ⟨ho53, ho54, ho55, ho56, ho57⟩ := id hL1
              refine g_callVi (ci := 7) (C := RX5) (T := TX5) (N := 11) (As := [.int (zI 1)]) (rest := []) ⟨hx, hb, hml, hown, hts⟩ hK hM hC50 (cuV (n := 1) hts u_479 u_930 u_4 (by decide) u_477 u_478 ⟨Nat.le_of_ble_eq_true rfl, Nat.le_of_ble_eq_true rfl⟩) ⟨by omega, by omega⟩ ho53 rfl rfl hl.1 rfl (Nat.le_of_ble_eq_true rfl) dX8_forecast_65 ⟨Nat.le_of_ble_eq_true rfl, Nat.le_of_ble_eq_true rfl⟩ (fun r65 f51 H locs hM hp52 => ?_)
              obtain ⟨hr958, hn59, o60⟩ := hp52
              have hr958 : r65 = zI (sDay Pk 4 - Pk 4) := hr958
              subst hr958
              have hn59 : planAt g f51 (h + 581) (sDay Pk) := hn59
              have hod1 : pOk (sDay Pk) ((v0 + 9 * i) + 9) := (pOk_day hod (by omega)).1
              have hq4 := pOk_P4 hod1
              have hq4a := hq4.1
              have hq4b := hq4.2
              have hqp := pOk_pool hod1 (by omega)
              have hqpa := hqp.1
              have hqpb := hqp.2
              have hmn4 := day4 hod (by omega)
              refine lv_istore (lv' := [(7, .int (zI (sDay Pk 4 - Pk 4))), (0, .ref h), (1, .int (zI a)), (2, .int (zI b)), (3, .long (zL lst)), (5, .int (zI fr)), (6, .int (zI ((↑i : Int) + 1)))]) hx hb dX8_forecast_68 hl (by decide) rfl (fun ls hl => ?_)
              refine lv_iload hx hb dX8_forecast_70 (lv_at hl 6 rfl) ?_
              refine g_iconst hx hb dX8_forecast_72 ?_
              refine g_icmp_ne (tgt := 86) hx hb dX8_forecast_73 (by decide) ⟨by omega, by omega⟩ (by decide) (fun c73 => ?_) (fun c73 => ?_)
              · skip
                refine lv_lload_n hx hb dX8_forecast_86 rfl (lv_at hl 4 rfl) ?_
                refine lv_aload_n hx hb dX8_forecast_87 rfl (lv_at hl 1 rfl) ?_
                have hf61 : f51 (h) = .inr (10, [.ref (h + 1), .ref (h + 291), .ref (h + 581), .ref (h + 604), .int (zI sv), .int (zI rs), .int (zI an), .int (zI cs), .int (zI cr)]) := (o60 (h) (by omega)).trans hL0
                refine g_get (ci := 10) (v := .ref (h + 581)) (C := RX8) (T := TX8) (N := 9) hx hb hts iU_X8 hown hK hM ⟨by omega, by omega⟩ hf61 rfl 2 (by decide) (hts _ u_277) (fun _ h9 => h9) rfl dX8_forecast_88 ?_
                obtain ⟨ho62, ho63, ho64, ho65, ho66⟩ := id hn59
                refine g_getN (ci := 7) (v := .long (zL ((sDay Pk) 0))) (C := RX5) (T := TX5) (N := 11) hx hb hts iU_X5 hown hK hM ⟨by omega, by omega⟩ ho62 rfl 4 (by decide) (hts _ u_173) (fun _ h9 => h9) rfl dX8_forecast_91 ?_
                refine g_lmin hx hb (hml.trans hl.1.symm) hown (hts _ u_931) hts (Nat.le_of_ble_eq_true rfl) (Nat.le_of_ble_eq_true rfl) (Nat.le_of_ble_eq_true rfl) (Nat.le_of_ble_eq_true rfl) hlr ⟨by omega, by omega⟩ dX8_forecast_94 ?_
                refine lv_lstore_n (lv' := [(3, .long (zL (min lst ((sDay Pk) 0)))), (7, .int (zI (sDay Pk 4 - Pk 4))), (0, .ref h), (1, .int (zI a)), (2, .int (zI b)), (5, .int (zI fr)), (6, .int (zI ((↑i : Int) + 1)))]) hx hb dX8_forecast_97 rfl hl (by decide) rfl (fun ls hl => ?_)
                refine lv_iload hx hb dX8_forecast_98 (lv_at hl 1 rfl) ?_
                refine g_if_le (tgt := 112) hx hb dX8_forecast_100 (by decide) ⟨by omega, by omega⟩ (fun c100 => ?_) (fun c100 => ?_)
                · skip
                  refine lv_iinc (v := zI (((↑i : Int) + 1) + 1)) (lv' := [(6, .int (zI (((↑i : Int) + 1) + 1))), (3, .long (zL (min lst ((sDay Pk) 0)))), (7, .int (zI (sDay Pk 4 - Pk 4))), (0, .ref h), (1, .int (zI a)), (2, .int (zI b)), (5, .int (zI fr))]) hx hb dX8_forecast_112 hl (k := 6) rfl (zI_add _ _) (by decide) rfl (fun ls hl => ?_)
                  refine lv_goto (tgt := 54) hx hb dX8_forecast_115 (by decide) ?_
                  exact ih54 (i + 1) (min lst ((sDay Pk) 0)) fr (sDay Pk) f51 _ _ _ (by omega) (by omega) (by rw [hPk]; rfl) (by rw [fc_succ]; unfold fcT; dsimp only; rw [fc_P, ← hPk, ← hls]; rw [if_neg (show ¬ i = 0 by omega)]) (by rw [fc_succ]; unfold fcT; dsimp only; rw [fc_P, ← hPk, ← hfr9]; rw [if_neg (show ¬ (fr = 0 ∧ Pk 4 < sDay Pk 4) by omega)]) ⟨by omega, by omega⟩ ⟨by omega, by omega⟩ (pOk_mono hod1 (by omega)) (fun q hq => ((o60 (q) (by omega)).trans (hfr (q) (by omega)))) hM hf61 hn59 (lv_sub hl [3, 4, 5, 1, 6, 0] rfl)
                · skip
                  refine lv_iload hx hb dX8_forecast_103 (lv_at hl 5 rfl) ?_
                  refine g_if_ne (tgt := 112) hx hb dX8_forecast_105 (by decide) ⟨by omega, by omega⟩ (fun c105 => ?_) (fun c105 => ?_)
                  · skip
                    refine lv_iinc (v := zI (((↑i : Int) + 1) + 1)) (lv' := [(6, .int (zI (((↑i : Int) + 1) + 1))), (3, .long (zL (min lst ((sDay Pk) 0)))), (7, .int (zI (sDay Pk 4 - Pk 4))), (0, .ref h), (1, .int (zI a)), (2, .int (zI b)), (5, .int (zI fr))]) hx hb dX8_forecast_112 hl (k := 6) rfl (zI_add _ _) (by decide) rfl (fun ls hl => ?_)
                    refine lv_goto (tgt := 54) hx hb dX8_forecast_115 (by decide) ?_
                    exact ih54 (i + 1) (min lst ((sDay Pk) 0)) fr (sDay Pk) f51 _ _ _ (by omega) (by omega) (by rw [hPk]; rfl) (by rw [fc_succ]; unfold fcT; dsimp only; rw [fc_P, ← hPk, ← hls]; rw [if_neg (show ¬ i = 0 by omega)]) (by rw [fc_succ]; unfold fcT; dsimp only; rw [fc_P, ← hPk, ← hfr9]; rw [if_neg (show ¬ (fr = 0 ∧ Pk 4 < sDay Pk 4) by omega)]) ⟨by omega, by omega⟩ ⟨by omega, by omega⟩ (pOk_mono hod1 (by omega)) (fun q hq => ((o60 (q) (by omega)).trans (hfr (q) (by omega)))) hM hf61 hn59 (lv_sub hl [3, 4, 5, 1, 6, 0] rfl)
                  · skip
                    refine lv_iload hx hb dX8_forecast_108 (lv_at hl 6 rfl) ?_
                    refine lv_istore (lv' := [(5, .int (zI ((↑i : Int) + 1))), (3, .long (zL (min lst ((sDay Pk) 0)))), (7, .int (zI (sDay Pk 4 - Pk 4))), (0, .ref h), (1, .int (zI a)), (2, .int (zI b)), (6, .int (zI ((↑i : Int) + 1)))]) hx hb dX8_forecast_110 hl (by decide) rfl (fun ls hl => ?_)
                    refine lv_iinc (v := zI (((↑i : Int) + 1) + 1)) (lv' := [(6, .int (zI (((↑i : Int) + 1) + 1))), (5, .int (zI ((↑i : Int) + 1))), (3, .long (zL (min lst ((sDay Pk) 0)))), (7, .int (zI (sDay Pk 4 - Pk 4))), (0, .ref h), (1, .int (zI a)), (2, .int (zI b))]) hx hb dX8_forecast_112 hl (k := 6) rfl (zI_add _ _) (by decide) rfl (fun ls hl => ?_)
                    refine lv_goto (tgt := 54) hx hb dX8_forecast_115 (by decide) ?_
                    exact ih54 (i + 1) (min lst ((sDay Pk) 0)) ((↑i : Int) + 1) (sDay Pk) f51 _ _ _ (by omega) (by omega) (by rw [hPk]; rfl) (by rw [fc_succ]; unfold fcT; dsimp only; rw [fc_P, ← hPk, ← hls]; rw [if_neg (show ¬ i = 0 by omega)]) (by rw [fc_succ]; unfold fcT; dsimp only; rw [fc_P, ← hPk, ← hfr9]; rw [if_pos (show fr = 0 ∧ Pk 4 < sDay Pk 4 by omega)]) ⟨by omega, by omega⟩ ⟨by omega, by omega⟩ (pOk_mono hod1 (by omega)) (fun q hq => ((o60 (q) (by omega)).trans (hfr (q) (by omega)))) hM hf61 hn59 (lv_sub hl [4, 5, 6, 2, 1, 0] rfl)
              · skip
                refine lv_aload_n hx hb dX8_forecast_76 rfl (lv_at hl 1 rfl) ?_
                have hf67 : f51 (h) = .inr (10, [.ref (h + 1), .ref (h + 291), .ref (h + 581), .ref (h + 604), .int (zI sv), .int (zI rs), .int (zI an), .int (zI cs), .int (zI cr)]) := (o60 (h) (by omega)).trans hL0
                refine g_get (ci := 10) (v := .ref (h + 581)) (C := RX8) (T := TX8) (N := 9) hx hb hts iU_X8 hown hK hM ⟨by omega, by omega⟩ hf67 rfl 2 (by decide) (hts _ u_277) (fun _ h9 => h9) rfl dX8_forecast_77 ?_
                obtain ⟨ho68, ho69, ho70, ho71, ho72⟩ := id hn59
                refine g_getN (ci := 7) (v := .long (zL ((sDay Pk) 0))) (C := RX5) (T := TX5) (N := 11) hx hb hts iU_X5 hown hK hM ⟨by omega, by omega⟩ ho68 rfl 4 (by decide) (hts _ u_173) (fun _ h9 => h9) rfl dX8_forecast_80 ?_
                refine lv_goto (tgt := 97) hx hb dX8_forecast_83 (by decide) ?_
                refine lv_lstore_n (lv' := [(3, .long (zL ((sDay Pk) 0))), (7, .int (zI (sDay Pk 4 - Pk 4))), (0, .ref h), (1, .int (zI a)), (2, .int (zI b)), (5, .int (zI fr)), (6, .int (zI ((↑i : Int) + 1)))]) hx hb dX8_forecast_97 rfl hl (by decide) rfl (fun ls hl => ?_)
                refine lv_iload hx hb dX8_forecast_98 (lv_at hl 1 rfl) ?_
                refine g_if_le (tgt := 112) hx hb dX8_forecast_100 (by decide) ⟨by omega, by omega⟩ (fun c100 => ?_) (fun c100 => ?_)
                · skip
                  refine lv_iinc (v := zI (((↑i : Int) + 1) + 1)) (lv' := [(6, .int (zI (((↑i : Int) + 1) + 1))), (3, .long (zL ((sDay Pk) 0))), (7, .int (zI (sDay Pk 4 - Pk 4))), (0, .ref h), (1, .int (zI a)), (2, .int (zI b)), (5, .int (zI fr))]) hx hb dX8_forecast_112 hl (k := 6) rfl (zI_add _ _) (by decide) rfl (fun ls hl => ?_)
                  refine lv_goto (tgt := 54) hx hb dX8_forecast_115 (by decide) ?_
                  exact ih54 (i + 1) ((sDay Pk) 0) fr (sDay Pk) f51 _ _ _ (by omega) (by omega) (by rw [hPk]; rfl) (by rw [fc_succ]; unfold fcT; dsimp only; rw [fc_P, ← hPk, ← hls]; rw [if_pos (show i = 0 by omega)]) (by rw [fc_succ]; unfold fcT; dsimp only; rw [fc_P, ← hPk, ← hfr9]; rw [if_neg (show ¬ (fr = 0 ∧ Pk 4 < sDay Pk 4) by omega)]) ⟨by omega, by omega⟩ ⟨by omega, by omega⟩ (pOk_mono hod1 (by omega)) (fun q hq => ((o60 (q) (by omega)).trans (hfr (q) (by omega)))) hM hf67 hn59 (lv_sub hl [3, 4, 5, 1, 6, 0] rfl)
                · skip
                  refine lv_iload hx hb dX8_forecast_103 (lv_at hl 5 rfl) ?_
                  refine g_if_ne (tgt := 112) hx hb dX8_forecast_105 (by decide) ⟨by omega, by omega⟩ (fun c105 => ?_) (fun c105 => ?_)
                  · skip
                    refine lv_iinc (v := zI (((↑i : Int) + 1) + 1)) (lv' := [(6, .int (zI (((↑i : Int) + 1) + 1))), (3, .long (zL ((sDay Pk) 0))), (7, .int (zI (sDay Pk 4 - Pk 4))), (0, .ref h), (1, .int (zI a)), (2, .int (zI b)), (5, .int (zI fr))]) hx hb dX8_forecast_112 hl (k := 6) rfl (zI_add _ _) (by decide) rfl (fun ls hl => ?_)
                    refine lv_goto (tgt := 54) hx hb dX8_forecast_115 (by decide) ?_
                    exact ih54 (i + 1) ((sDay Pk) 0) fr (sDay Pk) f51 _ _ _ (by omega) (by omega) (by rw [hPk]; rfl) (by rw [fc_succ]; unfold fcT; dsimp only; rw [fc_P, ← hPk, ← hls]; rw [if_pos (show i = 0 by omega)]) (by rw [fc_succ]; unfold fcT; dsimp only; rw [fc_P, ← hPk, ← hfr9]; rw [if_neg (show ¬ (fr = 0 ∧ Pk 4 < sDay Pk 4) by omega)]) ⟨by omega, by omega⟩ ⟨by omega, by omega⟩ (pOk_mono hod1 (by omega)) (fun q hq => ((o60 (q) (by omega)).trans (hfr (q) (by omega)))) hM hf67 hn59 (lv_sub hl [3, 4, 5, 1, 6, 0] rfl)
                  · skip
                    refine lv_iload hx hb dX8_forecast_108 (lv_at hl 6 rfl) ?_
                    refine lv_istore (lv' := [(5, .int (zI ((↑i : Int) + 1))), (3, .long (zL ((sDay Pk) 0))), (7, .int (zI (sDay Pk 4 - Pk 4))), (0, .ref h), (1, .int (zI a)), (2, .int (zI b)), (6, .int (zI ((↑i : Int) + 1)))]) hx hb dX8_forecast_110 hl (by decide) rfl (fun ls hl => ?_)
                    refine lv_iinc (v := zI (((↑i : Int) + 1) + 1)) (lv' := [(6, .int (zI (((↑i : Int) + 1) + 1))), (5, .int (zI ((↑i : Int) + 1))), (3, .long (zL ((sDay Pk) 0))), (7, .int (zI (sDay Pk 4 - Pk 4))), (0, .ref h), (1, .int (zI a)), (2, .int (zI b))]) hx hb dX8_forecast_112 hl (k := 6) rfl (zI_add _ _) (by decide) rfl (fun ls hl => ?_)
                    refine lv_goto (tgt := 54) hx hb dX8_forecast_115 (by decide) ?_
                    exact ih54 (i + 1) ((sDay Pk) 0) ((↑i : Int) + 1) (sDay Pk) f51 _ _ _ (by omega) (by omega) (by rw [hPk]; rfl) (by rw [fc_succ]; unfold fcT; dsimp only; rw [fc_P, ← hPk, ← hls]; rw [if_pos (show i = 0 by omega)]) (by rw [fc_succ]; unfold fcT; dsimp only; rw [fc_P, ← hPk, ← hfr9]; rw [if_pos (show fr = 0 ∧ Pk 4 < sDay Pk 4 by omega)]) ⟨by omega, by omega⟩ ⟨by omega, by omega⟩ (pOk_mono hod1 (by omega)) (fun q hq => ((o60 (q) (by omega)).trans (hfr (q) (by omega)))) hM hf67 hn59 (lv_sub hl [4, 5, 6, 2, 1, 0] rfl)
        have hf73 : f31 (h) = .inr (10, [.ref (h + 1), .ref (h + 291), .ref (h + 581), .ref (h + 604), .int (zI sv), .int (zI rs), .int (zI an), .int (zI cs), .int (zI cr)]) := (o39 (h) (by omega)).trans hO
        exact lp54 ((a.toNat + 1)) 0 0 0 (P ps) f31 _ _ _ (by omega) (by omega) rfl rfl rfl (by decide) ⟨by omega, by omega⟩ (pOk_mono hokp (by omega)) (fun q hq => (o39 (q) (by omega))) hM hf73 hn38 (lv_sub hl [3, 4, 5, 2, 1, 0] rfl)
