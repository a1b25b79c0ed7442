theorem lk_r {P : Nat → Int} {k : Nat} (H : lkOk P) (h7 : P 7 ≤ 10) (hk : (k : Int) < P 9) : ∀ j, j < 4 → rI (P (69 + 5 * k + j)) := fun j hj => by
  obtain ⟨a1, a2, a3, a4, a5, a6, a7, a8, a9⟩ := H.2 k hk
  rcases (show j = 0 ∨ j = 1 ∨ j = 2 ∨ j = 3 by omega) with rfl | rfl | rfl | rfl
  · show rI (P (69 + 5 * k)); exact ⟨by omega, by omega⟩
  · rw [show 69 + 5 * k + 1 = 70 + 5 * k by omega]; exact ⟨by omega, by omega⟩
  · rw [show 69 + 5 * k + 2 = 71 + 5 * k by omega]; exact ⟨by omega, by omega⟩
  · rw [show 69 + 5 * k + 3 = 72 + 5 * k by omega]; exact ⟨by omega, by omega⟩
theorem fu_cast {sc : Nat → Nat} {i v : Nat} : fu (fun k => (↑(sc k) : Int)) i ↑v = fun k => (↑(fu sc i v k) : Int) := by
  funext k
  unfold fu
  split <;> rfl

def po_X8_envelope (g : gE) (f : gF) (h : Nat) (B P T : Nat → Nat → Int) (sc : Nat → Nat) (pr ex : Nat → Int) (ps : Nat) (sv rs an cs cr : Int) (a b v0 : Int) : Int64 → gF → Prop := fun r f1 => (0 ≤ a ∧ a < P ps 7) ∧ (0 ≤ b ∧ b ≤ 4) ∧ r = zL (sNumE (P ps) a.toNat b.toNat) ∧ f = f1
def px_X8_envelope (g : gE) (f : gF) (h : Nat) (B P T : Nat → Nat → Int) (sc : Nat → Nat) (pr ex : Nat → Int) (ps : Nat) (sv rs an cs cr : Int) (a b v0 : Int) : String → gF → Prop := fun E f1 => ((E = exN2 ∧ ¬ (0 ≤ a ∧ a < P ps 7)) ∨ (E = exN0 ∧ (0 ≤ a ∧ a < P ps 7) ∧ ¬ (0 ≤ b ∧ b ≤ 4))) ∧ f = f1
set_option maxRecDepth 100000 in
set_option maxHeartbeats 1000000 in
/-- envelope -/
theorem c_X8_envelope (l : Launch) (g : gE) (b0 n : Nat) (f : gF) (h : Nat) (B P T : Nat → Nat → Int) (sc : Nat → Nat) (pr ex : Nat → Int) (ps : Nat) (sv rs an cs cr : Int) (a b v0 : Int) (hl9 : l.stackTraces = false) (hO : obP f h sv rs an cs cr) (hrg : b0 ≤ h ∧ h + 607 ≤ b0 + n) (hS : brsAt g f (h + 1) B P T (fun k => (↑(sc k) : Int)) pr ex (↑ps : Int)) (hex : ∀ k, k < 6 → ex k = 0 ∨ ex k = 1) (hps : ps < 6) (hpx : ex ps = 1) (hok : ∀ k, k < 6 → pOk (P k) v0) (hv1 : 0 ≤ v0) (hv0 : v0 + 1800 ≤ 800000000) (hra : rI a) (hrb : rI b) : cxL l yX8_envelope cX8_envelope 4 (some .long) 7 102 2 [.ref h, .int (zI a), .int (zI b)] g b0 n f (po_X8_envelope g f h B P T sc pr ex ps sv rs an cs cr a b v0) (px_X8_envelope g f h B P T sc pr ex ps sv rs an cs cr a b v0) := by
  refine gs_xl (cc := cX8_envelope) (maxL := 4) (ret := (some .long)) (by decide) (Nat.le_of_ble_eq_true rfl) ?_
  intro p e0 s m args below meth c ls hx hb hr hml hown hts hlk hxt hE hK hM hl
  have hl : lv_has ls 4 [(0, .ref h), (1, .int (zI a)), (2, .int (zI b))] := hl
  have hokp := hok ps hps
  have hcn7 := hokp.1.1
  have hcn8 := hokp.2.1.1
  have hcn9 := hokp.2.2.1.1
  have hcn10 := hokp.2.2.2.2.2.2.2.1
  have hcp7 := hcn7.1
  have hcp8 := hcn8.1
  have hcp9 := hcn9.1
  have hcp10 := hcn10.1
  have hcq7 := hcn7.2
  have hcq8 := hcn8.2
  have hcq9 := hcn9.2
  have hcq10 := hcn10.2
  have hws := pOkL_wfS hokp (by omega)
  refine lv_aload_n hx hb dX8_envelope_0 rfl (lv_at hl 0 rfl) ?_
  refine g_get (ci := 10) (v := .ref (h + 1)) (C := RX8) (T := TX8) (N := 9) hx hb hts iU_X8 hown hK hM ⟨by omega, by omega⟩ hO rfl 0 (by decide) (hts _ u_275) (fun _ h9 => h9) rfl dX8_envelope_1 ?_
  have hC1 := c_X1_here l g b0 n f (h + 1) B P T (fun k => (↑(sc k) : Int)) pr ex ps hS ⟨by omega, by omega⟩ hex hps hpx
  obtain ⟨ho4, ho5, ho6⟩ := id hS
  refine g_callVq (ci := 3) (C := RX1) (T := TX1) (N := 3) (As := []) (rest := []) ⟨hx, hb, hml, hown, hts⟩ hK hM hC1 (cuV (n := 0) hts u_366 u_363 u_2 (by decide) u_364 u_365 ⟨Nat.le_of_ble_eq_true rfl, Nat.le_of_ble_eq_true rfl⟩) ⟨by omega, by omega⟩ ho4 rfl rfl hl.1 rfl (Nat.le_of_ble_eq_true rfl) dX8_envelope_4 ⟨Nat.le_of_ble_eq_true rfl, Nat.le_of_ble_eq_true rfl⟩ (fun r4 f2 H locs hM hp3 => ?_)
  obtain ⟨rfl, rfl⟩ := hp3
  have hbb7 := brB_in (h := h + 1) (k := ps) (by omega)
  have hbr7 := hS.2.2 ps (by omega)
  obtain ⟨ho8, ho9, ho10, ho11⟩ := id hbr7
  refine g_getN (ci := 2) (v := .ref ((brB (h + 1) ps) + 24)) (C := RX0) (T := TX0) (N := 6) hx hb hts iU_X0 hown hK hM ⟨by omega, by omega⟩ ho8 rfl 1 (by decide) (hts _ u_210) (fun _ h9 => h9) rfl dX8_envelope_7 ?_
  obtain ⟨ho12, ho13, ho14, ho15, ho16⟩ := id ho10
  refine g_getN (ci := 7) (v := .ref ((brB (h + 1) ps) + 24 + 1)) (C := RX5) (T := TX5) (N := 11) hx hb hts iU_X5 hown hK hM ⟨by omega, by omega⟩ ho12 rfl 0 (by decide) (hts _ u_165) (fun _ h9 => h9) rfl dX8_envelope_10 ?_
  refine lv_astore_n (lv' := [(3, .ref ((brB (h + 1) ps) + 24 + 1)), (0, .ref h), (1, .int (zI a)), (2, .int (zI b))]) hx hb dX8_envelope_13 rfl hl (by decide) rfl (fun ls hl => ?_)
  refine lv_aload_n hx hb dX8_envelope_14 rfl (lv_at hl 0 rfl) ?_
  refine lv_iload_n hx hb dX8_envelope_15 rfl (lv_at hl 2 rfl) ?_
  have hC17 := c_X2_has l g b0 n f ((brB (h + 1) ps) + 24 + 1) (P ps) a ho13 ⟨by omega, by omega⟩ hcn7 hra
  obtain ⟨ho20, ho21, ho22, ho23, ho24⟩ := id ho13
  refine g_callVi (ci := 4) (C := RX2) (T := TX2) (N := 5) (As := [.int (zI a)]) (rest := []) ⟨hx, hb, hml, hown, hts⟩ hK hM hC17 (cuV (n := 1) hts u_382 u_819 u_5 (by decide) u_380 u_381 ⟨Nat.le_of_ble_eq_true rfl, Nat.le_of_ble_eq_true rfl⟩) ⟨by omega, by omega⟩ ho20 rfl rfl hl.1 rfl (Nat.le_of_ble_eq_true rfl) dX8_envelope_16 ⟨Nat.le_of_ble_eq_true rfl, Nat.le_of_ble_eq_true rfl⟩ (fun r16 f18 H locs hM hp19 => ?_)
  obtain ⟨rfl, rfl⟩ := hp19
  have hC25 := c_X8_requirePart l g b0 n f (0 ≤ a ∧ a < P ps 7) hl9
  refine gx_callSv (As := [.int (bI (0 ≤ a ∧ a < P ps 7))]) (rest := []) ⟨hx, hb, hml, hown, hts⟩ hK hM hE hC25 (cuSx (n := 1) hts u_822 u_820 u_1 (by decide) u_821 ⟨Nat.le_of_ble_eq_true rfl, Nat.le_of_ble_eq_true rfl⟩) rfl hl.1 rfl (Nat.le_of_ble_eq_true rfl) dX8_envelope_19 ⟨(Nat.le_of_ble_eq_true rfl), (Nat.le_of_ble_eq_true rfl)⟩ (fun E9 ce9 q9 f26 H locs hM hp27 h91 h92 h93 => gx_pass hxt hlk hK hM ?_ h91 h92 h93 (by decide) (by decide)) (fun f26 H locs hM hp27 => ?_)
  · skip
    obtain ⟨hE9, hn9, rfl⟩ := hp27
    exact ⟨Or.inl ⟨hE9, hn9⟩, rfl⟩
  · skip
    obtain ⟨hrq28, rfl⟩ := hp27
    refine lv_iload_n hx hb dX8_envelope_22 rfl (lv_at hl 3 rfl) ?_
    refine g_iconst hx hb dX8_envelope_23 ?_
    refine g_iconst hx hb dX8_envelope_24 ?_
    have hC29 := c_X8_isWithin l g b0 n f b 0 4 hrb (by decide) (by decide)
    refine g_callSi (As := [.int (zI b), .int (zI 0), .int (zI 4)]) (rest := []) ⟨hx, hb, hml, hown, hts⟩ hK hM hC29 (cuS (n := 3) hts u_406 u_824 u_1 (by decide) u_405 ⟨Nat.le_of_ble_eq_true rfl, Nat.le_of_ble_eq_true rfl⟩) rfl hl.1 rfl (Nat.le_of_ble_eq_true rfl) dX8_envelope_25 ⟨Nat.le_of_ble_eq_true rfl, Nat.le_of_ble_eq_true rfl⟩ (fun r25 f30 H locs hM hp31 => ?_)
    obtain ⟨rfl, rfl⟩ := hp31
    have hC32 := c_X8_requireRange l g b0 n f (0 ≤ b ∧ b ≤ 4) hl9
    refine gx_callSv (As := [.int (bI (0 ≤ b ∧ b ≤ 4))]) (rest := []) ⟨hx, hb, hml, hown, hts⟩ hK hM hE hC32 (cuSx (n := 1) hts u_827 u_825 u_1 (by decide) u_826 ⟨Nat.le_of_ble_eq_true rfl, Nat.le_of_ble_eq_true rfl⟩) rfl hl.1 rfl (Nat.le_of_ble_eq_true rfl) dX8_envelope_28 ⟨(Nat.le_of_ble_eq_true rfl), (Nat.le_of_ble_eq_true rfl)⟩ (fun E9 ce9 q9 f33 H locs hM hp34 h91 h92 h93 => gx_pass hxt hlk hK hM ?_ h91 h92 h93 (by decide) (by decide)) (fun f33 H locs hM hp34 => ?_)
    · skip
      obtain ⟨hE9, hn9, rfl⟩ := hp34
      exact ⟨Or.inr ⟨hE9, hrq28, hn9⟩, rfl⟩
    · skip
      obtain ⟨hrq35, rfl⟩ := hp34
      refine lv_aload_n hx hb dX8_envelope_31 rfl (lv_at hl 0 rfl) ?_
      refine lv_iload_n hx hb dX8_envelope_32 rfl (lv_at hl 2 rfl) ?_
      refine lv_iload_n hx hb dX8_envelope_33 rfl (lv_at hl 3 rfl) ?_
      have hae : ((a.toNat : Nat) : Int) = a := by omega
      have hbe : ((b.toNat : Nat) : Int) = b := by omega
      have hq36 := c_X2_numberOf l g b0 n f ((brB (h + 1) ps) + 24 + 1) (P ps) a.toNat b.toNat ho13 ⟨by omega, by omega⟩ hcn7 (by omega) (by omega) (pOk_b hokp (by omega) (by omega)).1 (hokp.1.2 a.toNat (by omega)).1 (hokp.1.2 a.toNat (by omega)).2
      rw [hae, hbe] at hq36
      have hC37 := hq36
      refine g_callVl (ci := 4) (C := RX2) (T := TX2) (N := 5) (As := [.int (zI a), .int (zI b)]) (rest := []) ⟨hx, hb, hml, hown, hts⟩ hK hM hC37 (cuV (n := 2) hts u_831 u_828 u_5 (by decide) u_829 u_830 ⟨Nat.le_of_ble_eq_true rfl, Nat.le_of_ble_eq_true rfl⟩) ⟨by omega, by omega⟩ ho20 rfl rfl hl.1 rfl (Nat.le_of_ble_eq_true rfl) dX8_envelope_34 ⟨Nat.le_of_ble_eq_true rfl, Nat.le_of_ble_eq_true rfl⟩ (fun r34 f38 H locs hM hp39 => ?_)
      obtain ⟨rfl, rfl⟩ := hp39
      refine gx_lret hx hb hr hlk hK hM dX8_envelope_37 (by decide) (by decide) ?_
      exact ⟨hrq28, hrq35, rfl, rfl⟩

def po_X8_rule (g : gE) (f : gF) (h : Nat) (B P T : Nat → Nat → Int) (sc : Nat → Nat) (pr ex : Nat → Int) (ps : Nat) (sv rs an cs cr : Int) (a b v0 : Int) : Int32 → gF → Prop := fun r f1 => (0 ≤ a ∧ a < P ps 8) ∧ (0 ≤ b ∧ b ≤ 2) ∧ r = zI (P ps (51 + 3 * a.toNat + b.toNat)) ∧ f = f1
def px_X8_rule (g : gE) (f : gF) (h : Nat) (B P T : Nat → Nat → Int) (sc : Nat → Nat) (pr ex : Nat → Int) (ps : Nat) (sv rs an cs cr : Int) (a b v0 : Int) : String → gF → Prop := fun E f1 => ((E = exN2 ∧ ¬ (0 ≤ a ∧ a < P ps 8)) ∨ (E = exN0 ∧ (0 ≤ a ∧ a < P ps 8) ∧ ¬ (0 ≤ b ∧ b ≤ 2))) ∧ f = f1
set_option maxRecDepth 100000 in
set_option maxHeartbeats 1000000 in
/-- rule -/
theorem c_X8_rule (l : Launch) (g : gE) (b0 n : Nat) (f : gF) (h : Nat) (B P T : Nat → Nat → Int) (sc : Nat → Nat) (pr ex : Nat → Int) (ps : Nat) (sv rs an cs cr : Int) (a b v0 : Int) (hl9 : l.stackTraces = false) (hO : obP f h sv rs an cs cr) (hrg : b0 ≤ h ∧ h + 607 ≤ b0 + n) (hS : brsAt g f (h + 1) B P T (fun k => (↑(sc k) : Int)) pr ex (↑ps : Int)) (hex : ∀ k, k < 6 → ex k = 0 ∨ ex k = 1) (hps : ps < 6) (hpx : ex ps = 1) (hok : ∀ k, k < 6 → pOk (P k) v0) (hv1 : 0 ≤ v0) (hv0 : v0 + 1800 ≤ 800000000) (hra : rI a) (hrb : rI b) : cxI l yX8_rule cX8_rule 4 (some .int) 7 102 2 [.ref h, .int (zI a), .int (zI b)] g b0 n f (po_X8_rule g f h B P T sc pr ex ps sv rs an cs cr a b v0) (px_X8_rule g f h B P T sc pr ex ps sv rs an cs cr a b v0) := by
  refine gs_xi (cc := cX8_rule) (maxL := 4) (ret := (some .int)) (by decide) (Nat.le_of_ble_eq_true rfl) ?_
  intro p e0 s m args below meth c ls hx hb hr hml hown hts hlk hxt hE hK hM hl
  have hl : lv_has ls 4 [(0, .ref h), (1, .int (zI a)), (2, .int (zI b))] := hl
  have hokp := hok ps hps
  have hcn7 := hokp.1.1
  have hcn8 := hokp.2.1.1
  have hcn9 := hokp.2.2.1.1
  have hcn10 := hokp.2.2.2.2.2.2.2.1
  have hcp7 := hcn7.1
  have hcp8 := hcn8.1
  have hcp9 := hcn9.1
  have hcp10 := hcn10.1
  have hcq7 := hcn7.2
  have hcq8 := hcn8.2
  have hcq9 := hcn9.2
  have hcq10 := hcn10.2
  have hws := pOkL_wfS hokp (by omega)
  refine lv_aload_n hx hb dX8_rule_0 rfl (lv_at hl 0 rfl) ?_
  refine g_get (ci := 10) (v := .ref (h + 1)) (C := RX8) (T := TX8) (N := 9) hx hb hts iU_X8 hown hK hM ⟨by omega, by omega⟩ hO rfl 0 (by decide) (hts _ u_275) (fun _ h9 => h9) rfl dX8_rule_1 ?_
  have hC1 := c_X1_here l g b0 n f (h + 1) B P T (fun k => (↑(sc k) : Int)) pr ex ps hS ⟨by omega, by omega⟩ hex hps hpx
  obtain ⟨ho4, ho5, ho6⟩ := id hS
  refine g_callVq (ci := 3) (C := RX1) (T := TX1) (N := 3) (As := []) (rest := []) ⟨hx, hb, hml, hown, hts⟩ hK hM hC1 (cuV (n := 0) hts u_366 u_363 u_2 (by decide) u_364 u_365 ⟨Nat.le_of_ble_eq_true rfl, Nat.le_of_ble_eq_true rfl⟩) ⟨by omega, by omega⟩ ho4 rfl rfl hl.1 rfl (Nat.le_of_ble_eq_true rfl) dX8_rule_4 ⟨Nat.le_of_ble_eq_true rfl, Nat.le_of_ble_eq_true rfl⟩ (fun r4 f2 H locs hM hp3 => ?_)
  obtain ⟨rfl, rfl⟩ := hp3
  have hbb7 := brB_in (h := h + 1) (k := ps) (by omega)
  have hbr7 := hS.2.2 ps (by omega)
  obtain ⟨ho8, ho9, ho10, ho11⟩ := id hbr7
  refine g_getN (ci := 2) (v := .ref ((brB (h + 1) ps) + 24)) (C := RX0) (T := TX0) (N := 6) hx hb hts iU_X0 hown hK hM ⟨by omega, by omega⟩ ho8 rfl 1 (by decide) (hts _ u_210) (fun _ h9 => h9) rfl dX8_rule_7 ?_
  obtain ⟨ho12, ho13, ho14, ho15, ho16⟩ := id ho10
  refine g_getN (ci := 7) (v := .ref ((brB (h + 1) ps) + 24 + 6)) (C := RX5) (T := TX5) (N := 11) hx hb hts iU_X5 hown hK hM ⟨by omega, by omega⟩ ho12 rfl 1 (by decide) (hts _ u_167) (fun _ h9 => h9) rfl dX8_rule_10 ?_
  refine lv_astore_n (lv' := [(3, .ref ((brB (h + 1) ps) + 24 + 6)), (0, .ref h), (1, .int (zI a)), (2, .int (zI b))]) hx hb dX8_rule_13 rfl hl (by decide) rfl (fun ls hl => ?_)
  refine lv_aload_n hx hb dX8_rule_14 rfl (lv_at hl 0 rfl) ?_
  refine lv_iload_n hx hb dX8_rule_15 rfl (lv_at hl 2 rfl) ?_
  have hC17 := c_X7_has l g b0 n f ((brB (h + 1) ps) + 24 + 6) (P ps) a ho14 ⟨by omega, by omega⟩ hcn8 hra
  obtain ⟨ho20, ho21, ho22, ho23⟩ := id ho14
  refine g_callVi (ci := 9) (C := RX7) (T := TX7) (N := 4) (As := [.int (zI a)]) (rest := []) ⟨hx, hb, hml, hown, hts⟩ hK hM hC17 (cuV (n := 1) hts u_386 u_843 u_6 (by decide) u_384 u_385 ⟨Nat.le_of_ble_eq_true rfl, Nat.le_of_ble_eq_true rfl⟩) ⟨by omega, by omega⟩ ho20 rfl rfl hl.1 rfl (Nat.le_of_ble_eq_true rfl) dX8_rule_16 ⟨Nat.le_of_ble_eq_true rfl, Nat.le_of_ble_eq_true rfl⟩ (fun r16 f18 H locs hM hp19 => ?_)
  obtain ⟨rfl, rfl⟩ := hp19
  have hC24 := c_X8_requirePart l g b0 n f (0 ≤ a ∧ a < P ps 8) hl9
  refine gx_callSv (As := [.int (bI (0 ≤ a ∧ a < P ps 8))]) (rest := []) ⟨hx, hb, hml, hown, hts⟩ hK hM hE hC24 (cuSx (n := 1) hts u_822 u_820 u_1 (by decide) u_821 ⟨Nat.le_of_ble_eq_true rfl, Nat.le_of_ble_eq_true rfl⟩) rfl hl.1 rfl (Nat.le_of_ble_eq_true rfl) dX8_rule_19 ⟨(Nat.le_of_ble_eq_true rfl), (Nat.le_of_ble_eq_true rfl)⟩ (fun E9 ce9 q9 f25 H locs hM hp26 h91 h92 h93 => gx_pass hxt hlk hK hM ?_ h91 h92 h93 (by decide) (by decide)) (fun f25 H locs hM hp26 => ?_)
  · skip
    obtain ⟨hE9, hn9, rfl⟩ := hp26
    exact ⟨Or.inl ⟨hE9, hn9⟩, rfl⟩
  · skip
    obtain ⟨hrq27, rfl⟩ := hp26
    refine lv_iload_n hx hb dX8_rule_22 rfl (lv_at hl 3 rfl) ?_
    refine g_iconst hx hb dX8_rule_23 ?_
    refine g_iconst hx hb dX8_rule_24 ?_
    have hC28 := c_X8_isWithin l g b0 n f b 0 2 hrb (by decide) (by decide)
    refine g_callSi (As := [.int (zI b), .int (zI 0), .int (zI 2)]) (rest := []) ⟨hx, hb, hml, hown, hts⟩ hK hM hC28 (cuS (n := 3) hts u_406 u_824 u_1 (by decide) u_405 ⟨Nat.le_of_ble_eq_true rfl, Nat.le_of_ble_eq_true rfl⟩) rfl hl.1 rfl (Nat.le_of_ble_eq_true rfl) dX8_rule_25 ⟨Nat.le_of_ble_eq_true rfl, Nat.le_of_ble_eq_true rfl⟩ (fun r25 f29 H locs hM hp30 => ?_)
    obtain ⟨rfl, rfl⟩ := hp30
    have hC31 := c_X8_requireRange l g b0 n f (0 ≤ b ∧ b ≤ 2) hl9
    refine gx_callSv (As := [.int (bI (0 ≤ b ∧ b ≤ 2))]) (rest := []) ⟨hx, hb, hml, hown, hts⟩ hK hM hE hC31 (cuSx (n := 1) hts u_827 u_825 u_1 (by decide) u_826 ⟨Nat.le_of_ble_eq_true rfl, Nat.le_of_ble_eq_true rfl⟩) rfl hl.1 rfl (Nat.le_of_ble_eq_true rfl) dX8_rule_28 ⟨(Nat.le_of_ble_eq_true rfl), (Nat.le_of_ble_eq_true rfl)⟩ (fun E9 ce9 q9 f32 H locs hM hp33 h91 h92 h93 => gx_pass hxt hlk hK hM ?_ h91 h92 h93 (by decide) (by decide)) (fun f32 H locs hM hp33 => ?_)
    · skip
      obtain ⟨hE9, hn9, rfl⟩ := hp33
      exact ⟨Or.inr ⟨hE9, hrq27, hn9⟩, rfl⟩
    · skip
      obtain ⟨hrq34, rfl⟩ := hp33
      refine lv_aload_n hx hb dX8_rule_31 rfl (lv_at hl 0 rfl) ?_
      refine lv_iload_n hx hb dX8_rule_32 rfl (lv_at hl 2 rfl) ?_
      refine lv_iload_n hx hb dX8_rule_33 rfl (lv_at hl 3 rfl) ?_
      have hae : ((a.toNat : Nat) : Int) = a := by omega
      have hbe : ((b.toNat : Nat) : Int) = b := by omega
      have hq35 := c_X7_numberOf l g b0 n f ((brB (h + 1) ps) + 24 + 6) (P ps) a.toNat b.toNat ho14 ⟨by omega, by omega⟩ hcn8 (by omega) (by omega)
      rw [hae, hbe] at hq35
      have hC36 := hq35
      refine g_callVi (ci := 9) (C := RX7) (T := TX7) (N := 4) (As := [.int (zI a), .int (zI b)]) (rest := []) ⟨hx, hb, hml, hown, hts⟩ hK hM hC36 (cuV (n := 2) hts u_847 u_844 u_6 (by decide) u_845 u_846 ⟨Nat.le_of_ble_eq_true rfl, Nat.le_of_ble_eq_true rfl⟩) ⟨by omega, by omega⟩ ho20 rfl rfl hl.1 rfl (Nat.le_of_ble_eq_true rfl) dX8_rule_34 ⟨Nat.le_of_ble_eq_true rfl, Nat.le_of_ble_eq_true rfl⟩ (fun r34 f37 H locs hM hp38 => ?_)
      obtain ⟨rfl, rfl⟩ := hp38
      refine gx_iret hx hb hr hlk hK hM dX8_rule_37 (by decide) (by decide) ?_
      exact ⟨hrq27, hrq34, rfl, rfl⟩

def po_X8_link (g : gE) (f : gF) (h : Nat) (B P T : Nat → Nat → Int) (sc : Nat → Nat) (pr ex : Nat → Int) (ps : Nat) (sv rs an cs cr : Int) (a b v0 : Int) : Int64 → gF → Prop := fun r f1 => (0 ≤ a ∧ a < P ps 9) ∧ (0 ≤ b ∧ b ≤ 4) ∧ r = zL (P ps (69 + 5 * a.toNat + b.toNat)) ∧ f = f1
def px_X8_link (g : gE) (f : gF) (h : Nat) (B P T : Nat → Nat → Int) (sc : Nat → Nat) (pr ex : Nat → Int) (ps : Nat) (sv rs an cs cr : Int) (a b v0 : Int) : String → gF → Prop := fun E f1 => ((E = exN2 ∧ ¬ (0 ≤ a ∧ a < P ps 9)) ∨ (E = exN0 ∧ (0 ≤ a ∧ a < P ps 9) ∧ ¬ (0 ≤ b ∧ b ≤ 4))) ∧ f = f1
set_option maxRecDepth 100000 in
set_option maxHeartbeats 1000000 in
/-- link -/
theorem c_X8_link (l : Launch) (g : gE) (b0 n : Nat) (f : gF) (h : Nat) (B P T : Nat → Nat → Int) (sc : Nat → Nat) (pr ex : Nat → Int) (ps : Nat) (sv rs an cs cr : Int) (a b v0 : Int) (hl9 : l.stackTraces = false) (hO : obP f h sv rs an cs cr) (hrg : b0 ≤ h ∧ h + 607 ≤ b0 + n) (hS : brsAt g f (h + 1) B P T (fun k => (↑(sc k) : Int)) pr ex (↑ps : Int)) (hex : ∀ k, k < 6 → ex k = 0 ∨ ex k = 1) (hps : ps < 6) (hpx : ex ps = 1) (hok : ∀ k, k < 6 → pOk (P k) v0) (hv1 : 0 ≤ v0) (hv0 : v0 + 1800 ≤ 800000000) (hra : rI a) (hrb : rI b) : cxL l yX8_link cX8_link 4 (some .long) 7 102 2 [.ref h, .int (zI a), .int (zI b)] g b0 n f (po_X8_link g f h B P T sc pr ex ps sv rs an cs cr a b v0) (px_X8_link g f h B P T sc pr ex ps sv rs an cs cr a b v0) := by
  refine gs_xl (cc := cX8_link) (maxL := 4) (ret := (some .long)) (by decide) (Nat.le_of_ble_eq_true rfl) ?_
  intro p e0 s m args below meth c ls hx hb hr hml hown hts hlk hxt hE hK hM hl
  have hl : lv_has ls 4 [(0, .ref h), (1, .int (zI a)), (2, .int (zI b))] := hl
  have hokp := hok ps hps
  have hcn7 := hokp.1.1
  have hcn8 := hokp.2.1.1
  have hcn9 := hokp.2.2.1.1
  have hcn10 := hokp.2.2.2.2.2.2.2.1
  have hcp7 := hcn7.1
  have hcp8 := hcn8.1
  have hcp9 := hcn9.1
  have hcp10 := hcn10.1
  have hcq7 := hcn7.2
  have hcq8 := hcn8.2
  have hcq9 := hcn9.2
  have hcq10 := hcn10.2
  have hws := pOkL_wfS hokp (by omega)
  refine lv_aload_n hx hb dX8_link_0 rfl (lv_at hl 0 rfl) ?_
  refine g_get (ci := 10) (v := .ref (h + 1)) (C := RX8) (T := TX8) (N := 9) hx hb hts iU_X8 hown hK hM ⟨by omega, by omega⟩ hO rfl 0 (by decide) (hts _ u_275) (fun _ h9 => h9) rfl dX8_link_1 ?_
  have hC1 := c_X1_here l g b0 n f (h + 1) B P T (fun k => (↑(sc k) : Int)) pr ex ps hS ⟨by omega, by omega⟩ hex hps hpx
  obtain ⟨ho4, ho5, ho6⟩ := id hS
  refine g_callVq (ci := 3) (C := RX1) (T := TX1) (N := 3) (As := []) (rest := []) ⟨hx, hb, hml, hown, hts⟩ hK hM hC1 (cuV (n := 0) hts u_366 u_363 u_2 (by decide) u_364 u_365 ⟨Nat.le_of_ble_eq_true rfl, Nat.le_of_ble_eq_true rfl⟩) ⟨by omega, by omega⟩ ho4 rfl rfl hl.1 rfl (Nat.le_of_ble_eq_true rfl) dX8_link_4 ⟨Nat.le_of_ble_eq_true rfl, Nat.le_of_ble_eq_true rfl⟩ (fun r4 f2 H locs hM hp3 => ?_)
  obtain ⟨rfl, rfl⟩ := hp3
  have hbb7 := brB_in (h := h + 1) (k := ps) (by omega)
  have hbr7 := hS.2.2 ps (by omega)
  obtain ⟨ho8, ho9, ho10, ho11⟩ := id hbr7
  refine g_getN (ci := 2) (v := .ref ((brB (h + 1) ps) + 24)) (C := RX0) (T := TX0) (N := 6) hx hb hts iU_X0 hown hK hM ⟨by omega, by omega⟩ ho8 rfl 1 (by decide) (hts _ u_210) (fun _ h9 => h9) rfl dX8_link_7 ?_
  obtain ⟨ho12, ho13, ho14, ho15, ho16⟩ := id ho10
  refine g_getN (ci := 7) (v := .ref ((brB (h + 1) ps) + 24 + 10)) (C := RX5) (T := TX5) (N := 11) hx hb hts iU_X5 hown hK hM ⟨by omega, by omega⟩ ho12 rfl 2 (by decide) (hts _ u_169) (fun _ h9 => h9) rfl dX8_link_10 ?_
  refine lv_astore_n (lv' := [(3, .ref ((brB (h + 1) ps) + 24 + 10)), (0, .ref h), (1, .int (zI a)), (2, .int (zI b))]) hx hb dX8_link_13 rfl hl (by decide) rfl (fun ls hl => ?_)
  refine lv_aload_n hx hb dX8_link_14 rfl (lv_at hl 0 rfl) ?_
  refine lv_iload_n hx hb dX8_link_15 rfl (lv_at hl 2 rfl) ?_
  have hC17 := c_X4_has l g b0 n f ((brB (h + 1) ps) + 24 + 10) (P ps) a ho15 ⟨by omega, by omega⟩ hcn9 hra
  obtain ⟨ho20, ho21, ho22, ho23, ho24, ho25⟩ := id ho15
  refine g_callVi (ci := 6) (C := RX4) (T := TX4) (N := 6) (As := [.int (zI a)]) (rest := []) ⟨hx, hb, hml, hown, hts⟩ hK hM hC17 (cuV (n := 1) hts u_390 u_867 u_7 (by decide) u_388 u_389 ⟨Nat.le_of_ble_eq_true rfl, Nat.le_of_ble_eq_true rfl⟩) ⟨by omega, by omega⟩ ho20 rfl rfl hl.1 rfl (Nat.le_of_ble_eq_true rfl) dX8_link_16 ⟨Nat.le_of_ble_eq_true rfl, Nat.le_of_ble_eq_true rfl⟩ (fun r16 f18 H locs hM hp19 => ?_)
  obtain ⟨rfl, rfl⟩ := hp19
  have hC26 := c_X8_requirePart l g b0 n f (0 ≤ a ∧ a < P ps 9) hl9
  refine gx_callSv (As := [.int (bI (0 ≤ a ∧ a < P ps 9))]) (rest := []) ⟨hx, hb, hml, hown, hts⟩ hK hM hE hC26 (cuSx (n := 1) hts u_822 u_820 u_1 (by decide) u_821 ⟨Nat.le_of_ble_eq_true rfl, Nat.le_of_ble_eq_true rfl⟩) rfl hl.1 rfl (Nat.le_of_ble_eq_true rfl) dX8_link_19 ⟨(Nat.le_of_ble_eq_true rfl), (Nat.le_of_ble_eq_true rfl)⟩ (fun E9 ce9 q9 f27 H locs hM hp28 h91 h92 h93 => gx_pass hxt hlk hK hM ?_ h91 h92 h93 (by decide) (by decide)) (fun f27 H locs hM hp28 => ?_)
  · skip
    obtain ⟨hE9, hn9, rfl⟩ := hp28
    exact ⟨Or.inl ⟨hE9, hn9⟩, rfl⟩
  · skip
    obtain ⟨hrq29, rfl⟩ := hp28
    refine lv_iload_n hx hb dX8_link_22 rfl (lv_at hl 3 rfl) ?_
    refine g_iconst hx hb dX8_link_23 ?_
    refine g_iconst hx hb dX8_link_24 ?_
    have hC30 := c_X8_isWithin l g b0 n f b 0 4 hrb (by decide) (by decide)
    refine g_callSi (As := [.int (zI b), .int (zI 0), .int (zI 4)]) (rest := []) ⟨hx, hb, hml, hown, hts⟩ hK hM hC30 (cuS (n := 3) hts u_406 u_824 u_1 (by decide) u_405 ⟨Nat.le_of_ble_eq_true rfl, Nat.le_of_ble_eq_true rfl⟩) rfl hl.1 rfl (Nat.le_of_ble_eq_true rfl) dX8_link_25 ⟨Nat.le_of_ble_eq_true rfl, Nat.le_of_ble_eq_true rfl⟩ (fun r25 f31 H locs hM hp32 => ?_)
    obtain ⟨rfl, rfl⟩ := hp32
    have hC33 := c_X8_requireRange l g b0 n f (0 ≤ b ∧ b ≤ 4) hl9
    refine gx_callSv (As := [.int (bI (0 ≤ b ∧ b ≤ 4))]) (rest := []) ⟨hx, hb, hml, hown, hts⟩ hK hM hE hC33 (cuSx (n := 1) hts u_827 u_825 u_1 (by decide) u_826 ⟨Nat.le_of_ble_eq_true rfl, Nat.le_of_ble_eq_true rfl⟩) rfl hl.1 rfl (Nat.le_of_ble_eq_true rfl) dX8_link_28 ⟨(Nat.le_of_ble_eq_true rfl), (Nat.le_of_ble_eq_true rfl)⟩ (fun E9 ce9 q9 f34 H locs hM hp35 h91 h92 h93 => gx_pass hxt hlk hK hM ?_ h91 h92 h93 (by decide) (by decide)) (fun f34 H locs hM hp35 => ?_)
    · skip
      obtain ⟨hE9, hn9, rfl⟩ := hp35
      exact ⟨Or.inr ⟨hE9, hrq29, hn9⟩, rfl⟩
    · skip
      obtain ⟨hrq36, rfl⟩ := hp35
      refine lv_aload_n hx hb dX8_link_31 rfl (lv_at hl 0 rfl) ?_
      refine lv_iload_n hx hb dX8_link_32 rfl (lv_at hl 2 rfl) ?_
      refine lv_iload_n hx hb dX8_link_33 rfl (lv_at hl 3 rfl) ?_
      have hae : ((a.toNat : Nat) : Int) = a := by omega
      have hbe : ((b.toNat : Nat) : Int) = b := by omega
      have hq37 := c_X4_numberOf l g b0 n f ((brB (h + 1) ps) + 24 + 10) (P ps) a.toNat b.toNat ho15 ⟨by omega, by omega⟩ hcn9 (by omega) (by omega) (lk_r hokp.2.2.1 hokp.1.1.2 (by omega))
      rw [hae, hbe] at hq37
      have hC38 := hq37
      refine g_callVl (ci := 6) (C := RX4) (T := TX4) (N := 6) (As := [.int (zI a), .int (zI b)]) (rest := []) ⟨hx, hb, hml, hown, hts⟩ hK hM hC38 (cuV (n := 2) hts u_871 u_868 u_7 (by decide) u_869 u_870 ⟨Nat.le_of_ble_eq_true rfl, Nat.le_of_ble_eq_true rfl⟩) ⟨by omega, by omega⟩ ho20 rfl rfl hl.1 rfl (Nat.le_of_ble_eq_true rfl) dX8_link_34 ⟨Nat.le_of_ble_eq_true rfl, Nat.le_of_ble_eq_true rfl⟩ (fun r34 f39 H locs hM hp40 => ?_)
      obtain ⟨rfl, rfl⟩ := hp40
      refine gx_lret hx hb hr hlk hK hM dX8_link_37 (by decide) (by decide) ?_
      exact ⟨hrq29, hrq36, rfl, rfl⟩

def po_X8_item (g : gE) (f : gF) (h : Nat) (B P T : Nat → Nat → Int) (sc : Nat → Nat) (pr ex : Nat → Int) (ps : Nat) (sv rs an cs cr : Int) (a b v0 : Int) : Int32 → gF → Prop := fun r f1 => (0 ≤ a ∧ a < P ps 10) ∧ (0 ≤ b ∧ b ≤ 5) ∧ r = zI (P ps (99 + 6 * a.toNat + b.toNat)) ∧ f = f1
def px_X8_item (g : gE) (f : gF) (h : Nat) (B P T : Nat → Nat → Int) (sc : Nat → Nat) (pr ex : Nat → Int) (ps : Nat) (sv rs an cs cr : Int) (a b v0 : Int) : String → gF → Prop := fun E f1 => ((E = exN2 ∧ ¬ (0 ≤ a ∧ a < P ps 10)) ∨ (E = exN0 ∧ (0 ≤ a ∧ a < P ps 10) ∧ ¬ (0 ≤ b ∧ b ≤ 5))) ∧ f = f1
set_option maxRecDepth 100000 in
set_option maxHeartbeats 1000000 in
/-- item -/
theorem c_X8_item (l : Launch) (g : gE) (b0 n : Nat) (f : gF) (h : Nat) (B P T : Nat → Nat → Int) (sc : Nat → Nat) (pr ex : Nat → Int) (ps : Nat) (sv rs an cs cr : Int) (a b v0 : Int) (hl9 : l.stackTraces = false) (hO : obP f h sv rs an cs cr) (hrg : b0 ≤ h ∧ h + 607 ≤ b0 + n) (hS : brsAt g f (h + 1) B P T (fun k => (↑(sc k) : Int)) pr ex (↑ps : Int)) (hex : ∀ k, k < 6 → ex k = 0 ∨ ex k = 1) (hps : ps < 6) (hpx : ex ps = 1) (hok : ∀ k, k < 6 → pOk (P k) v0) (hv1 : 0 ≤ v0) (hv0 : v0 + 1800 ≤ 800000000) (hra : rI a) (hrb : rI b) : cxI l yX8_item cX8_item 4 (some .int) 7 102 2 [.ref h, .int (zI a), .int (zI b)] g b0 n f (po_X8_item g f h B P T sc pr ex ps sv rs an cs cr a b v0) (px_X8_item g f h B P T sc pr ex ps sv rs an cs cr a b v0) := by
  refine gs_xi (cc := cX8_item) (maxL := 4) (ret := (some .int)) (by decide) (Nat.le_of_ble_eq_true rfl) ?_
  intro p e0 s m args below meth c ls hx hb hr hml hown hts hlk hxt hE hK hM hl
  have hl : lv_has ls 4 [(0, .ref h), (1, .int (zI a)), (2, .int (zI b))] := hl
  have hokp := hok ps hps
  have hcn7 := hokp.1.1
  have hcn8 := hokp.2.1.1
  have hcn9 := hokp.2.2.1.1
  have hcn10 := hokp.2.2.2.2.2.2.2.1
  have hcp7 := hcn7.1
  have hcp8 := hcn8.1
  have hcp9 := hcn9.1
  have hcp10 := hcn10.1
  have hcq7 := hcn7.2
  have hcq8 := hcn8.2
  have hcq9 := hcn9.2
  have hcq10 := hcn10.2
  have hws := pOkL_wfS hokp (by omega)
  refine lv_aload_n hx hb dX8_item_0 rfl (lv_at hl 0 rfl) ?_
  refine g_get (ci := 10) (v := .ref (h + 1)) (C := RX8) (T := TX8) (N := 9) hx hb hts iU_X8 hown hK hM ⟨by omega, by omega⟩ hO rfl 0 (by decide) (hts _ u_275) (fun _ h9 => h9) rfl dX8_item_1 ?_
  have hC1 := c_X1_here l g b0 n f (h + 1) B P T (fun k => (↑(sc k) : Int)) pr ex ps hS ⟨by omega, by omega⟩ hex hps hpx
  obtain ⟨ho4, ho5, ho6⟩ := id hS
  refine g_callVq (ci := 3) (C := RX1) (T := TX1) (N := 3) (As := []) (rest := []) ⟨hx, hb, hml, hown, hts⟩ hK hM hC1 (cuV (n := 0) hts u_366 u_363 u_2 (by decide) u_364 u_365 ⟨Nat.le_of_ble_eq_true rfl, Nat.le_of_ble_eq_true rfl⟩) ⟨by omega, by omega⟩ ho4 rfl rfl hl.1 rfl (Nat.le_of_ble_eq_true rfl) dX8_item_4 ⟨Nat.le_of_ble_eq_true rfl, Nat.le_of_ble_eq_true rfl⟩ (fun r4 f2 H locs hM hp3 => ?_)
  obtain ⟨rfl, rfl⟩ := hp3
  have hbb7 := brB_in (h := h + 1) (k := ps) (by omega)
  have hbr7 := hS.2.2 ps (by omega)
  obtain ⟨ho8, ho9, ho10, ho11⟩ := id hbr7
  refine g_getN (ci := 2) (v := .ref ((brB (h + 1) ps) + 24)) (C := RX0) (T := TX0) (N := 6) hx hb hts iU_X0 hown hK hM ⟨by omega, by omega⟩ ho8 rfl 1 (by decide) (hts _ u_210) (fun _ h9 => h9) rfl dX8_item_7 ?_
  obtain ⟨ho12, ho13, ho14, ho15, ho16⟩ := id ho10
  refine g_getN (ci := 7) (v := .ref ((brB (h + 1) ps) + 24 + 16)) (C := RX5) (T := TX5) (N := 11) hx hb hts iU_X5 hown hK hM ⟨by omega, by omega⟩ ho12 rfl 3 (by decide) (hts _ u_171) (fun _ h9 => h9) rfl dX8_item_10 ?_
  refine lv_astore_n (lv' := [(3, .ref ((brB (h + 1) ps) + 24 + 16)), (0, .ref h), (1, .int (zI a)), (2, .int (zI b))]) hx hb dX8_item_13 rfl hl (by decide) rfl (fun ls hl => ?_)
  refine lv_aload_n hx hb dX8_item_14 rfl (lv_at hl 0 rfl) ?_
  refine lv_iload_n hx hb dX8_item_15 rfl (lv_at hl 2 rfl) ?_
  have hC17 := c_X3_has l g b0 n f ((brB (h + 1) ps) + 24 + 16) (P ps) a ho16 ⟨by omega, by omega⟩ hcn10 hra
  obtain ⟨ho20, ho21, ho22, ho23, ho24, ho25, ho26⟩ := id ho16
  refine g_callVi (ci := 5) (C := RX3) (T := TX3) (N := 7) (As := [.int (zI a)]) (rest := []) ⟨hx, hb, hml, hown, hts⟩ hK hM hC17 (cuV (n := 1) hts u_394 u_879 u_8 (by decide) u_392 u_393 ⟨Nat.le_of_ble_eq_true rfl, Nat.le_of_ble_eq_true rfl⟩) ⟨by omega, by omega⟩ ho20 rfl rfl hl.1 rfl (Nat.le_of_ble_eq_true rfl) dX8_item_16 ⟨Nat.le_of_ble_eq_true rfl, Nat.le_of_ble_eq_true rfl⟩ (fun r16 f18 H locs hM hp19 => ?_)
  obtain ⟨rfl, rfl⟩ := hp19
  have hC27 := c_X8_requirePart l g b0 n f (0 ≤ a ∧ a < P ps 10) hl9
  refine gx_callSv (As := [.int (bI (0 ≤ a ∧ a < P ps 10))]) (rest := []) ⟨hx, hb, hml, hown, hts⟩ hK hM hE hC27 (cuSx (n := 1) hts u_822 u_820 u_1 (by decide) u_821 ⟨Nat.le_of_ble_eq_true rfl, Nat.le_of_ble_eq_true rfl⟩) rfl hl.1 rfl (Nat.le_of_ble_eq_true rfl) dX8_item_19 ⟨(Nat.le_of_ble_eq_true rfl), (Nat.le_of_ble_eq_true rfl)⟩ (fun E9 ce9 q9 f28 H locs hM hp29 h91 h92 h93 => gx_pass hxt hlk hK hM ?_ h91 h92 h93 (by decide) (by decide)) (fun f28 H locs hM hp29 => ?_)
  · skip
    obtain ⟨hE9, hn9, rfl⟩ := hp29
    exact ⟨Or.inl ⟨hE9, hn9⟩, rfl⟩
  · skip
    obtain ⟨hrq30, rfl⟩ := hp29
    refine lv_iload_n hx hb dX8_item_22 rfl (lv_at hl 3 rfl) ?_
    refine g_iconst hx hb dX8_item_23 ?_
    refine g_iconst hx hb dX8_item_24 ?_
    have hC31 := c_X8_isWithin l g b0 n f b 0 5 hrb (by decide) (by decide)
    refine g_callSi (As := [.int (zI b), .int (zI 0), .int (zI 5)]) (rest := []) ⟨hx, hb, hml, hown, hts⟩ hK hM hC31 (cuS (n := 3) hts u_406 u_824 u_1 (by decide) u_405 ⟨Nat.le_of_ble_eq_true rfl, Nat.le_of_ble_eq_true rfl⟩) rfl hl.1 rfl (Nat.le_of_ble_eq_true rfl) dX8_item_25 ⟨Nat.le_of_ble_eq_true rfl, Nat.le_of_ble_eq_true rfl⟩ (fun r25 f32 H locs hM hp33 => ?_)
    obtain ⟨rfl, rfl⟩ := hp33
    have hC34 := c_X8_requireRange l g b0 n f (0 ≤ b ∧ b ≤ 5) hl9
    refine gx_callSv (As := [.int (bI (0 ≤ b ∧ b ≤ 5))]) (rest := []) ⟨hx, hb, hml, hown, hts⟩ hK hM hE hC34 (cuSx (n := 1) hts u_827 u_825 u_1 (by decide) u_826 ⟨Nat.le_of_ble_eq_true rfl, Nat.le_of_ble_eq_true rfl⟩) rfl hl.1 rfl (Nat.le_of_ble_eq_true rfl) dX8_item_28 ⟨(Nat.le_of_ble_eq_true rfl), (Nat.le_of_ble_eq_true rfl)⟩ (fun E9 ce9 q9 f35 H locs hM hp36 h91 h92 h93 => gx_pass hxt hlk hK hM ?_ h91 h92 h93 (by decide) (by decide)) (fun f35 H locs hM hp36 => ?_)
    · skip
      obtain ⟨hE9, hn9, rfl⟩ := hp36
      exact ⟨Or.inr ⟨hE9, hrq30, hn9⟩, rfl⟩
    · skip
      obtain ⟨hrq37, rfl⟩ := hp36
      refine lv_aload_n hx hb dX8_item_31 rfl (lv_at hl 0 rfl) ?_
      refine lv_iload_n hx hb dX8_item_32 rfl (lv_at hl 2 rfl) ?_
      refine lv_iload_n hx hb dX8_item_33 rfl (lv_at hl 3 rfl) ?_
      have hae : ((a.toNat : Nat) : Int) = a := by omega
      have hbe : ((b.toNat : Nat) : Int) = b := by omega
      have hq38 := c_X3_numberOf l g b0 n f ((brB (h + 1) ps) + 24 + 16) (P ps) a.toNat b.toNat ho16 ⟨by omega, by omega⟩ hcn10 (by omega) (by omega)
      rw [hae, hbe] at hq38
      have hC39 := hq38
      refine g_callVi (ci := 5) (C := RX3) (T := TX3) (N := 7) (As := [.int (zI a), .int (zI b)]) (rest := []) ⟨hx, hb, hml, hown, hts⟩ hK hM hC39 (cuV (n := 2) hts u_883 u_880 u_8 (by decide) u_881 u_882 ⟨Nat.le_of_ble_eq_true rfl, Nat.le_of_ble_eq_true rfl⟩) ⟨by omega, by omega⟩ ho20 rfl rfl hl.1 rfl (Nat.le_of_ble_eq_true rfl) dX8_item_34 ⟨Nat.le_of_ble_eq_true rfl, Nat.le_of_ble_eq_true rfl⟩ (fun r34 f40 H locs hM hp41 => ?_)
      obtain ⟨rfl, rfl⟩ := hp41
      refine gx_iret hx hb hr hlk hK hM dX8_item_37 (by decide) (by decide) ?_
      exact ⟨hrq30, hrq37, rfl, rfl⟩

def po_X8_total (g : gE) (f : gF) (h : Nat) (B P T : Nat → Nat → Int) (sc : Nat → Nat) (pr ex : Nat → Int) (ps : Nat) (sv rs an cs cr : Int) (a v0 : Int) : Int64 → gF → Prop := fun r f1 => (0 ≤ a ∧ a ≤ 11) ∧ r = zL (sTt (P ps) a.toNat) ∧ f = f1
def px_X8_total (g : gE) (f : gF) (h : Nat) (B P T : Nat → Nat → Int) (sc : Nat → Nat) (pr ex : Nat → Int) (ps : Nat) (sv rs an cs cr : Int) (a v0 : Int) : String → gF → Prop := fun E f1 => E = exN0 ∧ ¬ (0 ≤ a ∧ a ≤ 11) ∧ f = f1
set_option maxRecDepth 100000 in
set_option maxHeartbeats 1000000 in
/-- total -/
theorem c_X8_total (l : Launch) (g : gE) (b0 n : Nat) (f : gF) (h : Nat) (B P T : Nat → Nat → Int) (sc : Nat → Nat) (pr ex : Nat → Int) (ps : Nat) (sv rs an cs cr : Int) (a v0 : Int) (hl9 : l.stackTraces = false) (hO : obP f h sv rs an cs cr) (hrg : b0 ≤ h ∧ h + 607 ≤ b0 + n) (hS : brsAt g f (h + 1) B P T (fun k => (↑(sc k) : Int)) pr ex (↑ps : Int)) (hex : ∀ k, k < 6 → ex k = 0 ∨ ex k = 1) (hps : ps < 6) (hpx : ex ps = 1) (hok : ∀ k, k < 6 → pOk (P k) v0) (hv1 : 0 ≤ v0) (hv0 : v0 + 1800 ≤ 800000000) (hra : rI a) : cxL l yX8_total cX8_total 2 (some .long) 7 102 1 [.ref h, .int (zI a)] g b0 n f (po_X8_total g f h B P T sc pr ex ps sv rs an cs cr a v0) (px_X8_total g f h B P T sc pr ex ps sv rs an cs cr a v0) := by
  refine gs_xl (cc := cX8_total) (maxL := 2) (ret := (some .long)) (by decide) (Nat.le_of_ble_eq_true rfl) ?_
  intro p e0 s m args below meth c ls hx hb hr hml hown hts hlk hxt hE hK hM hl
  have hl : lv_has ls 2 [(0, .ref h), (1, .int (zI a))] := hl
  have hokp := hok ps hps
  have hcn7 := hokp.1.1
  have hcn8 := hokp.2.1.1
  have hcn9 := hokp.2.2.1.1
  have hcn10 := hokp.2.2.2.2.2.2.2.1
  have hcp7 := hcn7.1
  have hcp8 := hcn8.1
  have hcp9 := hcn9.1
  have hcp10 := hcn10.1
  have hcq7 := hcn7.2
  have hcq8 := hcn8.2
  have hcq9 := hcn9.2
  have hcq10 := hcn10.2
  have hws := pOkL_wfS hokp (by omega)
  refine lv_iload_n hx hb dX8_total_0 rfl (lv_at hl 1 rfl) ?_
  refine g_iconst hx hb dX8_total_1 ?_
  refine g_bipush hx hb dX8_total_2 (by decide) ?_
  have hC1 := c_X8_isWithin l g b0 n f a 0 11 hra (by decide) (by decide)
  refine g_callSi (As := [.int (zI a), .int (zI 0), .int (zI 11)]) (rest := []) ⟨hx, hb, hml, hown, hts⟩ hK hM hC1 (cuS (n := 3) hts u_406 u_824 u_1 (by decide) u_405 ⟨Nat.le_of_ble_eq_true rfl, Nat.le_of_ble_eq_true rfl⟩) rfl hl.1 rfl (Nat.le_of_ble_eq_true rfl) dX8_total_4 ⟨Nat.le_of_ble_eq_true rfl, Nat.le_of_ble_eq_true rfl⟩ (fun r4 f2 H locs hM hp3 => ?_)
  obtain ⟨rfl, rfl⟩ := hp3
  have hC4 := c_X8_requireRange l g b0 n f (0 ≤ a ∧ a ≤ 11) hl9
  refine gx_callSv (As := [.int (bI (0 ≤ a ∧ a ≤ 11))]) (rest := []) ⟨hx, hb, hml, hown, hts⟩ hK hM hE hC4 (cuSx (n := 1) hts u_827 u_825 u_1 (by decide) u_826 ⟨Nat.le_of_ble_eq_true rfl, Nat.le_of_ble_eq_true rfl⟩) rfl hl.1 rfl (Nat.le_of_ble_eq_true rfl) dX8_total_7 ⟨(Nat.le_of_ble_eq_true rfl), (Nat.le_of_ble_eq_true rfl)⟩ (fun E9 ce9 q9 f5 H locs hM hp6 h91 h92 h93 => gx_pass hxt hlk hK hM ?_ h91 h92 h93 (by decide) (by decide)) (fun f5 H locs hM hp6 => ?_)
  · skip
    obtain ⟨hE9, hn9, rfl⟩ := hp6
    exact ⟨hE9, hn9, rfl⟩
  · skip
    obtain ⟨hrq7, rfl⟩ := hp6
    refine lv_aload_n hx hb dX8_total_10 rfl (lv_at hl 0 rfl) ?_
    refine g_get (ci := 10) (v := .ref (h + 1)) (C := RX8) (T := TX8) (N := 9) hx hb hts iU_X8 hown hK hM ⟨by omega, by omega⟩ hO rfl 0 (by decide) (hts _ u_275) (fun _ h9 => h9) rfl dX8_total_11 ?_
    have hC8 := c_X1_here l g b0 n f (h + 1) B P T (fun k => (↑(sc k) : Int)) pr ex ps hS ⟨by omega, by omega⟩ hex hps hpx
    obtain ⟨ho11, ho12, ho13⟩ := id hS
    refine g_callVq (ci := 3) (C := RX1) (T := TX1) (N := 3) (As := []) (rest := []) ⟨hx, hb, hml, hown, hts⟩ hK hM hC8 (cuV (n := 0) hts u_366 u_363 u_2 (by decide) u_364 u_365 ⟨Nat.le_of_ble_eq_true rfl, Nat.le_of_ble_eq_true rfl⟩) ⟨by omega, by omega⟩ ho11 rfl rfl hl.1 rfl (Nat.le_of_ble_eq_true rfl) dX8_total_14 ⟨Nat.le_of_ble_eq_true rfl, Nat.le_of_ble_eq_true rfl⟩ (fun r14 f9 H locs hM hp10 => ?_)
    obtain ⟨rfl, rfl⟩ := hp10
    have hbb14 := brB_in (h := h + 1) (k := ps) (by omega)
    have hbr14 := hS.2.2 ps (by omega)
    obtain ⟨ho15, ho16, ho17, ho18⟩ := id hbr14
    refine g_getN (ci := 2) (v := .ref ((brB (h + 1) ps) + 24)) (C := RX0) (T := TX0) (N := 6) hx hb hts iU_X0 hown hK hM ⟨by omega, by omega⟩ ho15 rfl 1 (by decide) (hts _ u_210) (fun _ h9 => h9) rfl dX8_total_17 ?_
    refine lv_iload_n hx hb dX8_total_20 rfl (lv_at hl 1 rfl) ?_
    have hae : ((a.toNat : Nat) : Int) = a := by omega
    have hq19 := c_X5_numberOf l g b0 n f ((brB (h + 1) ps) + 24) (P ps) a.toNat ho17 ⟨by omega, by omega⟩ hcn7 hcn8 hcn9 hcn10 (by omega) (by have := pOk_P1 hokp; exact ⟨by omega, by omega⟩) (by have := pOk_P4 hokp; exact ⟨by omega, by omega⟩)
    rw [hae] at hq19
    have hC20 := hq19
    obtain ⟨ho23, ho24, ho25, ho26, ho27⟩ := id ho17
    refine g_callVl (ci := 7) (C := RX5) (T := TX5) (N := 11) (As := [.int (zI a)]) (rest := []) ⟨hx, hb, hml, hown, hts⟩ hK hM hC20 (cuV (n := 1) hts u_894 u_891 u_4 (by decide) u_892 u_893 ⟨Nat.le_of_ble_eq_true rfl, Nat.le_of_ble_eq_true rfl⟩) ⟨by omega, by omega⟩ ho23 rfl rfl hl.1 rfl (Nat.le_of_ble_eq_true rfl) dX8_total_21 ⟨Nat.le_of_ble_eq_true rfl, Nat.le_of_ble_eq_true rfl⟩ (fun r21 f21 H locs hM hp22 => ?_)
    obtain ⟨rfl, rfl⟩ := hp22
    refine gx_lret hx hb hr hlk hK hM dX8_total_24 (by decide) (by decide) ?_
    exact ⟨hrq7, rfl, rfl⟩

def po_X8_step (g : gE) (f : gF) (h : Nat) (B P T : Nat → Nat → Int) (sc : Nat → Nat) (pr ex : Nat → Int) (ps : Nat) (sv rs an cs cr : Int) (a b : Int) : Int32 → gF → Prop := fun r f1 => (0 ≤ a ∧ a < ↑(sc ps)) ∧ (0 ≤ b ∧ b ≤ 4) ∧ r = zI (T ps (a.toNat * 5 + b.toNat)) ∧ f = f1
def px_X8_step (g : gE) (f : gF) (h : Nat) (B P T : Nat → Nat → Int) (sc : Nat → Nat) (pr ex : Nat → Int) (ps : Nat) (sv rs an cs cr : Int) (a b : Int) : String → gF → Prop := fun E f1 => ((E = exN2 ∧ ¬ (0 ≤ a ∧ a < ↑(sc ps))) ∨ (E = exN0 ∧ (0 ≤ a ∧ a < ↑(sc ps)) ∧ ¬ (0 ≤ b ∧ b ≤ 4))) ∧ f = f1
set_option maxRecDepth 100000 in
set_option maxHeartbeats 1000000 in
/-- step -/
theorem c_X8_step (l : Launch) (g : gE) (b0 n : Nat) (f : gF) (h : Nat) (B P T : Nat → Nat → Int) (sc : Nat → Nat) (pr ex : Nat → Int) (ps : Nat) (sv rs an cs cr : Int) (a b : Int) (hl9 : l.stackTraces = false) (hO : obP f h sv rs an cs cr) (hrg : b0 ≤ h ∧ h + 607 ≤ b0 + n) (hS : brsAt g f (h + 1) B P T (fun k => (↑(sc k) : Int)) pr ex (↑ps : Int)) (hex : ∀ k, k < 6 → ex k = 0 ∨ ex k = 1) (hps : ps < 6) (hpx : ex ps = 1) (hsc : ∀ k, k < 6 → sc k ≤ 60) (hra : rI a) (hrb : rI b) : cxI l yX8_step cX8_step 4 (some .int) 7 102 2 [.ref h, .int (zI a), .int (zI b)] g b0 n f (po_X8_step g f h B P T sc pr ex ps sv rs an cs cr a b) (px_X8_step g f h B P T sc pr ex ps sv rs an cs cr a b) := by
  refine gs_xi (cc := cX8_step) (maxL := 4) (ret := (some .int)) (by decide) (Nat.le_of_ble_eq_true rfl) ?_
  intro p e0 s m args below meth c ls hx hb hr hml hown hts hlk hxt hE hK hM hl
  have hl : lv_has ls 4 [(0, .ref h), (1, .int (zI a)), (2, .int (zI b))] := hl
  have hscp := hsc ps hps
  refine lv_aload_n hx hb dX8_step_0 rfl (lv_at hl 0 rfl) ?_
  refine g_get (ci := 10) (v := .ref (h + 1)) (C := RX8) (T := TX8) (N := 9) hx hb hts iU_X8 hown hK hM ⟨by omega, by omega⟩ hO rfl 0 (by decide) (hts _ u_275) (fun _ h9 => h9) rfl dX8_step_1 ?_
  have hC1 := c_X1_here l g b0 n f (h + 1) B P T (fun k => (↑(sc k) : Int)) pr ex ps hS ⟨by omega, by omega⟩ hex hps hpx
  obtain ⟨ho4, ho5, ho6⟩ := id hS
  refine g_callVq (ci := 3) (C := RX1) (T := TX1) (N := 3) (As := []) (rest := []) ⟨hx, hb, hml, hown, hts⟩ hK hM hC1 (cuV (n := 0) hts u_366 u_363 u_2 (by decide) u_364 u_365 ⟨Nat.le_of_ble_eq_true rfl, Nat.le_of_ble_eq_true rfl⟩) ⟨by omega, by omega⟩ ho4 rfl rfl hl.1 rfl (Nat.le_of_ble_eq_true rfl) dX8_step_4 ⟨Nat.le_of_ble_eq_true rfl, Nat.le_of_ble_eq_true rfl⟩ (fun r4 f2 H locs hM hp3 => ?_)
  obtain ⟨rfl, rfl⟩ := hp3
  have hbb7 := brB_in (h := h + 1) (k := ps) (by omega)
  have hbr7 := hS.2.2 ps (by omega)
  refine lv_astore_n (lv' := [(3, .ref (brB (h + 1) ps)), (0, .ref h), (1, .int (zI a)), (2, .int (zI b))]) hx hb dX8_step_7 rfl hl (by decide) rfl (fun ls hl => ?_)
  refine lv_iload_n hx hb dX8_step_8 rfl (lv_at hl 2 rfl) ?_
  refine g_iconst hx hb dX8_step_9 ?_
  refine lv_aload_n hx hb dX8_step_10 rfl (lv_at hl 0 rfl) ?_
  obtain ⟨ho8, ho9, ho10, ho11⟩ := id hbr7
  refine g_getN (ci := 2) (v := .int (zI (↑(sc ps) : Int))) (C := RX0) (T := TX0) (N := 6) hx hb hts iU_X0 hown hK hM ⟨by omega, by omega⟩ ho8 rfl 3 (by decide) (hts _ u_213) (fun _ h9 => h9) rfl dX8_step_11 ?_
  refine g_iconst hx hb dX8_step_14 ?_
  refine g_isub hx hb dX8_step_15 ?_
  have hC12 := c_X8_isWithin l g b0 n f a 0 ((↑(sc ps) : Int) - 1) hra (by decide) ⟨by omega, by omega⟩
  refine g_callSi (As := [.int (zI a), .int (zI 0), .int (zI ((↑(sc ps) : Int) - 1))]) (rest := []) ⟨hx, hb, hml, hown, hts⟩ hK hM hC12 (cuS (n := 3) hts u_406 u_824 u_1 (by decide) u_405 ⟨Nat.le_of_ble_eq_true rfl, Nat.le_of_ble_eq_true rfl⟩) rfl hl.1 rfl (Nat.le_of_ble_eq_true rfl) dX8_step_16 ⟨Nat.le_of_ble_eq_true rfl, Nat.le_of_ble_eq_true rfl⟩ (fun r16 f13 H locs hM hp14 => ?_)
  obtain ⟨rfl, rfl⟩ := hp14
  have hC15 := c_X8_requirePart l g b0 n f (0 ≤ a ∧ a ≤ ((↑(sc ps) : Int) - 1)) hl9
  refine gx_callSv (As := [.int (bI (0 ≤ a ∧ a ≤ ((↑(sc ps) : Int) - 1)))]) (rest := []) ⟨hx, hb, hml, hown, hts⟩ hK hM hE hC15 (cuSx (n := 1) hts u_822 u_820 u_1 (by decide) u_821 ⟨Nat.le_of_ble_eq_true rfl, Nat.le_of_ble_eq_true rfl⟩) rfl hl.1 rfl (Nat.le_of_ble_eq_true rfl) dX8_step_19 ⟨(Nat.le_of_ble_eq_true rfl), (Nat.le_of_ble_eq_true rfl)⟩ (fun E9 ce9 q9 f16 H locs hM hp17 h91 h92 h93 => gx_pass hxt hlk hK hM ?_ h91 h92 h93 (by decide) (by decide)) (fun f16 H locs hM hp17 => ?_)
  · skip
    obtain ⟨hE9, hn9, rfl⟩ := hp17
    exact ⟨Or.inl ⟨hE9, by omega⟩, rfl⟩
  · skip
    obtain ⟨hrq18, rfl⟩ := hp17
    refine lv_iload_n hx hb dX8_step_22 rfl (lv_at hl 3 rfl) ?_
    refine g_iconst hx hb dX8_step_23 ?_
    refine g_iconst hx hb dX8_step_24 ?_
    have hC19 := c_X8_isWithin l g b0 n f b 0 4 hrb (by decide) (by decide)
    refine g_callSi (As := [.int (zI b), .int (zI 0), .int (zI 4)]) (rest := []) ⟨hx, hb, hml, hown, hts⟩ hK hM hC19 (cuS (n := 3) hts u_406 u_824 u_1 (by decide) u_405 ⟨Nat.le_of_ble_eq_true rfl, Nat.le_of_ble_eq_true rfl⟩) rfl hl.1 rfl (Nat.le_of_ble_eq_true rfl) dX8_step_25 ⟨Nat.le_of_ble_eq_true rfl, Nat.le_of_ble_eq_true rfl⟩ (fun r25 f20 H locs hM hp21 => ?_)
    obtain ⟨rfl, rfl⟩ := hp21
    have hC22 := c_X8_requireRange l g b0 n f (0 ≤ b ∧ b ≤ 4) hl9
    refine gx_callSv (As := [.int (bI (0 ≤ b ∧ b ≤ 4))]) (rest := []) ⟨hx, hb, hml, hown, hts⟩ hK hM hE hC22 (cuSx (n := 1) hts u_827 u_825 u_1 (by decide) u_826 ⟨Nat.le_of_ble_eq_true rfl, Nat.le_of_ble_eq_true rfl⟩) rfl hl.1 rfl (Nat.le_of_ble_eq_true rfl) dX8_step_28 ⟨(Nat.le_of_ble_eq_true rfl), (Nat.le_of_ble_eq_true rfl)⟩ (fun E9 ce9 q9 f23 H locs hM hp24 h91 h92 h93 => gx_pass hxt hlk hK hM ?_ h91 h92 h93 (by decide) (by decide)) (fun f23 H locs hM hp24 => ?_)
    · skip
      obtain ⟨hE9, hn9, rfl⟩ := hp24
      exact ⟨Or.inr ⟨hE9, by omega, hn9⟩, rfl⟩
    · skip
      obtain ⟨hrq25, rfl⟩ := hp24
      refine lv_aload_n hx hb dX8_step_31 rfl (lv_at hl 0 rfl) ?_
      refine lv_iload_n hx hb dX8_step_32 rfl (lv_at hl 2 rfl) ?_
      refine lv_iload_n hx hb dX8_step_33 rfl (lv_at hl 3 rfl) ?_
      have hae : ((a.toNat : Nat) : Int) = a := by omega
      have hbe : ((b.toNat : Nat) : Int) = b := by omega
      have hq26 := c_X0_partOf l g b0 n f (brB (h + 1) ps) (B ps) (P ps) (T ps) (sc ps) (pr ps) (ex ps) a.toNat b.toNat hbr7 ⟨by omega, by omega⟩ (by omega) (by omega)
      rw [hae, hbe] at hq26
      have hC27 := hq26
      refine g_callVi (ci := 2) (C := RX0) (T := TX0) (N := 6) (As := [.int (zI a), .int (zI b)]) (rest := []) ⟨hx, hb, hml, hown, hts⟩ hK hM hC27 (cuV (n := 2) hts u_1040 u_1037 u_3 (by decide) u_1038 u_1039 ⟨Nat.le_of_ble_eq_true rfl, Nat.le_of_ble_eq_true rfl⟩) ⟨by omega, by omega⟩ ho8 rfl rfl hl.1 rfl (Nat.le_of_ble_eq_true rfl) dX8_step_34 ⟨Nat.le_of_ble_eq_true rfl, Nat.le_of_ble_eq_true rfl⟩ (fun r34 f28 H locs hM hp29 => ?_)
      obtain ⟨rfl, rfl⟩ := hp29
      refine gx_iret hx hb hr hlk hK hM dX8_step_37 (by decide) (by decide) ?_
      exact ⟨by omega, by omega, rfl, rfl⟩

def po_X8_conflict (g : gE) (f : gF) (h : Nat) (sv rs an cs cr : Int) (bb : Int) : Int32 → gF → Prop := fun r f1 => cr ≠ 0 ∧ r = zI (if bb = 0 then cs else cr) ∧ f = f1
def px_X8_conflict (g : gE) (f : gF) (h : Nat) (sv rs an cs cr : Int) (bb : Int) : String → gF → Prop := fun E f1 => E = exN3 ∧ cr = 0 ∧ f = f1
set_option maxRecDepth 100000 in
set_option maxHeartbeats 1000000 in
/-- conflict -/
theorem c_X8_conflict (l : Launch) (g : gE) (b0 n : Nat) (f : gF) (h : Nat) (sv rs an cs cr : Int) (bb : Int) (hl9 : l.stackTraces = false) (hO : obP f h sv rs an cs cr) (hrg : b0 ≤ h ∧ h + 607 ≤ b0 + n) (hrr : rI cr) (hbb : bb = 0 ∨ bb = 1) : cxI l yX8_conflict cX8_conflict 2 (some .int) 6 82 1 [.ref h, .int (zI bb)] g b0 n f (po_X8_conflict g f h sv rs an cs cr bb) (px_X8_conflict g f h sv rs an cs cr bb) := by
  refine gs_xi (cc := cX8_conflict) (maxL := 2) (ret := (some .int)) (by decide) (Nat.le_of_ble_eq_true rfl) ?_
  intro p e0 s m args below meth c ls hx hb hr hml hown hts hlk hxt hE hK hM hl
  have hl : lv_has ls 2 [(0, .ref h), (1, .int (zI bb))] := hl
  refine lv_aload_n hx hb dX8_conflict_0 rfl (lv_at hl 0 rfl) ?_
  refine g_get (ci := 10) (v := .int (zI cr)) (C := RX8) (T := TX8) (N := 9) hx hb hts iU_X8 hown hK hM ⟨by omega, by omega⟩ hO rfl 8 (by decide) (hts _ u_283) (fun _ h9 => h9) rfl dX8_conflict_1 ?_
  refine g_if_ne (tgt := 18) hx hb dX8_conflict_4 (by decide) hrr (fun c4 => ?_) (fun c4 => ?_)
  · skip
    refine lv_iload_n hx hb dX8_conflict_18 rfl (lv_at hl 1 rfl) ?_
    refine g_if_eq (tgt := 29) hx hb dX8_conflict_19 (by decide) ⟨by omega, by omega⟩ (fun c19 => ?_) (fun c19 => ?_)
    · skip
      refine lv_aload_n hx hb dX8_conflict_29 rfl (lv_at hl 0 rfl) ?_
      refine g_get (ci := 10) (v := .int (zI cs)) (C := RX8) (T := TX8) (N := 9) hx hb hts iU_X8 hown hK hM ⟨by omega, by omega⟩ hO rfl 7 (by decide) (hts _ u_282) (fun _ h9 => h9) rfl dX8_conflict_30 ?_
      refine gx_iret hx hb hr hlk hK hM dX8_conflict_33 (by decide) (by decide) ?_
      exact ⟨by omega, by rw [if_pos (by omega)], rfl⟩
    · skip
      refine lv_aload_n hx hb dX8_conflict_22 rfl (lv_at hl 0 rfl) ?_
      refine g_get (ci := 10) (v := .int (zI cr)) (C := RX8) (T := TX8) (N := 9) hx hb hts iU_X8 hown hK hM ⟨by omega, by omega⟩ hO rfl 8 (by decide) (hts _ u_283) (fun _ h9 => h9) rfl dX8_conflict_23 ?_
      refine lv_goto (tgt := 33) hx hb dX8_conflict_26 (by decide) ?_
      refine gx_iret hx hb hr hlk hK hM dX8_conflict_33 (by decide) (by decide) ?_
      exact ⟨by omega, by rw [if_neg (by omega)], rfl⟩
  · skip
    refine gx_throwSWN (is := 257) (text := "no merge met a refused step") hx hb hl9 hown hlk hts hxt hE hK hM (hl.1.trans hml.symm) (by decide +kernel) u_943 u_22 (by decide +kernel) dX8_conflict_7 dX8_conflict_10 dX8_conflict_11 dX8_conflict_14 dX8_conflict_17 ⟨by decide, by decide, by decide, by decide⟩ (by decide) (by decide) ?_
    exact ⟨rfl, by omega, rfl⟩

def po_X8_restore (g : gE) (f : gF) (h : Nat) (B P T : Nat → Nat → Int) (sc : Nat → Nat) (pr ex : Nat → Int) (ps : Nat) (sv rs an cs cr : Int) (B2 P2 T2 : Nat → Nat → Int) (sc2 : Nat → Nat) (pr2 ex2 : Nat → Int) (ps2 : Nat) : Int32 → gF → Prop := fun r f1 => sv = 1 ∧ r = zI (sCnt ex2 6) ∧ brsAt g f1 (h + 1) B2 P2 T2 (fun k => (↑(sc2 k) : Int)) pr2 ex2 (↑ps2 : Int) ∧ ∀ q, (q < h + 1 ∨ h + 291 ≤ q) → f1 q = f q
def px_X8_restore (g : gE) (f : gF) (h : Nat) (B P T : Nat → Nat → Int) (sc : Nat → Nat) (pr ex : Nat → Int) (ps : Nat) (sv rs an cs cr : Int) (B2 P2 T2 : Nat → Nat → Int) (sc2 : Nat → Nat) (pr2 ex2 : Nat → Int) (ps2 : Nat) : String → gF → Prop := fun E f1 => E = exN1 ∧ sv = 0 ∧ f = f1
set_option maxRecDepth 100000 in
set_option maxHeartbeats 1000000 in
/-- restore -/
theorem c_X8_restore (l : Launch) (g : gE) (b0 n : Nat) (f : gF) (h : Nat) (B P T : Nat → Nat → Int) (sc : Nat → Nat) (pr ex : Nat → Int) (ps : Nat) (sv rs an cs cr : Int) (B2 P2 T2 : Nat → Nat → Int) (sc2 : Nat → Nat) (pr2 ex2 : Nat → Int) (ps2 : Nat) (hl9 : l.stackTraces = false) (hO : obP f h sv rs an cs cr) (hrg : b0 ≤ h ∧ h + 607 ≤ b0 + n) (hS : brsAt g f (h + 1) B P T (fun k => (↑(sc k) : Int)) pr ex (↑ps : Int)) (hS2 : brsAt g f (h + 291) B2 P2 T2 (fun k => (↑(sc2 k) : Int)) pr2 ex2 (↑ps2 : Int)) (hex : ∀ k, k < 6 → ex k = 0 ∨ ex k = 1) (hex2 : ∀ k, k < 6 → ex2 k = 0 ∨ ex2 k = 1) (hsv : sv = 0 ∨ sv = 1) : cxI l yX8_restore cX8_restore 1 (some .int) 6 147 1 [.ref h] g b0 n f (po_X8_restore g f h B P T sc pr ex ps sv rs an cs cr B2 P2 T2 sc2 pr2 ex2 ps2) (px_X8_restore g f h B P T sc pr ex ps sv rs an cs cr B2 P2 T2 sc2 pr2 ex2 ps2) := by
  refine gs_xi (cc := cX8_restore) (maxL := 1) (ret := (some .int)) (by decide) (Nat.le_of_ble_eq_true rfl) ?_
  intro p e0 s m args below meth c ls hx hb hr hml hown hts hlk hxt hE hK hM hl
  have hl : lv_has ls 1 [(0, .ref h)] := hl
  refine lv_aload_n hx hb dX8_restore_0 rfl (lv_at hl 0 rfl) ?_
  refine g_get (ci := 10) (v := .int (zI sv)) (C := RX8) (T := TX8) (N := 9) hx hb hts iU_X8 hown hK hM ⟨by omega, by omega⟩ hO rfl 4 (by decide) (hts _ u_279) (fun _ h9 => h9) rfl dX8_restore_1 ?_
  refine g_if_ne (tgt := 18) hx hb dX8_restore_4 (by decide) ⟨by omega, by omega⟩ (fun c4 => ?_) (fun c4 => ?_)
  · skip
    refine lv_aload_n hx hb dX8_restore_18 rfl (lv_at hl 0 rfl) ?_
    refine g_get (ci := 10) (v := .ref (h + 1)) (C := RX8) (T := TX8) (N := 9) hx hb hts iU_X8 hown hK hM ⟨by omega, by omega⟩ hO rfl 0 (by decide) (hts _ u_275) (fun _ h9 => h9) rfl dX8_restore_19 ?_
    refine lv_aload_n hx hb dX8_restore_22 rfl (lv_at hl 0 rfl) ?_
    refine g_get (ci := 10) (v := .ref (h + 291)) (C := RX8) (T := TX8) (N := 9) hx hb hts iU_X8 hown hK hM ⟨by omega, by omega⟩ hO rfl 1 (by decide) (hts _ u_276) (fun _ h9 => h9) rfl dX8_restore_23 ?_
    have hC1 := c_X1_copyFrom l g b0 n f (h + 1) _ _ _ _ _ _ _ (h + 291) _ _ _ _ _ _ _ hS ⟨by omega, by omega⟩ hS2 ⟨by omega, by omega⟩ (by omega) hex2 (fun k _ => by show (0 : Int) ≤ ↑(sc k); omega) (fun k _ => by show (0 : Int) ≤ ↑(sc2 k); omega)
    obtain ⟨ho4, ho5, ho6⟩ := id hS
    refine g_callVv (ci := 3) (C := RX1) (T := TX1) (N := 3) (As := [.ref (h + 291)]) (rest := []) ⟨hx, hb, hml, hown, hts⟩ hK hM hC1 (cuV (n := 1) hts u_553 u_550 u_2 (by decide) u_551 u_552 ⟨Nat.le_of_ble_eq_true rfl, Nat.le_of_ble_eq_true rfl⟩) ⟨by omega, by omega⟩ ho4 rfl rfl hl.1 rfl (Nat.le_of_ble_eq_true rfl) dX8_restore_26 ⟨Nat.le_of_ble_eq_true rfl, Nat.le_of_ble_eq_true rfl⟩ (fun f2 H locs hM hp3 => ?_)
    obtain ⟨hn7, o8⟩ := hp3
    refine lv_aload_n hx hb dX8_restore_29 rfl (lv_at hl 0 rfl) ?_
    have hf9 : f2 (h) = .inr (10, [.ref (h + 1), .ref (h + 291), .ref (h + 581), .ref (h + 604), .int (zI sv), .int (zI rs), .int (zI an), .int (zI cs), .int (zI cr)]) := (o8 (h) (by omega)).trans hO
    refine g_get (ci := 10) (v := .ref (h + 1)) (C := RX8) (T := TX8) (N := 9) hx hb hts iU_X8 hown hK hM ⟨by omega, by omega⟩ hf9 rfl 0 (by decide) (hts _ u_275) (fun _ h9 => h9) rfl dX8_restore_30 ?_
    have hC10 := c_X1_count l g b0 n f2 (h + 1) B2 P2 T2 (fun k => (↑(sc2 k) : Int)) pr2 ex2 ps2 hn7 ⟨by omega, by omega⟩ hex2
    obtain ⟨ho13, ho14, ho15⟩ := id hn7
    refine g_callVi (ci := 3) (C := RX1) (T := TX1) (N := 3) (As := []) (rest := []) ⟨hx, hb, hml, hown, hts⟩ hK hM hC10 (cuV (n := 0) hts u_588 u_585 u_2 (by decide) u_586 u_587 ⟨Nat.le_of_ble_eq_true rfl, Nat.le_of_ble_eq_true rfl⟩) ⟨by omega, by omega⟩ ho13 rfl rfl hl.1 rfl (Nat.le_of_ble_eq_true rfl) dX8_restore_33 ⟨Nat.le_of_ble_eq_true rfl, Nat.le_of_ble_eq_true rfl⟩ (fun r33 f11 H locs hM hp12 => ?_)
    obtain ⟨rfl, rfl⟩ := hp12
    refine gx_iret hx hb hr hlk hK hM dX8_restore_36 (by decide) (by decide) ?_
    exact ⟨by omega, rfl, hn7, (fun q hq => (o8 (q) (by omega)))⟩
  · skip
    refine gx_throwSW (is := 307) (text := "nothing was saved") hx hb hl9 hown hlk hts hxt hE hK hM (hl.1.trans hml.symm) (by decide +kernel) u_690 u_16 (by decide +kernel) xk_1 xg_1 dX8_restore_7 dX8_restore_10 dX8_restore_11 dX8_restore_14 dX8_restore_17 ⟨by decide, by decide, by decide, by decide⟩ (by decide) (by decide) ?_
    exact ⟨rfl, by omega, rfl⟩

def po_X8_feed (g : gE) (f : gF) (h : Nat) (sv rs an cs cr : Int) (rT rC : Nat → Int) (rL : Nat) (rn ra rm : Int) (x : Int) : Int32 → gF → Prop := fun r f1 => rL < 60 ∧ r = zI (↑rL + 1) ∧ rdAt g f1 (h + 604) (pu rT rL x) rC (↑rL + 1) rn ra rm ∧ ∀ q, (q < h + 604 ∨ h + 607 ≤ q) → f1 q = f q
def px_X8_feed (g : gE) (f : gF) (h : Nat) (sv rs an cs cr : Int) (rT rC : Nat → Int) (rL : Nat) (rn ra rm : Int) (x : Int) : String → gF → Prop := fun E f1 => E = exN1 ∧ ¬ rL < 60 ∧ f = f1
set_option maxRecDepth 100000 in
set_option maxHeartbeats 1000000 in
/-- feed -/
theorem c_X8_feed (l : Launch) (g : gE) (b0 n : Nat) (f : gF) (h : Nat) (sv rs an cs cr : Int) (rT rC : Nat → Int) (rL : Nat) (rn ra rm : Int) (x : Int) (hl9 : l.stackTraces = false) (hO : obP f h sv rs an cs cr) (hrg : b0 ≤ h ∧ h + 607 ≤ b0 + n) (hR : rdAt g f (h + 604) rT rC ↑rL rn ra rm) (hL : rL ≤ 60) (hx0 : 0 ≤ x) (hx1 : x < 65536) : cxI l yX8_feed cX8_feed 2 (some .int) 6 82 1 [.ref h, .int (zI x)] g b0 n f (po_X8_feed g f h sv rs an cs cr rT rC rL rn ra rm x) (px_X8_feed g f h sv rs an cs cr rT rC rL rn ra rm x) := by
  refine gs_xi (cc := cX8_feed) (maxL := 2) (ret := (some .int)) (by decide) (Nat.le_of_ble_eq_true rfl) ?_
  intro p e0 s m args below meth c ls hx hb hr hml hown hts hlk hxt hE hK hM hl
  have hl : lv_has ls 2 [(0, .ref h), (1, .int (zI x))] := hl
  refine lv_aload_n hx hb dX8_feed_0 rfl (lv_at hl 0 rfl) ?_
  refine g_get (ci := 10) (v := .ref (h + 604)) (C := RX8) (T := TX8) (N := 9) hx hb hts iU_X8 hown hK hM ⟨by omega, by omega⟩ hO rfl 3 (by decide) (hts _ u_278) (fun _ h9 => h9) rfl dX8_feed_1 ?_
  refine lv_iload_n hx hb dX8_feed_4 rfl (lv_at hl 1 rfl) ?_
  have hC1 := c_X6_append l g b0 n f (h + 604) rT rC rL rn ra rm x hR ⟨by omega, by omega⟩ hL hx0 hx1
  obtain ⟨ho4, ho5, ho6⟩ := id hR
  refine g_callVi (ci := 8) (C := RX6) (T := TX6) (N := 6) (As := [.int (zI x)]) (rest := []) ⟨hx, hb, hml, hown, hts⟩ hK hM hC1 (cuV (n := 1) hts u_1124 u_1121 u_9 (by decide) u_1122 u_1123 ⟨Nat.le_of_ble_eq_true rfl, Nat.le_of_ble_eq_true rfl⟩) ⟨by omega, by omega⟩ ho4 rfl rfl hl.1 rfl (Nat.le_of_ble_eq_true rfl) dX8_feed_5 ⟨Nat.le_of_ble_eq_true rfl, Nat.le_of_ble_eq_true rfl⟩ (fun r5 f2 H locs hM hp3 => ?_)
  rcases hp3 with ⟨hlt, rfl, hn9, o9⟩ | ⟨hge, rfl, rfl⟩
  · skip
    refine g_if_ne (tgt := 22) hx hb dX8_feed_8 (by decide) (by decide) (fun c8 => ?_) (fun c8 => ?_)
    · skip
      refine lv_aload_n hx hb dX8_feed_22 rfl (lv_at hl 0 rfl) ?_
      have hf7 : f2 (h) = .inr (10, [.ref (h + 1), .ref (h + 291), .ref (h + 581), .ref (h + 604), .int (zI sv), .int (zI rs), .int (zI an), .int (zI cs), .int (zI cr)]) := (o9 (h) (by omega)).trans hO
      refine g_get (ci := 10) (v := .ref (h + 604)) (C := RX8) (T := TX8) (N := 9) hx hb hts iU_X8 hown hK hM ⟨by omega, by omega⟩ hf7 rfl 3 (by decide) (hts _ u_278) (fun _ h9 => h9) rfl dX8_feed_23 ?_
      obtain ⟨ho8, ho9, ho10⟩ := id hn9
      refine g_getN (ci := 8) (v := .int (zI ((↑rL : Int) + 1))) (C := RX6) (T := TX6) (N := 6) hx hb hts iU_X6 hown hK hM ⟨by omega, by omega⟩ ho8 rfl 2 (by decide) (hts _ u_256) (fun _ h9 => h9) rfl dX8_feed_26 ?_
      refine gx_iret hx hb hr hlk hK hM dX8_feed_29 (by decide) (by decide) ?_
      exact ⟨hlt, rfl, hn9, (fun q hq => (o9 (q) (by omega)))⟩
    · exact absurd c8 (by decide)
  · skip
    refine g_if_ne (tgt := 22) hx hb dX8_feed_8 (by decide) (by decide) (fun c8 => ?_) (fun c8 => ?_)
    · exact absurd c8 (by decide)
    · skip
      refine gx_throwSW (is := 286) (text := "the input is full") hx hb hl9 hown hlk hts hxt hE hK hM (hl.1.trans hml.symm) (by decide +kernel) u_690 u_16 (by decide +kernel) xk_1 xg_1 dX8_feed_11 dX8_feed_14 dX8_feed_15 dX8_feed_18 dX8_feed_21 ⟨by decide, by decide, by decide, by decide⟩ (by decide) (by decide) ?_
      exact ⟨rfl, hge, rfl⟩

def po_X8_fork (g : gE) (f : gF) (h : Nat) (B P T : Nat → Nat → Int) (sc : Nat → Nat) (pr ex : Nat → Int) (ps : Nat) (sv rs an cs cr : Int) : Int32 → gF → Prop := fun r f1 => ∃ b : Nat, b < 6 ∧ ex b ≠ 1 ∧ (∀ j, j < b → ex j = 1) ∧ r = zI ↑b ∧ brsAt g f1 (h + 1) (fu B b (P ps)) (fu P b (P ps)) T (fun k => (↑(fu sc b 0 k) : Int)) (fu pr b ↑ps) (fu ex b 1) ↑ps ∧ ∀ q, (q < h + 1 ∨ h + 291 ≤ q) → f1 q = f q
def px_X8_fork (g : gE) (f : gF) (h : Nat) (B P T : Nat → Nat → Int) (sc : Nat → Nat) (pr ex : Nat → Int) (ps : Nat) (sv rs an cs cr : Int) : String → gF → Prop := fun E f1 => E = exN1 ∧ (∀ j, j < 6 → ex j = 1) ∧ f = f1
set_option maxRecDepth 100000 in
set_option maxHeartbeats 1000000 in
/-- fork -/
theorem c_X8_fork (l : Launch) (g : gE) (b0 n : Nat) (f : gF) (h : Nat) (B P T : Nat → Nat → Int) (sc : Nat → Nat) (pr ex : Nat → Int) (ps : Nat) (sv rs an cs cr : Int) (hl9 : l.stackTraces = false) (hO : obP f h sv rs an cs cr) (hrg : b0 ≤ h ∧ h + 607 ≤ b0 + n) (hS : brsAt g f (h + 1) B P T (fun k => (↑(sc k) : Int)) pr ex (↑ps : Int)) (hex : ∀ k, k < 6 → ex k = 0 ∨ ex k = 1) (hps : ps < 6) (hpx : ex ps = 1) : cxI l yX8_fork cX8_fork 2 (some .int) 6 146 1 [.ref h] g b0 n f (po_X8_fork g f h B P T sc pr ex ps sv rs an cs cr) (px_X8_fork g f h B P T sc pr ex ps sv rs an cs cr) := by
  refine gs_xi (cc := cX8_fork) (maxL := 2) (ret := (some .int)) (by decide) (Nat.le_of_ble_eq_true rfl) ?_
  intro p e0 s m args below meth c ls hx hb hr hml hown hts hlk hxt hE hK hM hl
  have hl : lv_has ls 2 [(0, .ref h)] := hl
  refine lv_aload_n hx hb dX8_fork_0 rfl (lv_at hl 0 rfl) ?_
  refine g_get (ci := 10) (v := .ref (h + 1)) (C := RX8) (T := TX8) (N := 9) hx hb hts iU_X8 hown hK hM ⟨by omega, by omega⟩ hO rfl 0 (by decide) (hts _ u_275) (fun _ h9 => h9) rfl dX8_fork_1 ?_
  have hC1 := c_X1_firstFree l g b0 n f (h + 1) B P T (fun k => (↑(sc k) : Int)) pr ex ps hS ⟨by omega, by omega⟩ hex
  obtain ⟨ho4, ho5, ho6⟩ := id hS
  refine g_callVi (ci := 3) (C := RX1) (T := TX1) (N := 3) (As := []) (rest := []) ⟨hx, hb, hml, hown, hts⟩ hK hM hC1 (cuV (n := 0) hts u_984 u_981 u_2 (by decide) u_982 u_983 ⟨Nat.le_of_ble_eq_true rfl, Nat.le_of_ble_eq_true rfl⟩) ⟨by omega, by omega⟩ ho4 rfl rfl hl.1 rfl (Nat.le_of_ble_eq_true rfl) dX8_fork_4 ⟨Nat.le_of_ble_eq_true rfl, Nat.le_of_ble_eq_true rfl⟩ (fun r4 f2 H locs hM hp3 => ?_)
  obtain ⟨hff, rfl⟩ := hp3
  rcases hff with ⟨k9, hk9, rfl, hnx, hall⟩ | ⟨rfl, hall⟩
  · skip
    refine lv_istore_n (lv' := [(1, .int (zI (↑k9 : Int))), (0, .ref h)]) hx hb dX8_fork_7 rfl hl (by decide) rfl (fun ls hl => ?_)
    refine lv_iload_n hx hb dX8_fork_8 rfl (lv_at hl 0 rfl) ?_
    refine g_iconst hx hb dX8_fork_9 ?_
    refine g_icmp_ne (tgt := 23) hx hb dX8_fork_10 (by decide) ⟨by omega, by omega⟩ (by decide) (fun c10 => ?_) (fun c10 => ?_)
    · skip
      refine lv_aload_n hx hb dX8_fork_23 rfl (lv_at hl 1 rfl) ?_
      refine g_get (ci := 10) (v := .ref (h + 1)) (C := RX8) (T := TX8) (N := 9) hx hb hts iU_X8 hown hK hM ⟨by omega, by omega⟩ hO rfl 0 (by decide) (hts _ u_275) (fun _ h9 => h9) rfl dX8_fork_24 ?_
      refine lv_iload_n hx hb dX8_fork_27 rfl (lv_at hl 0 rfl) ?_
      have hC7 := c_X1_open l g b0 n f (h + 1) B P T (fun k => (↑(sc k) : Int)) pr ex ps k9 hS ⟨by omega, by omega⟩ hex hps hpx hk9 (fun hh => by subst hh; exact hnx hpx) (fun k _ => by show (0 : Int) ≤ ↑(sc k); omega)
      refine g_callVv (ci := 3) (C := RX1) (T := TX1) (N := 3) (As := [.int (zI (↑k9 : Int))]) (rest := []) ⟨hx, hb, hml, hown, hts⟩ hK hM hC7 (cuV (n := 1) hts u_989 u_986 u_2 (by decide) u_987 u_988 ⟨Nat.le_of_ble_eq_true rfl, Nat.le_of_ble_eq_true rfl⟩) ⟨by omega, by omega⟩ ho4 rfl rfl hl.1 rfl (Nat.le_of_ble_eq_true rfl) dX8_fork_28 ⟨Nat.le_of_ble_eq_true rfl, Nat.le_of_ble_eq_true rfl⟩ (fun f8 H locs hM hp9 => ?_)
      obtain ⟨hn9, o9⟩ := hp9
      have hn8 := hn9
      rw [show (0 : Int) = ↑(0 : Nat) from rfl, fu_cast] at hn8
      refine lv_iload_n hx hb dX8_fork_31 rfl (lv_at hl 0 rfl) ?_
      refine gx_iret hx hb hr hlk hK hM dX8_fork_32 (by decide) (by decide) ?_
      exact ⟨k9, hk9, hnx, hall, rfl, hn8, (fun q hq => (o9 (q) (by omega)))⟩
    · skip
      refine gx_throwS (is := 206) (text := "there are as many branches as possible") hx hb hl9 hown hlk hts hxt hE hK hM (hl.1.trans hml.symm) (by decide +kernel) u_690 u_16 (by decide +kernel) xk_1 xg_1 dX8_fork_13 dX8_fork_16 dX8_fork_17 dX8_fork_19 dX8_fork_22 ⟨by decide, by decide, by decide, by decide⟩ (by decide) (by decide) ?_
      first | exact ⟨rfl, hall, rfl⟩ | omega
  · skip
    refine lv_istore_n (lv' := [(1, .int (zI (-1))), (0, .ref h)]) hx hb dX8_fork_7 rfl hl (by decide) rfl (fun ls hl => ?_)
    refine lv_iload_n hx hb dX8_fork_8 rfl (lv_at hl 0 rfl) ?_
    refine g_iconst hx hb dX8_fork_9 ?_
    refine g_icmp_ne (tgt := 23) hx hb dX8_fork_10 (by decide) (by decide) (by decide) (fun c10 => ?_) (fun c10 => ?_)
    · exact absurd c10 (by decide)
    · skip
      refine gx_throwS (is := 206) (text := "there are as many branches as possible") hx hb hl9 hown hlk hts hxt hE hK hM (hl.1.trans hml.symm) (by decide +kernel) u_690 u_16 (by decide +kernel) xk_1 xg_1 dX8_fork_13 dX8_fork_16 dX8_fork_17 dX8_fork_19 dX8_fork_22 ⟨by decide, by decide, by decide, by decide⟩ (by decide) (by decide) ?_
      first | exact ⟨rfl, hall, rfl⟩ | omega

def po_X8_select (g : gE) (f : gF) (h : Nat) (B P T : Nat → Nat → Int) (sc : Nat → Nat) (pr ex : Nat → Int) (ps : Nat) (sv rs an cs cr : Int) (a : Int) : Int32 → gF → Prop := fun r f1 => FD ex a ∧ r = zI ↑ps ∧ brsAt g f1 (h + 1) B P T (fun k => (↑(sc k) : Int)) pr ex a ∧ ∀ q, q ≠ h + 1 → f1 q = f q
def px_X8_select (g : gE) (f : gF) (h : Nat) (B P T : Nat → Nat → Int) (sc : Nat → Nat) (pr ex : Nat → Int) (ps : Nat) (sv rs an cs cr : Int) (a : Int) : String → gF → Prop := fun E f1 => E = exN3 ∧ ¬ FD ex a ∧ f = f1
set_option maxRecDepth 100000 in
set_option maxHeartbeats 1000000 in
/-- select -/
theorem c_X8_select (l : Launch) (g : gE) (b0 n : Nat) (f : gF) (h : Nat) (B P T : Nat → Nat → Int) (sc : Nat → Nat) (pr ex : Nat → Int) (ps : Nat) (sv rs an cs cr : Int) (a : Int) (hl9 : l.stackTraces = false) (hO : obP f h sv rs an cs cr) (hrg : b0 ≤ h ∧ h + 607 ≤ b0 + n) (hS : brsAt g f (h + 1) B P T (fun k => (↑(sc k) : Int)) pr ex (↑ps : Int)) (hex : ∀ k, k < 6 → ex k = 0 ∨ ex k = 1) (hps : ps < 6) (hpx : ex ps = 1) (hra : rI a) : cxI l yX8_select cX8_select 3 (some .int) 6 82 1 [.ref h, .int (zI a)] g b0 n f (po_X8_select g f h B P T sc pr ex ps sv rs an cs cr a) (px_X8_select g f h B P T sc pr ex ps sv rs an cs cr a) := by
  refine gs_xi (cc := cX8_select) (maxL := 3) (ret := (some .int)) (by decide) (Nat.le_of_ble_eq_true rfl) ?_
  intro p e0 s m args below meth c ls hx hb hr hml hown hts hlk hxt hE hK hM hl
  have hl : lv_has ls 3 [(0, .ref h), (1, .int (zI a))] := hl
  refine lv_aload_n hx hb dX8_select_0 rfl (lv_at hl 0 rfl) ?_
  refine g_get (ci := 10) (v := .ref (h + 1)) (C := RX8) (T := TX8) (N := 9) hx hb hts iU_X8 hown hK hM ⟨by omega, by omega⟩ hO rfl 0 (by decide) (hts _ u_275) (fun _ h9 => h9) rfl dX8_select_1 ?_
  refine lv_iload_n hx hb dX8_select_4 rfl (lv_at hl 1 rfl) ?_
  have hC1 := c_X1_branchOrNull l g b0 n f (h + 1) B P T (fun k => (↑(sc k) : Int)) pr ex ps a hS ⟨by omega, by omega⟩ hex hra
  obtain ⟨ho4, ho5, ho6⟩ := id hS
  refine g_callVq (ci := 3) (C := RX1) (T := TX1) (N := 3) (As := [.int (zI a)]) (rest := []) ⟨hx, hb, hml, hown, hts⟩ hK hM hC1 (cuV (n := 1) hts u_370 u_1002 u_2 (by decide) u_368 u_369 ⟨Nat.le_of_ble_eq_true rfl, Nat.le_of_ble_eq_true rfl⟩) ⟨by omega, by omega⟩ ho4 rfl rfl hl.1 rfl (Nat.le_of_ble_eq_true rfl) dX8_select_5 ⟨Nat.le_of_ble_eq_true rfl, Nat.le_of_ble_eq_true rfl⟩ (fun r5 f2 H locs hM hp3 => ?_)
  obtain ⟨rfl, rfl⟩ := hp3
  unfold fdR
  by_cases cs5 : (0 ≤ a ∧ a < 6 ∧ ex a.toNat = 1)
  · rw [if_pos cs5]
    refine lv_ifnonnull (tgt := 21) hx hb dX8_select_8 (by decide) ?_
    refine lv_aload_n hx hb dX8_select_21 rfl (lv_at hl 0 rfl) ?_
    refine g_get (ci := 10) (v := .ref (h + 1)) (C := RX8) (T := TX8) (N := 9) hx hb hts iU_X8 hown hK hM ⟨by omega, by omega⟩ hO rfl 0 (by decide) (hts _ u_275) (fun _ h9 => h9) rfl dX8_select_22 ?_
    refine g_getN (ci := 3) (v := .int (zI (↑ps : Int))) (C := RX1) (T := TX1) (N := 3) hx hb hts iU_X1 hown hK hM ⟨by omega, by omega⟩ ho4 rfl 2 (by decide) (hts _ u_237) (fun _ h9 => h9) rfl dX8_select_25 ?_
    refine lv_istore_n (lv' := [(2, .int (zI (↑ps : Int))), (0, .ref h), (1, .int (zI a))]) hx hb dX8_select_28 rfl hl (by decide) rfl (fun ls hl => ?_)
    refine lv_aload_n hx hb dX8_select_29 rfl (lv_at hl 1 rfl) ?_
    refine g_get (ci := 10) (v := .ref (h + 1)) (C := RX8) (T := TX8) (N := 9) hx hb hts iU_X8 hown hK hM ⟨by omega, by omega⟩ hO rfl 0 (by decide) (hts _ u_275) (fun _ h9 => h9) rfl dX8_select_30 ?_
    refine lv_iload_n hx hb dX8_select_33 rfl (lv_at hl 2 rfl) ?_
    refine g_putN (ci := 3) (v := .int (zI a)) (ty := .int) (C := RX1) (T := TX1) (N := 3) hx hb hts iU_X1 tyX1 tyX1_ok nmX1 hown hK hM ⟨by omega, by omega⟩ ho4 rfl 2 (by decide) (hts _ u_237) (fun _ h9 => h9) rfl (by decide +kernel) rfl rfl (Nat.le_of_ble_eq_true rfl) dX8_select_34 (fun f7 H locs hM hf9 o8 => ?_)
    have hf9 : f7 (h + 1) = .inr (3, [.ref (h + 1 + 1), .ref (h + 1 + 49), .int (zI a)]) := hf9
    refine lv_iload_n hx hb dX8_select_37 rfl (lv_at hl 0 rfl) ?_
    have hf10 := ho5.kept (o8 (h + 1 + 49) (by omega))
    refine gx_iret hx hb hr hlk hK hM dX8_select_38 (by decide) (by decide) ?_
    exact ⟨cs5, rfl, ⟨hf9, hf10, fun k hk => (ho6 k hk).kept (fun q h1 h2 => o8 q (by have := brB_in (h := h + 1) hk; omega))⟩, (fun q hq => (o8 (q) (by omega)))⟩
  · rw [if_neg cs5]
    refine lv_ifnonnullN hx hb dX8_select_8 ?_
    refine gx_throwSN (is := 216) (text := "no such branch") hx hb hl9 hown hlk hts hxt hE hK hM (hl.1.trans hml.symm) (by decide +kernel) u_943 u_22 (by decide +kernel) dX8_select_11 dX8_select_14 dX8_select_15 dX8_select_17 dX8_select_20 ⟨by decide, by decide, by decide, by decide⟩ (by decide) (by decide) ?_
    exact ⟨rfl, cs5, rfl⟩
