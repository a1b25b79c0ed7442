theorem rI_kd {z : Int} (h : 0 ≤ z ∧ z ≤ 12) : rI z := ⟨by omega, by omega⟩
def po_X8_tryStep (g : gE) (f : gF) (h : Nat) (B P T : Nat → Nat → Int) (sc : Nat → Nat) (pr ex : Nat → Int) (ps : Nat) (sv rs an cs cr : Int) (kd a b x y v0 : Int) : Int32 → gF → Prop := fun r f1 => r = zI (tRf P T sc ps kd a b x y) ∧ brsAt g f1 (h + 1) B (tP P T sc ps kd a b x y) (tT P T sc ps kd a b x y) (fun k => (↑(tS P T sc ps kd a b x y k) : Int)) pr ex (↑ps : Int) ∧ obP f1 h sv (tR P T sc ps kd a b x y rs) (tA P T sc ps kd a b x y an) cs cr ∧ ∀ q, (q < h ∨ h + 291 ≤ q) → f1 q = f q
set_option maxRecDepth 100000 in
set_option maxHeartbeats 1000000 in
/-- tryStep -/
theorem c_X8_tryStep (l : Launch) (g : gE) (b0 n : Nat) (f : gF) (h : Nat) (B P T : Nat → Nat → Int) (sc : Nat → Nat) (pr ex : Nat → Int) (ps : Nat) (sv rs an cs cr : Int) (kd a b x y v0 : Int) (hO : obP f h sv rs an cs cr) (hrg : b0 ≤ h ∧ h + 607 ≤ b0 + n) (hS : brsAt g f (h + 1) B P T (fun k => (↑(sc k) : Int)) pr ex (↑ps : Int)) (hex : ∀ k, k < 6 → ex k = 0 ∨ ex k = 1) (hps : ps < 6) (hpx : ex ps = 1) (hok : ∀ k, k < 6 → pOk (P k) v0) (hv1 : 0 ≤ v0) (hv0 : v0 + 541 ≤ 800000000) (hkd : 0 ≤ kd ∧ kd ≤ 12) (hrk : rI kd) (hra : rI a) (hrb : rI b) (hrx : rI x) (hry : rI y) (hsc : ∀ k, k < 6 → sc k ≤ 60) : cI l yX8_tryStep cX8_tryStep 8 (some .int) 5 134 [.ref h, .int (zI kd), .int (zI a), .int (zI b), .int (zI x), .int (zI y)] g b0 n f (po_X8_tryStep g f h B P T sc pr ex ps sv rs an cs cr kd a b x y v0) := by
  refine gs_i (cc := cX8_tryStep) (maxL := 8) (ret := (some .int)) (by decide) (Nat.le_of_ble_eq_true rfl) ?_
  intro p e0 s m args below meth c ls hx hb hr hml hown hts hlk hK hM hl
  have hl : lv_has ls 8 [(0, .ref h), (1, .int (zI kd)), (2, .int (zI a)), (3, .int (zI b)), (4, .int (zI x)), (5, .int (zI y))] := hl
  have hsp := hsc ps hps
  have hbp := brB_in (h := h + 1) (k := ps) hps
  refine lv_aload_n hx hb dX8_tryStep_0 rfl (lv_at hl 0 rfl) ?_
  refine g_get (ci := 10) (v := .ref (h + 1)) (C := RX8) (T := TX8) (N := 9) hx hb hts iU_X8 hown hK hM ⟨by omega, by omega⟩ hO rfl 0 (by decide) (hts _ u_275) (fun _ h9 => h9) rfl dX8_tryStep_1 ?_
  have hC1 := c_X1_here l g b0 n f (h + 1) B P T (fun k => (↑(sc k) : Int)) pr ex ps hS ⟨by omega, by omega⟩ hex hps hpx
  obtain ⟨ho4, ho5, ho6⟩ := id hS
  refine g_callVq (ci := 3) (C := RX1) (T := TX1) (N := 3) (As := []) (rest := []) ⟨hx, hb, hml, hown, hts⟩ hK hM hC1 (cuV (n := 0) hts u_366 u_363 u_2 (by decide) u_364 u_365 ⟨Nat.le_of_ble_eq_true rfl, Nat.le_of_ble_eq_true rfl⟩) ⟨by omega, by omega⟩ ho4 rfl rfl hl.1 rfl (Nat.le_of_ble_eq_true rfl) dX8_tryStep_4 ⟨Nat.zero_le _, Nat.zero_le _⟩ (fun r4 f2 H locs hM hp3 => ?_)
  obtain ⟨rfl, rfl⟩ := hp3
  have hbb7 := brB_in (h := h + 1) (k := ps) (by omega)
  have hbr7 := hS.2.2 ps (by omega)
  refine lv_astore (lv' := [(6, .ref (brB (h + 1) ps)), (0, .ref h), (1, .int (zI kd)), (2, .int (zI a)), (3, .int (zI b)), (4, .int (zI x)), (5, .int (zI y))]) hx hb dX8_tryStep_7 hl (by decide) rfl (fun ls hl => ?_)
  refine lv_aload hx hb dX8_tryStep_9 (lv_at hl 0 rfl) ?_
  obtain ⟨ho8, ho9, ho10, ho11⟩ := id hbr7
  refine g_getN (ci := 2) (v := .ref ((brB (h + 1) ps) + 24)) (C := RX0) (T := TX0) (N := 6) hx hb hts iU_X0 hown hK hM ⟨by omega, by omega⟩ ho8 rfl 1 (by decide) (hts _ u_210) (fun _ h9 => h9) rfl dX8_tryStep_11 ?_
  refine lv_iload_n hx hb dX8_tryStep_14 rfl (lv_at hl 2 rfl) ?_
  refine lv_iload_n hx hb dX8_tryStep_15 rfl (lv_at hl 3 rfl) ?_
  refine lv_iload_n hx hb dX8_tryStep_16 rfl (lv_at hl 4 rfl) ?_
  refine lv_iload hx hb dX8_tryStep_17 (lv_at hl 5 rfl) ?_
  refine lv_iload hx hb dX8_tryStep_19 (lv_at hl 6 rfl) ?_
  refine lv_aload hx hb dX8_tryStep_21 (lv_at hl 0 rfl) ?_
  refine g_getN (ci := 2) (v := .int (zI (↑(sc ps) : Int))) (C := RX0) (T := TX0) (N := 6) hx hb hts iU_X0 hown hK hM ⟨by omega, by omega⟩ ho8 rfl 3 (by decide) (hts _ u_213) (fun _ h9 => h9) rfl dX8_tryStep_23 ?_
  refine g_bipush hx hb dX8_tryStep_26 (by decide) ?_
  refine g_icmp_lt (tgt := 35) hx hb dX8_tryStep_28 (by decide) ⟨by omega, by omega⟩ (by decide) (fun c28 => ?_) (fun c28 => ?_)
  · skip
    refine g_iconst hx hb dX8_tryStep_35 ?_
    have hq12 := c_X5_refusalOf l g b0 n f ((brB (h + 1) ps) + 24) (P ps) kd a b x y false v0 ho10 ⟨by omega, by omega⟩ hrk hra hrb hrx hry (hok ps hps) (by omega)
    rw [hbf] at hq12
    have hC13 := hq12
    obtain ⟨ho16, ho17, ho18, ho19, ho20⟩ := id ho10
    refine g_callVi (ci := 7) (C := RX5) (T := TX5) (N := 11) (As := [.int (zI kd), .int (zI a), .int (zI b), .int (zI x), .int (zI y), .int (zI 0)]) (rest := []) ⟨hx, hb, hml, hown, hts⟩ hK hM hC13 (cuV (n := 6) hts u_374 u_371 u_4 (by decide) u_372 u_373 ⟨Nat.le_of_ble_eq_true rfl, Nat.le_of_ble_eq_true rfl⟩) ⟨by omega, by omega⟩ ho16 rfl rfl hl.1 rfl (Nat.le_of_ble_eq_true rfl) dX8_tryStep_36 ⟨Nat.zero_le _, Nat.zero_le _⟩ (fun r36 f14 H locs hM hp15 => ?_)
    obtain ⟨rfl, rfl⟩ := hp15
    have hrf21 : sRef (P ps) kd a b x y (false = true) = (tRf P T sc ps kd a b x y) := ref_c ⟨fun hh => absurd hh Bool.false_ne_true, fun hh => absurd hh (by omega)⟩
    rw [hrf21]
    refine lv_istore (lv' := [(7, .int (zI (tRf P T sc ps kd a b x y))), (6, .ref (brB (h + 1) ps)), (0, .ref h), (1, .int (zI kd)), (2, .int (zI a)), (3, .int (zI b)), (4, .int (zI x)), (5, .int (zI y))]) hx hb dX8_tryStep_39 hl (by decide) rfl (fun ls hl => ?_)
    refine lv_iload hx hb dX8_tryStep_41 (lv_at hl 0 rfl) ?_
    refine g_if_eq (tgt := 55) hx hb dX8_tryStep_43 (by decide) (by have := @ref_in (P ps) kd a b x y (60 ≤ sc ps) _; unfold tRf; exact ⟨by omega, by omega⟩) (fun c43 => ?_) (fun c43 => ?_)
    · skip
      refine lv_aload_n hx hb dX8_tryStep_55 rfl (lv_at hl 2 rfl) ?_
      refine lv_aload hx hb dX8_tryStep_56 (lv_at hl 1 rfl) ?_
      refine g_getN (ci := 2) (v := .ref ((brB (h + 1) ps) + 24)) (C := RX0) (T := TX0) (N := 6) hx hb hts iU_X0 hown hK hM ⟨by omega, by omega⟩ ho8 rfl 1 (by decide) (hts _ u_210) (fun _ h9 => h9) rfl dX8_tryStep_58 ?_
      refine lv_iload_n hx hb dX8_tryStep_61 rfl (lv_at hl 3 rfl) ?_
      refine lv_iload_n hx hb dX8_tryStep_62 rfl (lv_at hl 4 rfl) ?_
      refine lv_iload_n hx hb dX8_tryStep_63 rfl (lv_at hl 5 rfl) ?_
      refine lv_iload hx hb dX8_tryStep_64 (lv_at hl 6 rfl) ?_
      refine lv_iload hx hb dX8_tryStep_66 (lv_at hl 7 rfl) ?_
      obtain ⟨hnm, hrr, hfl, hrm, hmm⟩ := ref0 (show sRef (P ps) kd a b x y (60 ≤ sc ps) = 0 from c43)
      have hC22 := c_X5_perform l g b0 n f ((brB (h + 1) ps) + 24) (P ps) kd a b x y v0 ho10 ⟨by omega, by omega⟩ hrk hra hrb hrx hry (hok ps hps) hv1 hv0 hkd hnm hrr hrm hmm
      refine g_callVi (ci := 7) (C := RX5) (T := TX5) (N := 11) (As := [.int (zI kd), .int (zI a), .int (zI b), .int (zI x), .int (zI y)]) (rest := [.ref h]) ⟨hx, hb, hml, hown, hts⟩ hK hM hC22 (cuV (n := 5) hts u_435 u_432 u_4 (by decide) u_433 u_434 ⟨Nat.le_of_ble_eq_true rfl, Nat.le_of_ble_eq_true rfl⟩) ⟨by omega, by omega⟩ ho16 rfl rfl hl.1 rfl (Nat.le_of_ble_eq_true rfl) dX8_tryStep_68 ⟨Nat.zero_le _, Nat.zero_le _⟩ (fun r68 f23 H locs hM hp24 => ?_)
      obtain ⟨rfl, hn25, o26⟩ := hp24
      have bo27 := brAt.plan hbr7 hn25 o26
      have hf28 : f23 (h) = .inr (10, [.ref (h + 1), .ref (h + 291), .ref (h + 581), .ref (h + 604), .int (zI sv), .int (zI rs), .int (zI an), .int (zI cs), .int (zI cr)]) := (o26 (h) (by omega)).trans hO
      refine g_put (ci := 10) (v := .int (zI ((sPf (P ps) kd a b x y).1))) (ty := .int) (C := RX8) (T := TX8) (N := 9) hx hb hts iU_X8 tyX8 tyX8_ok nmX8 hown hK hM ⟨by omega, by omega⟩ hf28 rfl 6 (by decide) (hts _ u_281) (fun _ h9 => h9) rfl (by decide +kernel) rfl rfl (Nat.le_of_ble_eq_true rfl) dX8_tryStep_71 (fun f29 H locs hM hf31 o30 => ?_)
      have hf31 : f29 (h) = .inr (10, [.ref (h + 1), .ref (h + 291), .ref (h + 581), .ref (h + 604), .int (zI sv), .int (zI rs), .int (zI ((sPf (P ps) kd a b x y).1)), .int (zI cs), .int (zI cr)]) := hf31
      refine lv_aload hx hb dX8_tryStep_74 (lv_at hl 1 rfl) ?_
      refine lv_iload_n hx hb dX8_tryStep_76 rfl (lv_at hl 3 rfl) ?_
      refine lv_iload_n hx hb dX8_tryStep_77 rfl (lv_at hl 4 rfl) ?_
      refine lv_iload_n hx hb dX8_tryStep_78 rfl (lv_at hl 5 rfl) ?_
      refine lv_iload hx hb dX8_tryStep_79 (lv_at hl 6 rfl) ?_
      refine lv_iload hx hb dX8_tryStep_81 (lv_at hl 7 rfl) ?_
      have hf32 := bo27.kept (fun q h1 h2 => (o30 (q) (by omega)))
      have hC33 := c_X0_record l g b0 n f29 (brB (h + 1) ps) _ _ _ (sc ps) _ _ kd a b x y hf32 ⟨by omega, by omega⟩ (by omega)
      obtain ⟨ho36, ho37, ho38, ho39⟩ := id hf32
      refine g_callVv (ci := 2) (C := RX0) (T := TX0) (N := 6) (As := [.int (zI kd), .int (zI a), .int (zI b), .int (zI x), .int (zI y)]) (rest := []) ⟨hx, hb, hml, hown, hts⟩ hK hM hC33 (cuV (n := 5) hts u_545 u_542 u_3 (by decide) u_543 u_544 ⟨Nat.le_of_ble_eq_true rfl, Nat.le_of_ble_eq_true rfl⟩) ⟨by omega, by omega⟩ ho36 rfl rfl hl.1 rfl (Nat.le_of_ble_eq_true rfl) dX8_tryStep_83 ⟨Nat.zero_le _, Nat.zero_le _⟩ (fun f34 H locs hM hp35 => ?_)
      obtain ⟨hn40, o41⟩ := hp35
      refine g_iconst hx hb dX8_tryStep_86 ?_
      have hf42 : f34 (h) = .inr (10, [.ref (h + 1), .ref (h + 291), .ref (h + 581), .ref (h + 604), .int (zI sv), .int (zI rs), .int (zI ((sPf (P ps) kd a b x y).1)), .int (zI cs), .int (zI cr)]) := (o41 (h) (by omega)).trans hf31
      refine g_iret hx hb hr hlk hK hM dX8_tryStep_87 ?_
      refine ⟨by rw [c43], ?_, ?_, ?_⟩
      · unfold tP tT tS
        rw [if_pos c43, if_pos c43, if_pos c43]
        refine hS.oneR hps ?_ (fun q h1 h2 hq => ((o41 (q) (by omega)).trans ((o30 (q) (by omega)).trans (o26 (q) (by omega))))) (fun k hk hz => ⟨rfl, fu_n hz, fu_n hz, by rw [fu_n hz], rfl, rfl⟩)
        rw [fu_s, fu_s, fu_s]
        exact hn40
      · unfold tR tA
        rw [if_pos c43, if_pos c43]
        exact hf42
      · exact fun q hq => ((o41 (q) (by omega)).trans ((o30 (q) (by omega)).trans (o26 (q) (by omega))))
    · skip
      refine lv_aload_n hx hb dX8_tryStep_46 rfl (lv_at hl 2 rfl) ?_
      refine lv_iload hx hb dX8_tryStep_47 (lv_at hl 0 rfl) ?_
      refine g_put (ci := 10) (v := .int (zI (tRf P T sc ps kd a b x y))) (ty := .int) (C := RX8) (T := TX8) (N := 9) hx hb hts iU_X8 tyX8 tyX8_ok nmX8 hown hK hM ⟨by omega, by omega⟩ hO rfl 5 (by decide) (hts _ u_280) (fun _ h9 => h9) rfl (by decide +kernel) rfl rfl (Nat.le_of_ble_eq_true rfl) dX8_tryStep_49 (fun f43 H locs hM hf45 o44 => ?_)
      have hf45 : f43 (h) = .inr (10, [.ref (h + 1), .ref (h + 291), .ref (h + 581), .ref (h + 604), .int (zI sv), .int (zI (tRf P T sc ps kd a b x y)), .int (zI an), .int (zI cs), .int (zI cr)]) := hf45
      refine lv_iload hx hb dX8_tryStep_52 (lv_at hl 0 rfl) ?_
      have hf46 := hS.kept (fun q h1 h2 => (o44 (q) (by omega)))
      refine g_iret hx hb hr hlk hK hM dX8_tryStep_54 ?_
      refine ⟨rfl, ?_, ?_, ?_⟩
      · unfold tP tT tS
        rw [if_neg c43, if_neg c43, if_neg c43]
        exact hf46
      · unfold tR tA
        rw [if_neg c43, if_neg c43]
        exact hf45
      · exact fun q hq => (o44 (q) (by omega))
  · skip
    refine g_iconst hx hb dX8_tryStep_31 ?_
    refine lv_goto (tgt := 36) hx hb dX8_tryStep_32 (by decide) ?_
    have hq47 := c_X5_refusalOf l g b0 n f ((brB (h + 1) ps) + 24) (P ps) kd a b x y true v0 ho10 ⟨by omega, by omega⟩ hrk hra hrb hrx hry (hok ps hps) (by omega)
    rw [hbt] at hq47
    have hC48 := hq47
    obtain ⟨ho51, ho52, ho53, ho54, ho55⟩ := id ho10
    refine g_callVi (ci := 7) (C := RX5) (T := TX5) (N := 11) (As := [.int (zI kd), .int (zI a), .int (zI b), .int (zI x), .int (zI y), .int (zI 1)]) (rest := []) ⟨hx, hb, hml, hown, hts⟩ hK hM hC48 (cuV (n := 6) hts u_374 u_371 u_4 (by decide) u_372 u_373 ⟨Nat.le_of_ble_eq_true rfl, Nat.le_of_ble_eq_true rfl⟩) ⟨by omega, by omega⟩ ho51 rfl rfl hl.1 rfl (Nat.le_of_ble_eq_true rfl) dX8_tryStep_36 ⟨Nat.zero_le _, Nat.zero_le _⟩ (fun r36 f49 H locs hM hp50 => ?_)
    obtain ⟨rfl, rfl⟩ := hp50
    have hrf56 : sRef (P ps) kd a b x y (true = true) = (tRf P T sc ps kd a b x y) := ref_c ⟨fun _ => by omega, fun _ => rfl⟩
    rw [hrf56]
    refine lv_istore (lv' := [(7, .int (zI (tRf P T sc ps kd a b x y))), (6, .ref (brB (h + 1) ps)), (0, .ref h), (1, .int (zI kd)), (2, .int (zI a)), (3, .int (zI b)), (4, .int (zI x)), (5, .int (zI y))]) hx hb dX8_tryStep_39 hl (by decide) rfl (fun ls hl => ?_)
    refine lv_iload hx hb dX8_tryStep_41 (lv_at hl 0 rfl) ?_
    refine g_if_eq (tgt := 55) hx hb dX8_tryStep_43 (by decide) (by have := @ref_in (P ps) kd a b x y (60 ≤ sc ps) _; unfold tRf; exact ⟨by omega, by omega⟩) (fun c43 => ?_) (fun c43 => ?_)
    · skip
      refine lv_aload_n hx hb dX8_tryStep_55 rfl (lv_at hl 2 rfl) ?_
      refine lv_aload hx hb dX8_tryStep_56 (lv_at hl 1 rfl) ?_
      refine g_getN (ci := 2) (v := .ref ((brB (h + 1) ps) + 24)) (C := RX0) (T := TX0) (N := 6) hx hb hts iU_X0 hown hK hM ⟨by omega, by omega⟩ ho8 rfl 1 (by decide) (hts _ u_210) (fun _ h9 => h9) rfl dX8_tryStep_58 ?_
      refine lv_iload_n hx hb dX8_tryStep_61 rfl (lv_at hl 3 rfl) ?_
      refine lv_iload_n hx hb dX8_tryStep_62 rfl (lv_at hl 4 rfl) ?_
      refine lv_iload_n hx hb dX8_tryStep_63 rfl (lv_at hl 5 rfl) ?_
      refine lv_iload hx hb dX8_tryStep_64 (lv_at hl 6 rfl) ?_
      refine lv_iload hx hb dX8_tryStep_66 (lv_at hl 7 rfl) ?_
      obtain ⟨hnm, hrr, hfl, hrm, hmm⟩ := ref0 (show sRef (P ps) kd a b x y (60 ≤ sc ps) = 0 from c43)
      have hC57 := c_X5_perform l g b0 n f ((brB (h + 1) ps) + 24) (P ps) kd a b x y v0 ho10 ⟨by omega, by omega⟩ hrk hra hrb hrx hry (hok ps hps) hv1 hv0 hkd hnm hrr hrm hmm
      refine g_callVi (ci := 7) (C := RX5) (T := TX5) (N := 11) (As := [.int (zI kd), .int (zI a), .int (zI b), .int (zI x), .int (zI y)]) (rest := [.ref h]) ⟨hx, hb, hml, hown, hts⟩ hK hM hC57 (cuV (n := 5) hts u_435 u_432 u_4 (by decide) u_433 u_434 ⟨Nat.le_of_ble_eq_true rfl, Nat.le_of_ble_eq_true rfl⟩) ⟨by omega, by omega⟩ ho51 rfl rfl hl.1 rfl (Nat.le_of_ble_eq_true rfl) dX8_tryStep_68 ⟨Nat.zero_le _, Nat.zero_le _⟩ (fun r68 f58 H locs hM hp59 => ?_)
      obtain ⟨rfl, hn60, o61⟩ := hp59
      have bo62 := brAt.plan hbr7 hn60 o61
      have hf63 : f58 (h) = .inr (10, [.ref (h + 1), .ref (h + 291), .ref (h + 581), .ref (h + 604), .int (zI sv), .int (zI rs), .int (zI an), .int (zI cs), .int (zI cr)]) := (o61 (h) (by omega)).trans hO
      refine g_put (ci := 10) (v := .int (zI ((sPf (P ps) kd a b x y).1))) (ty := .int) (C := RX8) (T := TX8) (N := 9) hx hb hts iU_X8 tyX8 tyX8_ok nmX8 hown hK hM ⟨by omega, by omega⟩ hf63 rfl 6 (by decide) (hts _ u_281) (fun _ h9 => h9) rfl (by decide +kernel) rfl rfl (Nat.le_of_ble_eq_true rfl) dX8_tryStep_71 (fun f64 H locs hM hf66 o65 => ?_)
      have hf66 : f64 (h) = .inr (10, [.ref (h + 1), .ref (h + 291), .ref (h + 581), .ref (h + 604), .int (zI sv), .int (zI rs), .int (zI ((sPf (P ps) kd a b x y).1)), .int (zI cs), .int (zI cr)]) := hf66
      refine lv_aload hx hb dX8_tryStep_74 (lv_at hl 1 rfl) ?_
      refine lv_iload_n hx hb dX8_tryStep_76 rfl (lv_at hl 3 rfl) ?_
      refine lv_iload_n hx hb dX8_tryStep_77 rfl (lv_at hl 4 rfl) ?_
      refine lv_iload_n hx hb dX8_tryStep_78 rfl (lv_at hl 5 rfl) ?_
      refine lv_iload hx hb dX8_tryStep_79 (lv_at hl 6 rfl) ?_
      refine lv_iload hx hb dX8_tryStep_81 (lv_at hl 7 rfl) ?_
      have hf67 := bo62.kept (fun q h1 h2 => (o65 (q) (by omega)))
      have hC68 := c_X0_record l g b0 n f64 (brB (h + 1) ps) _ _ _ (sc ps) _ _ kd a b x y hf67 ⟨by omega, by omega⟩ (by omega)
      obtain ⟨ho71, ho72, ho73, ho74⟩ := id hf67
      refine g_callVv (ci := 2) (C := RX0) (T := TX0) (N := 6) (As := [.int (zI kd), .int (zI a), .int (zI b), .int (zI x), .int (zI y)]) (rest := []) ⟨hx, hb, hml, hown, hts⟩ hK hM hC68 (cuV (n := 5) hts u_545 u_542 u_3 (by decide) u_543 u_544 ⟨Nat.le_of_ble_eq_true rfl, Nat.le_of_ble_eq_true rfl⟩) ⟨by omega, by omega⟩ ho71 rfl rfl hl.1 rfl (Nat.le_of_ble_eq_true rfl) dX8_tryStep_83 ⟨Nat.zero_le _, Nat.zero_le _⟩ (fun f69 H locs hM hp70 => ?_)
      obtain ⟨hn75, o76⟩ := hp70
      refine g_iconst hx hb dX8_tryStep_86 ?_
      have hf77 : f69 (h) = .inr (10, [.ref (h + 1), .ref (h + 291), .ref (h + 581), .ref (h + 604), .int (zI sv), .int (zI rs), .int (zI ((sPf (P ps) kd a b x y).1)), .int (zI cs), .int (zI cr)]) := (o76 (h) (by omega)).trans hf66
      refine g_iret hx hb hr hlk hK hM dX8_tryStep_87 ?_
      refine ⟨by rw [c43], ?_, ?_, ?_⟩
      · unfold tP tT tS
        rw [if_pos c43, if_pos c43, if_pos c43]
        refine hS.oneR hps ?_ (fun q h1 h2 hq => ((o76 (q) (by omega)).trans ((o65 (q) (by omega)).trans (o61 (q) (by omega))))) (fun k hk hz => ⟨rfl, fu_n hz, fu_n hz, by rw [fu_n hz], rfl, rfl⟩)
        rw [fu_s, fu_s, fu_s]
        exact hn75
      · unfold tR tA
        rw [if_pos c43, if_pos c43]
        exact hf77
      · exact fun q hq => ((o76 (q) (by omega)).trans ((o65 (q) (by omega)).trans (o61 (q) (by omega))))
    · skip
      refine lv_aload_n hx hb dX8_tryStep_46 rfl (lv_at hl 2 rfl) ?_
      refine lv_iload hx hb dX8_tryStep_47 (lv_at hl 0 rfl) ?_
      refine g_put (ci := 10) (v := .int (zI (tRf P T sc ps kd a b x y))) (ty := .int) (C := RX8) (T := TX8) (N := 9) hx hb hts iU_X8 tyX8 tyX8_ok nmX8 hown hK hM ⟨by omega, by omega⟩ hO rfl 5 (by decide) (hts _ u_280) (fun _ h9 => h9) rfl (by decide +kernel) rfl rfl (Nat.le_of_ble_eq_true rfl) dX8_tryStep_49 (fun f78 H locs hM hf80 o79 => ?_)
      have hf80 : f78 (h) = .inr (10, [.ref (h + 1), .ref (h + 291), .ref (h + 581), .ref (h + 604), .int (zI sv), .int (zI (tRf P T sc ps kd a b x y)), .int (zI an), .int (zI cs), .int (zI cr)]) := hf80
      refine lv_iload hx hb dX8_tryStep_52 (lv_at hl 0 rfl) ?_
      have hf81 := hS.kept (fun q h1 h2 => (o79 (q) (by omega)))
      refine g_iret hx hb hr hlk hK hM dX8_tryStep_54 ?_
      refine ⟨rfl, ?_, ?_, ?_⟩
      · unfold tP tT tS
        rw [if_neg c43, if_neg c43, if_neg c43]
        exact hf81
      · unfold tR tA
        rw [if_neg c43, if_neg c43]
        exact hf80
      · exact fun q hq => (o79 (q) (by omega))

def po_X8_refusalOnTrial (g : gE) (f : gF) (h : Nat) (sv rs an cs cr : Int) (X : Nat → Int) (bo : Nat) (Bb Pb Tb : Nat → Int) (scb : Nat) (prb exb : Int) (i : Nat) (z v0 : Int) : Int32 → gF → Prop := fun r f1 => r = zI (sRef X (Tb (i * 5)) (Tb (i * 5 + 1)) (Tb (i * 5 + 2)) (Tb (i * 5 + 3)) (Tb (i * 5 + 4)) (60 ≤ z)) ∧ f = f1
set_option maxRecDepth 100000 in
set_option maxHeartbeats 1000000 in
/-- refusalOnTrial -/
theorem c_X8_refusalOnTrial (l : Launch) (g : gE) (b0 n : Nat) (f : gF) (h : Nat) (sv rs an cs cr : Int) (X : Nat → Int) (bo : Nat) (Bb Pb Tb : Nat → Int) (scb : Nat) (prb exb : Int) (i : Nat) (z v0 : Int) (hO : obP f h sv rs an cs cr) (hrg : b0 ≤ h ∧ h + 607 ≤ b0 + n) (hX : planAt g f (h + 581) X) (hB : brAt g f bo Bb Pb Tb (↑scb) prb exb) (hrb : b0 ≤ bo ∧ bo + 48 ≤ b0 + n) (hi : i < 60) (htk : (0 ≤ Tb (i * 5) ∧ Tb (i * 5) ≤ 12) ∧ rI (Tb (i * 5 + 1)) ∧ rI (Tb (i * 5 + 2)) ∧ rI (Tb (i * 5 + 3)) ∧ rI (Tb (i * 5 + 4))) (hok : pOk X v0) (hv0 : v0 ≤ 800000000) (hrz : rI z) : cI l yX8_refusalOnTrial cX8_refusalOnTrial 4 (some .int) 4 95 [.ref h, .ref bo, .int (zI (↑i : Int)), .int (zI z)] g b0 n f (po_X8_refusalOnTrial g f h sv rs an cs cr X bo Bb Pb Tb scb prb exb i z v0) := by
  refine gs_i (cc := cX8_refusalOnTrial) (maxL := 4) (ret := (some .int)) (by decide) (Nat.le_of_ble_eq_true rfl) ?_
  intro p e0 s m args below meth c ls hx hb hr hml hown hts hlk hK hM hl
  have hl : lv_has ls 4 [(0, .ref h), (1, .ref bo), (2, .int (zI (↑i : Int))), (3, .int (zI z))] := hl
  refine lv_aload_n hx hb dX8_refusalOnTrial_0 rfl (lv_at hl 0 rfl) ?_
  refine g_get (ci := 10) (v := .ref (h + 581)) (C := RX8) (T := TX8) (N := 9) hx hb hts iU_X8 hown hK hM ⟨by omega, by omega⟩ hO rfl 2 (by decide) (hts _ u_277) (fun _ h9 => h9) rfl dX8_refusalOnTrial_1 ?_
  refine lv_aload_n hx hb dX8_refusalOnTrial_4 rfl (lv_at hl 1 rfl) ?_
  refine lv_iload_n hx hb dX8_refusalOnTrial_5 rfl (lv_at hl 2 rfl) ?_
  refine g_iconst hx hb dX8_refusalOnTrial_6 ?_
  have hC1 := c_X0_partOf l g b0 n f bo Bb Pb Tb scb prb exb i 0 hB hrb (by omega) (by omega)
  obtain ⟨ho4, ho5, ho6, ho7⟩ := id hB
  refine g_callVi (ci := 2) (C := RX0) (T := TX0) (N := 6) (As := [.int (zI (↑i : Int)), .int (zI 0)]) (rest := [.ref (h + 581)]) ⟨hx, hb, hml, hown, hts⟩ hK hM hC1 (cuV (n := 2) hts u_1040 u_1037 u_3 (by decide) u_1038 u_1039 ⟨Nat.le_of_ble_eq_true rfl, Nat.le_of_ble_eq_true rfl⟩) ⟨by omega, by omega⟩ ho4 rfl rfl hl.1 rfl (Nat.le_of_ble_eq_true rfl) dX8_refusalOnTrial_7 ⟨Nat.zero_le _, Nat.zero_le _⟩ (fun r7 f2 H locs hM hp3 => ?_)
  obtain ⟨rfl, rfl⟩ := hp3
  refine lv_aload_n hx hb dX8_refusalOnTrial_10 rfl (lv_at hl 1 rfl) ?_
  refine lv_iload_n hx hb dX8_refusalOnTrial_11 rfl (lv_at hl 2 rfl) ?_
  refine g_iconst hx hb dX8_refusalOnTrial_12 ?_
  have hC8 := c_X0_partOf l g b0 n f bo Bb Pb Tb scb prb exb i 1 hB hrb (by omega) (by omega)
  refine g_callVi (ci := 2) (C := RX0) (T := TX0) (N := 6) (As := [.int (zI (↑i : Int)), .int (zI 1)]) (rest := [.int (zI (Tb (i * 5))), .ref (h + 581)]) ⟨hx, hb, hml, hown, hts⟩ hK hM hC8 (cuV (n := 2) hts u_1040 u_1037 u_3 (by decide) u_1038 u_1039 ⟨Nat.le_of_ble_eq_true rfl, Nat.le_of_ble_eq_true rfl⟩) ⟨by omega, by omega⟩ ho4 rfl rfl hl.1 rfl (Nat.le_of_ble_eq_true rfl) dX8_refusalOnTrial_13 ⟨Nat.zero_le _, Nat.zero_le _⟩ (fun r13 f9 H locs hM hp10 => ?_)
  obtain ⟨rfl, rfl⟩ := hp10
  refine lv_aload_n hx hb dX8_refusalOnTrial_16 rfl (lv_at hl 1 rfl) ?_
  refine lv_iload_n hx hb dX8_refusalOnTrial_17 rfl (lv_at hl 2 rfl) ?_
  refine g_iconst hx hb dX8_refusalOnTrial_18 ?_
  have hC11 := c_X0_partOf l g b0 n f bo Bb Pb Tb scb prb exb i 2 hB hrb (by omega) (by omega)
  refine g_callVi (ci := 2) (C := RX0) (T := TX0) (N := 6) (As := [.int (zI (↑i : Int)), .int (zI 2)]) (rest := [.int (zI (Tb (i * 5 + 1))), .int (zI (Tb (i * 5))), .ref (h + 581)]) ⟨hx, hb, hml, hown, hts⟩ hK hM hC11 (cuV (n := 2) hts u_1040 u_1037 u_3 (by decide) u_1038 u_1039 ⟨Nat.le_of_ble_eq_true rfl, Nat.le_of_ble_eq_true rfl⟩) ⟨by omega, by omega⟩ ho4 rfl rfl hl.1 rfl (Nat.le_of_ble_eq_true rfl) dX8_refusalOnTrial_19 ⟨Nat.zero_le _, Nat.zero_le _⟩ (fun r19 f12 H locs hM hp13 => ?_)
  obtain ⟨rfl, rfl⟩ := hp13
  refine lv_aload_n hx hb dX8_refusalOnTrial_22 rfl (lv_at hl 1 rfl) ?_
  refine lv_iload_n hx hb dX8_refusalOnTrial_23 rfl (lv_at hl 2 rfl) ?_
  refine g_iconst hx hb dX8_refusalOnTrial_24 ?_
  have hC14 := c_X0_partOf l g b0 n f bo Bb Pb Tb scb prb exb i 3 hB hrb (by omega) (by omega)
  refine g_callVi (ci := 2) (C := RX0) (T := TX0) (N := 6) (As := [.int (zI (↑i : Int)), .int (zI 3)]) (rest := [.int (zI (Tb (i * 5 + 2))), .int (zI (Tb (i * 5 + 1))), .int (zI (Tb (i * 5))), .ref (h + 581)]) ⟨hx, hb, hml, hown, hts⟩ hK hM hC14 (cuV (n := 2) hts u_1040 u_1037 u_3 (by decide) u_1038 u_1039 ⟨Nat.le_of_ble_eq_true rfl, Nat.le_of_ble_eq_true rfl⟩) ⟨by omega, by omega⟩ ho4 rfl rfl hl.1 rfl (Nat.le_of_ble_eq_true rfl) dX8_refusalOnTrial_25 ⟨Nat.zero_le _, Nat.zero_le _⟩ (fun r25 f15 H locs hM hp16 => ?_)
  obtain ⟨rfl, rfl⟩ := hp16
  refine lv_aload_n hx hb dX8_refusalOnTrial_28 rfl (lv_at hl 1 rfl) ?_
  refine lv_iload_n hx hb dX8_refusalOnTrial_29 rfl (lv_at hl 2 rfl) ?_
  refine g_iconst hx hb dX8_refusalOnTrial_30 ?_
  have hC17 := c_X0_partOf l g b0 n f bo Bb Pb Tb scb prb exb i 4 hB hrb (by omega) (by omega)
  refine g_callVi (ci := 2) (C := RX0) (T := TX0) (N := 6) (As := [.int (zI (↑i : Int)), .int (zI 4)]) (rest := [.int (zI (Tb (i * 5 + 3))), .int (zI (Tb (i * 5 + 2))), .int (zI (Tb (i * 5 + 1))), .int (zI (Tb (i * 5))), .ref (h + 581)]) ⟨hx, hb, hml, hown, hts⟩ hK hM hC17 (cuV (n := 2) hts u_1040 u_1037 u_3 (by decide) u_1038 u_1039 ⟨Nat.le_of_ble_eq_true rfl, Nat.le_of_ble_eq_true rfl⟩) ⟨by omega, by omega⟩ ho4 rfl rfl hl.1 rfl (Nat.le_of_ble_eq_true rfl) dX8_refusalOnTrial_31 ⟨Nat.zero_le _, Nat.zero_le _⟩ (fun r31 f18 H locs hM hp19 => ?_)
  obtain ⟨rfl, rfl⟩ := hp19
  refine lv_iload_n hx hb dX8_refusalOnTrial_34 rfl (lv_at hl 3 rfl) ?_
  refine g_bipush hx hb dX8_refusalOnTrial_35 (by decide) ?_
  refine g_icmp_lt (tgt := 44) hx hb dX8_refusalOnTrial_37 (by decide) hrz (by decide) (fun c37 => ?_) (fun c37 => ?_)
  · skip
    refine g_iconst hx hb dX8_refusalOnTrial_44 ?_
    have hq20 := c_X5_refusalOf l g b0 n f (h + 581) X (Tb (i * 5)) (Tb (i * 5 + 1)) (Tb (i * 5 + 2)) (Tb (i * 5 + 3)) (Tb (i * 5 + 4)) false v0 hX ⟨by omega, by omega⟩ (rI_kd htk.1) (htk.2.1) (htk.2.2.1) (htk.2.2.2.1) (htk.2.2.2.2) hok (by omega)
    rw [hbf] at hq20
    have hC21 := hq20
    obtain ⟨ho24, ho25, ho26, ho27, ho28⟩ := id hX
    refine g_callVi (ci := 7) (C := RX5) (T := TX5) (N := 11) (As := [.int (zI (Tb (i * 5))), .int (zI (Tb (i * 5 + 1))), .int (zI (Tb (i * 5 + 2))), .int (zI (Tb (i * 5 + 3))), .int (zI (Tb (i * 5 + 4))), .int (zI 0)]) (rest := []) ⟨hx, hb, hml, hown, hts⟩ hK hM hC21 (cuV (n := 6) hts u_374 u_371 u_4 (by decide) u_372 u_373 ⟨Nat.le_of_ble_eq_true rfl, Nat.le_of_ble_eq_true rfl⟩) ⟨by omega, by omega⟩ ho24 rfl rfl hl.1 rfl (Nat.le_of_ble_eq_true rfl) dX8_refusalOnTrial_45 ⟨Nat.zero_le _, Nat.zero_le _⟩ (fun r45 f22 H locs hM hp23 => ?_)
    obtain ⟨rfl, rfl⟩ := hp23
    have hrf29 : sRef X (Tb (i * 5)) (Tb (i * 5 + 1)) (Tb (i * 5 + 2)) (Tb (i * 5 + 3)) (Tb (i * 5 + 4)) (false = true) = (sRef X (Tb (i * 5)) (Tb (i * 5 + 1)) (Tb (i * 5 + 2)) (Tb (i * 5 + 3)) (Tb (i * 5 + 4)) (60 ≤ z)) := ref_c ⟨fun hh => absurd hh Bool.false_ne_true, fun hh => absurd hh (by omega)⟩
    rw [hrf29]
    refine g_iret hx hb hr hlk hK hM dX8_refusalOnTrial_48 ?_
    exact ⟨rfl, rfl⟩
  · skip
    refine g_iconst hx hb dX8_refusalOnTrial_40 ?_
    refine lv_goto (tgt := 45) hx hb dX8_refusalOnTrial_41 (by decide) ?_
    have hq30 := c_X5_refusalOf l g b0 n f (h + 581) X (Tb (i * 5)) (Tb (i * 5 + 1)) (Tb (i * 5 + 2)) (Tb (i * 5 + 3)) (Tb (i * 5 + 4)) true v0 hX ⟨by omega, by omega⟩ (rI_kd htk.1) (htk.2.1) (htk.2.2.1) (htk.2.2.2.1) (htk.2.2.2.2) hok (by omega)
    rw [hbt] at hq30
    have hC31 := hq30
    obtain ⟨ho34, ho35, ho36, ho37, ho38⟩ := id hX
    refine g_callVi (ci := 7) (C := RX5) (T := TX5) (N := 11) (As := [.int (zI (Tb (i * 5))), .int (zI (Tb (i * 5 + 1))), .int (zI (Tb (i * 5 + 2))), .int (zI (Tb (i * 5 + 3))), .int (zI (Tb (i * 5 + 4))), .int (zI 1)]) (rest := []) ⟨hx, hb, hml, hown, hts⟩ hK hM hC31 (cuV (n := 6) hts u_374 u_371 u_4 (by decide) u_372 u_373 ⟨Nat.le_of_ble_eq_true rfl, Nat.le_of_ble_eq_true rfl⟩) ⟨by omega, by omega⟩ ho34 rfl rfl hl.1 rfl (Nat.le_of_ble_eq_true rfl) dX8_refusalOnTrial_45 ⟨Nat.zero_le _, Nat.zero_le _⟩ (fun r45 f32 H locs hM hp33 => ?_)
    obtain ⟨rfl, rfl⟩ := hp33
    have hrf39 : sRef X (Tb (i * 5)) (Tb (i * 5 + 1)) (Tb (i * 5 + 2)) (Tb (i * 5 + 3)) (Tb (i * 5 + 4)) (true = true) = (sRef X (Tb (i * 5)) (Tb (i * 5 + 1)) (Tb (i * 5 + 2)) (Tb (i * 5 + 3)) (Tb (i * 5 + 4)) (60 ≤ z)) := ref_c ⟨fun _ => by omega, fun _ => rfl⟩
    rw [hrf39]
    refine g_iret hx hb hr hlk hK hM dX8_refusalOnTrial_48 ?_
    exact ⟨rfl, rfl⟩

def po_X8_replayUntilRefused (g : gE) (f : gF) (h : Nat) (sv rs an cs cr : Int) (X : Nat → Int) (bo : Nat) (Bb Pb Tb : Nat → Int) (scb : Nat) (prb exb : Int) (sk bf v0 : Int) : Int32 → gF → Prop := fun r f1 => r = zI (↑(sRp Tb sk bf X scb).2.1) ∧ planAt g f1 (h + 581) (sRp Tb sk bf X scb).2.2 ∧ ∀ q, (q < h + 581 ∨ h + 604 ≤ q) → f1 q = f q
set_option maxRecDepth 100000 in
set_option maxHeartbeats 1000000 in
/-- replay(source, skipped, stepsBefore) -/
theorem c_X8_replayUntilRefused (l : Launch) (g : gE) (b0 n : Nat) (f : gF) (h : Nat) (sv rs an cs cr : Int) (X : Nat → Int) (bo : Nat) (Bb Pb Tb : Nat → Int) (scb : Nat) (prb exb : Int) (sk bf v0 : Int) (hO : obP f h sv rs an cs cr) (hrg : b0 ≤ h ∧ h + 607 ≤ b0 + n) (hX : planAt g f (h + 581) X) (hB : brAt g f bo Bb Pb Tb (↑scb) prb exb) (hrb : b0 ≤ bo ∧ bo + 48 ≤ b0 + n) (hdj : bo + 48 ≤ h + 581 ∨ h + 604 ≤ bo) (hT : tOk Tb scb) (hsb : scb ≤ 60) (hok : pOk X v0) (hv1 : 0 ≤ v0) (hv0 : v0 + 541 * 61 ≤ 800000000) (hrs : rI sk) (hbf : 0 ≤ bf ∧ bf ≤ 60) : cI l yX8_replayUntilRefused cX8_replayUntilRefused 5 (some .int) 5 134 [.ref h, .ref bo, .int (zI sk), .int (zI bf)] g b0 n f (po_X8_replayUntilRefused g f h sv rs an cs cr X bo Bb Pb Tb scb prb exb sk bf v0) := by
  refine gs_i (cc := cX8_replayUntilRefused) (maxL := 5) (ret := (some .int)) (by decide) (Nat.le_of_ble_eq_true rfl) ?_
  intro p e0 s m args below meth c ls hx hb hr hml hown hts hlk hK hM hl
  have hl : lv_has ls 5 [(0, .ref h), (1, .ref bo), (2, .int (zI sk)), (3, .int (zI bf))] := hl
  refine g_iconst hx hb dX8_replayUntilRefused_0 ?_
  refine lv_istore (lv' := [(4, .int (zI 0)), (0, .ref h), (1, .ref bo), (2, .int (zI sk)), (3, .int (zI bf))]) hx hb dX8_replayUntilRefused_1 hl (by decide) rfl (fun ls hl => ?_)
  have lp3 : ∀ (k : Nat), ∀ (i : Nat) (fL : gF) (H : Heap) (locs : List Loc) (ls : Array Slot), (scb - i < k) → (i ≤ scb) → ((sRp Tb sk bf X i).1 = false) → (∀ q, (q < h + 581 ∨ h + 604 ≤ q) → fL q = f q) → gH g b0 n fL s.heap H locs → (obP fL h sv rs an cs cr) → (planAt g fL (h + 581) (sRp Tb sk bf X i).2.2) → (brAt g fL bo Bb Pb Tb (↑scb) prb exb) → lv_has ls 5 [(0, .ref h), (1, .ref bo), (2, .int (zI sk)), (3, .int (zI bf)), (4, .int (zI (↑i : Int)))] → W p l e0 { frames := 5, cells := 0, slots := 0, locals := 134 } s m args below meth c H locs 0 0 (MQ below (va_Qi (po_X8_replayUntilRefused g f h sv rs an cs cr X bo Bb Pb Tb scb prb exb sk bf v0) (gB g b0 n) (gA b0)) args s 0 0 (gA b0)) (F0 m 3 ls []) := by
    intro k
    induction k with
    | zero =>
      intro i fL H locs ls hk hi hns hfr hM hL0 hL1 hL2 hl
      exact absurd hk (Nat.not_lt_zero _)
    | succ k ih3 =>
      intro i fL H locs ls hk hi hns hfr hM hL0 hL1 hL2 hl
      refine lv_iload hx hb dX8_replayUntilRefused_3 (lv_at hl 4 rfl) ?_
      refine lv_aload_n hx hb dX8_replayUntilRefused_5 rfl (lv_at hl 1 rfl) ?_
      obtain ⟨ho1, ho2, ho3, ho4⟩ := id hL2
      refine g_getN (ci := 2) (v := .int (zI (↑scb : Int))) (C := RX0) (T := TX0) (N := 6) hx hb hts iU_X0 hown hK hM ⟨by omega, by omega⟩ ho1 rfl 3 (by decide) (hts _ u_213) (fun _ h9 => h9) rfl dX8_replayUntilRefused_6 ?_
      refine g_icmp_ge (tgt := 87) hx hb dX8_replayUntilRefused_9 (by decide) ⟨by omega, by omega⟩ ⟨by omega, by omega⟩ (fun c9 => ?_) (fun c9 => ?_)
      · skip
        refine lv_aload_n hx hb dX8_replayUntilRefused_87 rfl (lv_at hl 1 rfl) ?_
        refine g_getN (ci := 2) (v := .int (zI (↑scb : Int))) (C := RX0) (T := TX0) (N := 6) hx hb hts iU_X0 hown hK hM ⟨by omega, by omega⟩ ho1 rfl 3 (by decide) (hts _ u_213) (fun _ h9 => h9) rfl dX8_replayUntilRefused_88 ?_
        refine g_iret hx hb hr hlk hK hM dX8_replayUntilRefused_91 ?_
        have hii : i = scb := by omega
        subst hii
        have hcn := sRp_cnt.1 hns
        unfold po_X8_replayUntilRefused
        rw [hcn]
        exact ⟨rfl, hL1, (fun q hq => (hfr (q) (by omega)))⟩
      · skip
        refine lv_iload hx hb dX8_replayUntilRefused_12 (lv_at hl 4 rfl) ?_
        refine lv_iload_n hx hb dX8_replayUntilRefused_14 rfl (lv_at hl 2 rfl) ?_
        refine g_icmp_ne (tgt := 21) hx hb dX8_replayUntilRefused_15 (by decide) ⟨by omega, by omega⟩ hrs (fun c15 => ?_) (fun c15 => ?_)
        · skip
          refine lv_aload_n hx hb dX8_replayUntilRefused_21 rfl (lv_at hl 0 rfl) ?_
          refine lv_aload_n hx hb dX8_replayUntilRefused_22 rfl (lv_at hl 1 rfl) ?_
          refine lv_iload hx hb dX8_replayUntilRefused_23 (lv_at hl 4 rfl) ?_
          refine lv_iload_n hx hb dX8_replayUntilRefused_25 rfl (lv_at hl 3 rfl) ?_
          refine lv_iload hx hb dX8_replayUntilRefused_26 (lv_at hl 4 rfl) ?_
          refine g_iadd hx hb dX8_replayUntilRefused_28 ?_
          have htk := hT i (by omega)
          have hC5 := c_X8_refusalOnTrial l g b0 n fL h sv rs an cs cr (sRp Tb sk bf X i).2.2 bo Bb Pb Tb scb prb exb i (bf + ↑i) (v0 + 541 * i) hL0 hrg hL1 hL2 hrb (by omega) htk (sRp_ok hok hv1 hT (by omega) (by omega)) (by omega) ⟨by omega, by omega⟩
          refine g_callVi (ci := 10) (C := RX8) (T := TX8) (N := 9) (As := [.ref bo, .int (zI (↑i : Int)), .int (zI (bf + (↑i : Int)))]) (rest := []) ⟨hx, hb, hml, hown, hts⟩ hK hM hC5 (cuV (n := 3) hts u_1036 u_1033 u_1 (by decide) u_1035 us_26 ⟨Nat.le_of_ble_eq_true rfl, Nat.le_of_ble_eq_true rfl⟩) ⟨by omega, by omega⟩ hL0 rfl rfl hl.1 rfl (Nat.le_of_ble_eq_true rfl) dX8_replayUntilRefused_29 ⟨Nat.zero_le _, Nat.zero_le _⟩ (fun r29 f6 H locs hM hp7 => ?_)
          obtain ⟨rfl, rfl⟩ := hp7
          refine g_if_eq (tgt := 38) hx hb dX8_replayUntilRefused_32 (by decide) (by have := @ref_in (sRp Tb sk bf X i).2.2 (Tb (i * 5)) (Tb (i * 5 + 1)) (Tb (i * 5 + 2)) (Tb (i * 5 + 3)) (Tb (i * 5 + 4)) (60 ≤ bf + ↑i) _; exact ⟨by omega, by omega⟩) (fun c32 => ?_) (fun c32 => ?_)
          · skip
            refine lv_aload_n hx hb dX8_replayUntilRefused_38 rfl (lv_at hl 0 rfl) ?_
            refine g_get (ci := 10) (v := .ref (h + 581)) (C := RX8) (T := TX8) (N := 9) hx hb hts iU_X8 hown hK hM ⟨by omega, by omega⟩ hL0 rfl 2 (by decide) (hts _ u_277) (fun _ h9 => h9) rfl dX8_replayUntilRefused_39 ?_
            refine lv_aload_n hx hb dX8_replayUntilRefused_42 rfl (lv_at hl 1 rfl) ?_
            refine lv_iload hx hb dX8_replayUntilRefused_43 (lv_at hl 4 rfl) ?_
            refine g_iconst hx hb dX8_replayUntilRefused_45 ?_
            have hC8 := c_X0_partOf l g b0 n fL bo Bb Pb Tb scb prb exb i 0 hL2 hrb (by omega) (by omega)
            refine g_callVi (ci := 2) (C := RX0) (T := TX0) (N := 6) (As := [.int (zI (↑i : Int)), .int (zI 0)]) (rest := [.ref (h + 581)]) ⟨hx, hb, hml, hown, hts⟩ hK hM hC8 (cuV (n := 2) hts u_1040 u_1037 u_3 (by decide) u_1038 u_1039 ⟨Nat.le_of_ble_eq_true rfl, Nat.le_of_ble_eq_true rfl⟩) ⟨by omega, by omega⟩ ho1 rfl rfl hl.1 rfl (Nat.le_of_ble_eq_true rfl) dX8_replayUntilRefused_46 ⟨Nat.zero_le _, Nat.zero_le _⟩ (fun r46 f9 H locs hM hp10 => ?_)
            obtain ⟨rfl, rfl⟩ := hp10
            refine lv_aload_n hx hb dX8_replayUntilRefused_49 rfl (lv_at hl 1 rfl) ?_
            refine lv_iload hx hb dX8_replayUntilRefused_50 (lv_at hl 4 rfl) ?_
            refine g_iconst hx hb dX8_replayUntilRefused_52 ?_
            have hC11 := c_X0_partOf l g b0 n fL bo Bb Pb Tb scb prb exb i 1 hL2 hrb (by omega) (by omega)
            refine g_callVi (ci := 2) (C := RX0) (T := TX0) (N := 6) (As := [.int (zI (↑i : Int)), .int (zI 1)]) (rest := [.int (zI (Tb (i * 5))), .ref (h + 581)]) ⟨hx, hb, hml, hown, hts⟩ hK hM hC11 (cuV (n := 2) hts u_1040 u_1037 u_3 (by decide) u_1038 u_1039 ⟨Nat.le_of_ble_eq_true rfl, Nat.le_of_ble_eq_true rfl⟩) ⟨by omega, by omega⟩ ho1 rfl rfl hl.1 rfl (Nat.le_of_ble_eq_true rfl) dX8_replayUntilRefused_53 ⟨Nat.zero_le _, Nat.zero_le _⟩ (fun r53 f12 H locs hM hp13 => ?_)
            obtain ⟨rfl, rfl⟩ := hp13
            refine lv_aload_n hx hb dX8_replayUntilRefused_56 rfl (lv_at hl 1 rfl) ?_
            refine lv_iload hx hb dX8_replayUntilRefused_57 (lv_at hl 4 rfl) ?_
            refine g_iconst hx hb dX8_replayUntilRefused_59 ?_
            have hC14 := c_X0_partOf l g b0 n fL bo Bb Pb Tb scb prb exb i 2 hL2 hrb (by omega) (by omega)
            refine g_callVi (ci := 2) (C := RX0) (T := TX0) (N := 6) (As := [.int (zI (↑i : Int)), .int (zI 2)]) (rest := [.int (zI (Tb (i * 5 + 1))), .int (zI (Tb (i * 5))), .ref (h + 581)]) ⟨hx, hb, hml, hown, hts⟩ hK hM hC14 (cuV (n := 2) hts u_1040 u_1037 u_3 (by decide) u_1038 u_1039 ⟨Nat.le_of_ble_eq_true rfl, Nat.le_of_ble_eq_true rfl⟩) ⟨by omega, by omega⟩ ho1 rfl rfl hl.1 rfl (Nat.le_of_ble_eq_true rfl) dX8_replayUntilRefused_60 ⟨Nat.zero_le _, Nat.zero_le _⟩ (fun r60 f15 H locs hM hp16 => ?_)
            obtain ⟨rfl, rfl⟩ := hp16
            refine lv_aload_n hx hb dX8_replayUntilRefused_63 rfl (lv_at hl 1 rfl) ?_
            refine lv_iload hx hb dX8_replayUntilRefused_64 (lv_at hl 4 rfl) ?_
            refine g_iconst hx hb dX8_replayUntilRefused_66 ?_
            have hC17 := c_X0_partOf l g b0 n fL bo Bb Pb Tb scb prb exb i 3 hL2 hrb (by omega) (by omega)
            refine g_callVi (ci := 2) (C := RX0) (T := TX0) (N := 6) (As := [.int (zI (↑i : Int)), .int (zI 3)]) (rest := [.int (zI (Tb (i * 5 + 2))), .int (zI (Tb (i * 5 + 1))), .int (zI (Tb (i * 5))), .ref (h + 581)]) ⟨hx, hb, hml, hown, hts⟩ hK hM hC17 (cuV (n := 2) hts u_1040 u_1037 u_3 (by decide) u_1038 u_1039 ⟨Nat.le_of_ble_eq_true rfl, Nat.le_of_ble_eq_true rfl⟩) ⟨by omega, by omega⟩ ho1 rfl rfl hl.1 rfl (Nat.le_of_ble_eq_true rfl) dX8_replayUntilRefused_67 ⟨Nat.zero_le _, Nat.zero_le _⟩ (fun r67 f18 H locs hM hp19 => ?_)
            obtain ⟨rfl, rfl⟩ := hp19
            refine lv_aload_n hx hb dX8_replayUntilRefused_70 rfl (lv_at hl 1 rfl) ?_
            refine lv_iload hx hb dX8_replayUntilRefused_71 (lv_at hl 4 rfl) ?_
            refine g_iconst hx hb dX8_replayUntilRefused_73 ?_
            have hC20 := c_X0_partOf l g b0 n fL bo Bb Pb Tb scb prb exb i 4 hL2 hrb (by omega) (by omega)
            refine g_callVi (ci := 2) (C := RX0) (T := TX0) (N := 6) (As := [.int (zI (↑i : Int)), .int (zI 4)]) (rest := [.int (zI (Tb (i * 5 + 3))), .int (zI (Tb (i * 5 + 2))), .int (zI (Tb (i * 5 + 1))), .int (zI (Tb (i * 5))), .ref (h + 581)]) ⟨hx, hb, hml, hown, hts⟩ hK hM hC20 (cuV (n := 2) hts u_1040 u_1037 u_3 (by decide) u_1038 u_1039 ⟨Nat.le_of_ble_eq_true rfl, Nat.le_of_ble_eq_true rfl⟩) ⟨by omega, by omega⟩ ho1 rfl rfl hl.1 rfl (Nat.le_of_ble_eq_true rfl) dX8_replayUntilRefused_74 ⟨Nat.zero_le _, Nat.zero_le _⟩ (fun r74 f21 H locs hM hp22 => ?_)
            obtain ⟨rfl, rfl⟩ := hp22
            obtain ⟨hnm, hrr, hfl, hrm, hmm⟩ := ref0 c32
            have hC23 := c_X5_perform l g b0 n fL (h + 581) (sRp Tb sk bf X i).2.2 (Tb (i * 5)) (Tb (i * 5 + 1)) (Tb (i * 5 + 2)) (Tb (i * 5 + 3)) (Tb (i * 5 + 4)) (v0 + 541 * i) hL1 ⟨by omega, by omega⟩ (rI_kd htk.1) (htk.2.1) (htk.2.2.1) (htk.2.2.2.1) (htk.2.2.2.2) (sRp_ok hok hv1 hT (by omega) (by omega)) (by omega) (by omega) htk.1 hnm hrr hrm hmm
            obtain ⟨ho26, ho27, ho28, ho29, ho30⟩ := id hL1
            refine g_callVi (ci := 7) (C := RX5) (T := TX5) (N := 11) (As := [.int (zI (Tb (i * 5))), .int (zI (Tb (i * 5 + 1))), .int (zI (Tb (i * 5 + 2))), .int (zI (Tb (i * 5 + 3))), .int (zI (Tb (i * 5 + 4)))]) (rest := []) ⟨hx, hb, hml, hown, hts⟩ hK hM hC23 (cuV (n := 5) hts u_435 u_432 u_4 (by decide) u_433 u_434 ⟨Nat.le_of_ble_eq_true rfl, Nat.le_of_ble_eq_true rfl⟩) ⟨by omega, by omega⟩ ho26 rfl rfl hl.1 rfl (Nat.le_of_ble_eq_true rfl) dX8_replayUntilRefused_77 ⟨Nat.zero_le _, Nat.zero_le _⟩ (fun r77 f24 H locs hM hp25 => ?_)
            obtain ⟨rfl, hn31, o32⟩ := hp25
            refine lv_pop hx hb dX8_replayUntilRefused_80 rfl ?_
            refine lv_iinc (v := zI ((↑i : Int) + 1)) (lv' := [(4, .int (zI ((↑i : Int) + 1))), (0, .ref h), (1, .ref bo), (2, .int (zI sk)), (3, .int (zI bf))]) hx hb dX8_replayUntilRefused_81 hl (k := 4) rfl (zI_add _ _) (by decide) rfl (fun ls hl => ?_)
            refine lv_goto (tgt := 3) hx hb dX8_replayUntilRefused_84 (by decide) ?_
            have hrs9 : sRp Tb sk bf X (i + 1) = (false, i + 1, (sPf (sRp Tb sk bf X i).2.2 (Tb (i * 5)) (Tb (i * 5 + 1)) (Tb (i * 5 + 2)) (Tb (i * 5 + 3)) (Tb (i * 5 + 4))).2) := by
              show sRpT Tb sk bf i (sRp Tb sk bf X i) = _
              unfold sRpT
              rw [if_neg (by rw [hns]; exact Bool.false_ne_true), if_neg c15, if_pos c32]
            have hf33 : f24 (h) = .inr (10, [.ref (h + 1), .ref (h + 291), .ref (h + 581), .ref (h + 604), .int (zI sv), .int (zI rs), .int (zI an), .int (zI cs), .int (zI cr)]) := (o32 (h) (by omega)).trans hL0
            have hf34 := hL2.kept (fun q h1 h2 => (o32 (q) (by omega)))
            exact ih3 (i + 1) f24 _ _ _ (by omega) (by omega) (by rw [hrs9]) (fun q hq => ((o32 (q) (by omega)).trans (hfr (q) (by omega)))) hM hf33 (by rw [hrs9]; exact hn31) hf34 (lv_sub hl [1, 2, 3, 4, 0] rfl)
          · skip
            refine lv_iload hx hb dX8_replayUntilRefused_35 (lv_at hl 4 rfl) ?_
            refine g_iret hx hb hr hlk hK hM dX8_replayUntilRefused_37 ?_
            have hrs9 : sRp Tb sk bf X (i + 1) = (true, i, (sRp Tb sk bf X i).2.2) := by
              show sRpT Tb sk bf i (sRp Tb sk bf X i) = _
              unfold sRpT
              rw [if_neg (by rw [hns]; exact Bool.false_ne_true), if_neg c15, if_neg c32]
            have hst := sRp_stop (T := Tb) (sk := sk) (bf := bf) (X := X) (i := i + 1) (by rw [hrs9]) (scb - (i + 1))
            rw [show i + 1 + (scb - (i + 1)) = scb by omega, hrs9] at hst
            unfold po_X8_replayUntilRefused
            rw [hst]
            exact ⟨rfl, hL1, (fun q hq => (hfr (q) (by omega)))⟩
        · skip
          refine lv_goto (tgt := 81) hx hb dX8_replayUntilRefused_18 (by decide) ?_
          refine lv_iinc (v := zI ((↑i : Int) + 1)) (lv' := [(4, .int (zI ((↑i : Int) + 1))), (0, .ref h), (1, .ref bo), (2, .int (zI sk)), (3, .int (zI bf))]) hx hb dX8_replayUntilRefused_81 hl (k := 4) rfl (zI_add _ _) (by decide) rfl (fun ls hl => ?_)
          refine lv_goto (tgt := 3) hx hb dX8_replayUntilRefused_84 (by decide) ?_
          have hrs9 : sRp Tb sk bf X (i + 1) = (false, i + 1, (sRp Tb sk bf X i).2.2) := by
            show sRpT Tb sk bf i (sRp Tb sk bf X i) = _
            unfold sRpT
            rw [if_neg (by rw [hns]; exact Bool.false_ne_true), if_pos c15]
          exact ih3 (i + 1) fL _ _ _ (by omega) (by omega) (by rw [hrs9]) (fun q hq => (hfr (q) (by omega))) hM hL0 (by rw [hrs9]; exact hL1) hL2 (lv_sub hl [1, 2, 3, 4, 0] rfl)
  exact lp3 ((scb + 1)) 0 f _ _ _ (by omega) (by omega) rfl (fun q hq => rfl) hM hO hX hB (lv_sub hl [1, 2, 3, 4, 0] rfl)
