def po_X8_merge (g : gE) (f : gF) (h : Nat) (B P T : Nat → Nat → Int) (sc : Nat → Nat) (pr ex : Nat → Int) (ps : Nat) (sv rs an cs cr : Int) (Tr : Nat → Int) (a : Int) (pz : Nat) (v0 : Int) : Int32 → gF → Prop := fun r f1 => FD ex a ∧ ¬ HELD pr ex ps a ∧ (sRp (T a.toNat) (-1) (↑(sc pz) : Int) (P pz) (sc a.toNat)).1 = false ∧ r = zI ↑(sc a.toNat) ∧ brsAt g f1 (h + 1) B (fu P pz (sRp (T a.toNat) (-1) (↑(sc pz) : Int) (P pz) (sc a.toNat)).2.2) (fu T pz (rcAll (T pz) (sc pz) (T a.toNat) (sc a.toNat))) (fun k => (↑(fu sc pz (sc pz + sc a.toNat) k) : Int)) pr (fu ex a.toNat 0) ↑ps ∧ (∃ Tr1 : Nat → Int, planAt g f1 (h + 581) Tr1) ∧ ∀ q, (q < h + 1 ∨ (h + 291 ≤ q ∧ q < h + 581) ∨ h + 604 ≤ q) → f1 q = f q
def px_X8_merge (g : gE) (f : gF) (h : Nat) (B P T : Nat → Nat → Int) (sc : Nat → Nat) (pr ex : Nat → Int) (ps : Nat) (sv rs an cs cr : Int) (Tr : Nat → Int) (a : Int) (pz : Nat) (v0 : Int) : String → gF → Prop := fun E f1 => (E = exN3 ∧ ¬ FD ex a ∧ f = f1) ∨ (E = exN1 ∧ FD ex a ∧ HELD pr ex ps a ∧ f = f1) ∨ (E = exN4 ∧ FD ex a ∧ ¬ HELD pr ex ps a ∧ (sRp (T a.toNat) (-1) (↑(sc pz) : Int) (P pz) (sc a.toNat)).1 = true ∧ obP f1 h sv rs an ↑(sRp (T a.toNat) (-1) (↑(sc pz) : Int) (P pz) (sc a.toNat)).2.1 (sRef (sRp (T a.toNat) (-1) (↑(sc pz) : Int) (P pz) (sc a.toNat)).2.2 (T a.toNat ((sRp (T a.toNat) (-1) (↑(sc pz) : Int) (P pz) (sc a.toNat)).2.1 * 5)) (T a.toNat ((sRp (T a.toNat) (-1) (↑(sc pz) : Int) (P pz) (sc a.toNat)).2.1 * 5 + 1)) (T a.toNat ((sRp (T a.toNat) (-1) (↑(sc pz) : Int) (P pz) (sc a.toNat)).2.1 * 5 + 2)) (T a.toNat ((sRp (T a.toNat) (-1) (↑(sc pz) : Int) (P pz) (sc a.toNat)).2.1 * 5 + 3)) (T a.toNat ((sRp (T a.toNat) (-1) (↑(sc pz) : Int) (P pz) (sc a.toNat)).2.1 * 5 + 4)) (60 ≤ (↑(sc pz) : Int) + (↑(sRp (T a.toNat) (-1) (↑(sc pz) : Int) (P pz) (sc a.toNat)).2.1 : Int))) ∧ (∃ Tr1 : Nat → Int, planAt g f1 (h + 581) Tr1) ∧ ∀ q, (q < h ∨ (h + 1 ≤ q ∧ q < h + 581) ∨ h + 604 ≤ q) → f1 q = f q)
set_option maxRecDepth 100000 in
set_option maxHeartbeats 1000000 in
/-- merge -/
theorem c_X8_merge (l : Launch) (g : gE) (b0 n : Nat) (f : gF) (h : Nat) (B P T : Nat → Nat → Int) (sc : Nat → Nat) (pr ex : Nat → Int) (ps : Nat) (sv rs an cs cr : Int) (Tr : Nat → Int) (a : Int) (pz : Nat) (v0 : Int) (hl9 : l.stackTraces = false) (hO : obP f h sv rs an cs cr) (hrg : b0 ≤ h ∧ h + 607 ≤ b0 + n) (hS : brsAt g f (h + 1) B P T (fun k => (↑(sc k) : Int)) pr ex (↑ps : Int)) (hex : ∀ k, k < 6 → ex k = 0 ∨ ex k = 1) (hps : ps < 6) (hpx : ex ps = 1) (hpri : ∀ k, k < 6 → rI (pr k)) (hTr : planAt g f (h + 581) Tr) (hsc : ∀ k, k < 6 → sc k ≤ 60) (hokk : ∀ k, k < 6 → pOk (P k) v0) (hv1 : 0 ≤ v0) (hv0 : v0 + 541 * 61 ≤ 800000000) (htO6 : ∀ k, k < 6 → ex k = 1 → tOk (T k) (sc k)) (hra : rI a) (hpz : FD ex a → ¬ HELD pr ex ps a → pr a.toNat = ↑pz ∧ pz < 6 ∧ ex pz = 1 ∧ pz ≠ a.toNat) : cxI l yX8_merge cX8_merge 5 (some .int) 6 158 1 [.ref h, .int (zI a)] g b0 n f (po_X8_merge g f h B P T sc pr ex ps sv rs an cs cr Tr a pz v0) (px_X8_merge g f h B P T sc pr ex ps sv rs an cs cr Tr a pz v0) := by
  refine gs_xi (cc := cX8_merge) (maxL := 5) (ret := (some .int)) (by decide) (Nat.le_of_ble_eq_true rfl) ?_
  intro p e0 s m args below meth c ls hx hb hr hml hown hts hlk hxt hE hK hM hl
  have hl : lv_has ls 5 [(0, .ref h), (1, .int (zI a))] := hl
  refine lv_aload_n hx hb dX8_merge_0 rfl (lv_at hl 0 rfl) ?_
  refine g_get (ci := 10) (v := .ref (h + 1)) (C := RX8) (T := TX8) (N := 9) hx hb hts iU_X8 hown hK hM ⟨by omega, by omega⟩ hO rfl 0 (by decide) (hts _ u_275) (fun _ h9 => h9) rfl dX8_merge_1 ?_
  refine lv_iload_n hx hb dX8_merge_4 rfl (lv_at hl 1 rfl) ?_
  have hC1 := c_X1_branchOrNull l g b0 n f (h + 1) B P T (fun k => (↑(sc k) : Int)) pr ex ps a hS ⟨by omega, by omega⟩ hex hra
  obtain ⟨ho4, ho5, ho6⟩ := id hS
  refine g_callVq (ci := 3) (C := RX1) (T := TX1) (N := 3) (As := [.int (zI a)]) (rest := []) ⟨hx, hb, hml, hown, hts⟩ hK hM hC1 (cuV (n := 1) hts u_370 u_1002 u_2 (by decide) u_368 u_369 ⟨Nat.le_of_ble_eq_true rfl, Nat.le_of_ble_eq_true rfl⟩) ⟨by omega, by omega⟩ ho4 rfl rfl hl.1 rfl (Nat.le_of_ble_eq_true rfl) dX8_merge_5 ⟨Nat.le_of_ble_eq_true rfl, Nat.le_of_ble_eq_true rfl⟩ (fun r5 f2 H locs hM hp3 => ?_)
  obtain ⟨rfl, rfl⟩ := hp3
  unfold fdR
  by_cases cs5 : (0 ≤ a ∧ a < 6 ∧ ex a.toNat = 1)
  · rw [if_pos cs5]
    refine lv_astore_n (lv' := [(2, .ref (brB (h + 1) a.toNat)), (0, .ref h), (1, .int (zI a))]) hx hb dX8_merge_8 rfl hl (by decide) rfl (fun ls hl => ?_)
    refine lv_aload_n hx hb dX8_merge_9 rfl (lv_at hl 0 rfl) ?_
    refine lv_ifnonnull (tgt := 23) hx hb dX8_merge_10 (by decide) ?_
    have hbb7 := brB_in (h := h + 1) (k := a.toNat) (by omega)
    have hbr7 := hS.2.2 a.toNat (by omega)
    have hprr := hpri a.toNat (by omega)
    refine lv_aload_n hx hb dX8_merge_23 rfl (lv_at hl 1 rfl) ?_
    refine g_get (ci := 10) (v := .ref (h + 1)) (C := RX8) (T := TX8) (N := 9) hx hb hts iU_X8 hown hK hM ⟨by omega, by omega⟩ hO rfl 0 (by decide) (hts _ u_275) (fun _ h9 => h9) rfl dX8_merge_24 ?_
    refine lv_aload_n hx hb dX8_merge_27 rfl (lv_at hl 0 rfl) ?_
    obtain ⟨ho8, ho9, ho10, ho11⟩ := id hbr7
    refine g_getN (ci := 2) (v := .int (zI (pr a.toNat))) (C := RX0) (T := TX0) (N := 6) hx hb hts iU_X0 hown hK hM ⟨by omega, by omega⟩ ho8 rfl 4 (by decide) (hts _ u_216) (fun _ h9 => h9) rfl dX8_merge_28 ?_
    have hC12 := c_X1_branchOrNull l g b0 n f (h + 1) B P T (fun k => (↑(sc k) : Int)) pr ex ps (pr a.toNat) hS ⟨by omega, by omega⟩ hex hprr
    refine g_callVq (ci := 3) (C := RX1) (T := TX1) (N := 3) (As := [.int (zI (pr a.toNat))]) (rest := []) ⟨hx, hb, hml, hown, hts⟩ hK hM hC12 (cuV (n := 1) hts u_370 u_1002 u_2 (by decide) u_368 u_369 ⟨Nat.le_of_ble_eq_true rfl, Nat.le_of_ble_eq_true rfl⟩) ⟨by omega, by omega⟩ ho4 rfl rfl hl.1 rfl (Nat.le_of_ble_eq_true rfl) dX8_merge_31 ⟨Nat.le_of_ble_eq_true rfl, Nat.le_of_ble_eq_true rfl⟩ (fun r31 f13 H locs hM hp14 => ?_)
    obtain ⟨rfl, rfl⟩ := hp14
    unfold fdR
    by_cases cs31 : (0 ≤ (pr a.toNat) ∧ (pr a.toNat) < 6 ∧ ex (pr a.toNat).toNat = 1)
    · rw [if_pos cs31]
      refine lv_astore_n (lv' := [(3, .ref (brB (h + 1) (pr a.toNat).toNat)), (2, .ref (brB (h + 1) a.toNat)), (0, .ref h), (1, .int (zI a))]) hx hb dX8_merge_34 rfl hl (by decide) rfl (fun ls hl => ?_)
      refine lv_aload_n hx hb dX8_merge_35 rfl (lv_at hl 0 rfl) ?_
      refine lv_ifnull hx hb dX8_merge_36 ?_
      refine lv_aload_n hx hb dX8_merge_39 rfl (lv_at hl 2 rfl) ?_
      refine g_get (ci := 10) (v := .ref (h + 1)) (C := RX8) (T := TX8) (N := 9) hx hb hts iU_X8 hown hK hM ⟨by omega, by omega⟩ hO rfl 0 (by decide) (hts _ u_275) (fun _ h9 => h9) rfl dX8_merge_40 ?_
      refine lv_iload_n hx hb dX8_merge_43 rfl (lv_at hl 3 rfl) ?_
      have hC15 := c_X1_isRemovable l g b0 n f (h + 1) B P T (fun k => (↑(sc k) : Int)) pr ex ps a hS ⟨by omega, by omega⟩ hex hpri hra hps (by have := sChd_in (pr := pr) (ex := ex) (x := a) 6; exact ⟨by omega, by omega⟩)
      refine g_callVi (ci := 3) (C := RX1) (T := TX1) (N := 3) (As := [.int (zI a)]) (rest := []) ⟨hx, hb, hml, hown, hts⟩ hK hM hC15 (cuV (n := 1) hts u_1014 u_1011 u_2 (by decide) u_1012 u_1013 ⟨Nat.le_of_ble_eq_true rfl, Nat.le_of_ble_eq_true rfl⟩) ⟨by omega, by omega⟩ ho4 rfl rfl hl.1 rfl (Nat.le_of_ble_eq_true rfl) dX8_merge_44 ⟨Nat.le_of_ble_eq_true rfl, Nat.le_of_ble_eq_true rfl⟩ (fun r44 f16 H locs hM hp17 => ?_)
      obtain ⟨rfl, rfl⟩ := hp17
      have hchd := sChd_in (pr := pr) (ex := ex) (x := a) 6
      refine g_ifb_ne (tgt := 60) hx hb dX8_merge_47 (by decide) (fun c47 => ?_) (fun c47 => ?_)
      · skip
        have hnh : ¬ HELD pr ex ps a := by omega
        obtain ⟨hpe, hp6, hpx9, hpne⟩ := hpz cs5 hnh
        have hpn : (pr a.toNat).toNat = pz := by rw [hpe]; exact Int.toNat_natCast pz
        rw [hpn] at hl
        have hbb18 := brB_in (h := h + 1) (k := pz) (by omega)
        have hbr18 := hS.2.2 pz (by omega)
        have hbd := brB_dis (h := h + 1) (k := pz) (j := a.toNat) hpne
        have hsca := hsc a.toNat (by omega)
        have hscz := hsc pz hp6
        refine lv_aload_n hx hb dX8_merge_60 rfl (lv_at hl 2 rfl) ?_
        refine g_get (ci := 10) (v := .ref (h + 581)) (C := RX8) (T := TX8) (N := 9) hx hb hts iU_X8 hown hK hM ⟨by omega, by omega⟩ hO rfl 2 (by decide) (hts _ u_277) (fun _ h9 => h9) rfl dX8_merge_61 ?_
        refine lv_aload_n hx hb dX8_merge_64 rfl (lv_at hl 0 rfl) ?_
        obtain ⟨ho19, ho20, ho21, ho22⟩ := id hbr18
        refine g_getN (ci := 2) (v := .ref ((brB (h + 1) pz) + 24)) (C := RX0) (T := TX0) (N := 6) hx hb hts iU_X0 hown hK hM ⟨by omega, by omega⟩ ho19 rfl 1 (by decide) (hts _ u_210) (fun _ h9 => h9) rfl dX8_merge_65 ?_
        have hC23 := c_X5_copyFrom l g b0 n f (h + 581) ((brB (h + 1) pz) + 24) Tr (P pz) hTr ho21 ⟨by omega, by omega⟩ ⟨by omega, by omega⟩ (by omega)
        obtain ⟨ho26, ho27, ho28, ho29, ho30⟩ := id hTr
        refine g_callVv (ci := 7) (C := RX5) (T := TX5) (N := 11) (As := [.ref ((brB (h + 1) pz) + 24)]) (rest := []) ⟨hx, hb, hml, hown, hts⟩ hK hM hC23 (cuV (n := 1) hts u_561 u_857 u_4 (by decide) u_559 u_560 ⟨Nat.le_of_ble_eq_true rfl, Nat.le_of_ble_eq_true rfl⟩) ⟨by omega, by omega⟩ ho26 rfl rfl hl.1 rfl (Nat.le_of_ble_eq_true rfl) dX8_merge_68 ⟨Nat.le_of_ble_eq_true rfl, Nat.le_of_ble_eq_true rfl⟩ (fun f24 H locs hM hp25 => ?_)
        obtain ⟨hn31, o32⟩ := hp25
        refine lv_aload_n hx hb dX8_merge_71 rfl (lv_at hl 2 rfl) ?_
        refine lv_aload_n hx hb dX8_merge_72 rfl (lv_at hl 1 rfl) ?_
        refine g_iconst hx hb dX8_merge_73 ?_
        refine lv_aload_n hx hb dX8_merge_74 rfl (lv_at hl 0 rfl) ?_
        have hf33 : f24 ((brB (h + 1) pz)) = .inr (2, [.ref ((brB (h + 1) pz) + 1), .ref ((brB (h + 1) pz) + 24), .ref ((brB (h + 1) pz) + 47), .int (zI (↑(sc pz) : Int)), .int (zI (pr pz)), .int (zI (ex pz))]) := (o32 ((brB (h + 1) pz)) (by omega)).trans ho19
        refine g_getN (ci := 2) (v := .int (zI (↑(sc pz) : Int))) (C := RX0) (T := TX0) (N := 6) hx hb hts iU_X0 hown hK hM ⟨by omega, by omega⟩ hf33 rfl 3 (by decide) (hts _ u_213) (fun _ h9 => h9) rfl dX8_merge_75 ?_
        have hf34 : f24 (h) = .inr (10, [.ref (h + 1), .ref (h + 291), .ref (h + 581), .ref (h + 604), .int (zI sv), .int (zI rs), .int (zI an), .int (zI cs), .int (zI cr)]) := (o32 (h) (by omega)).trans hO
        have hf35 := hbr7.kept (fun q h1 h2 => (o32 (q) (by omega)))
        have hC36 := c_X8_replayUntilRefused l g b0 n f24 h sv rs an cs cr (P pz) (brB (h + 1) a.toNat) (B a.toNat) (P a.toNat) (T a.toNat) (sc a.toNat) (pr a.toNat) (ex a.toNat) (-1) (↑(sc pz) : Int) v0 hf34 hrg hn31 hf35 ⟨by omega, by omega⟩ (by omega) (htO6 a.toNat (by omega) cs5.2.2) hsca (hokk pz hp6) hv1 hv0 (by decide) (by omega)
        refine g_callVi (ci := 10) (C := RX8) (T := TX8) (N := 9) (As := [.ref (brB (h + 1) a.toNat), .int (zI (-1)), .int (zI (↑(sc pz) : Int))]) (rest := []) ⟨hx, hb, hml, hown, hts⟩ hK hM hC36 (cuV (n := 3) hts u_1032 u_1029 u_1 (by decide) u_1031 us_25 ⟨Nat.le_of_ble_eq_true rfl, Nat.le_of_ble_eq_true rfl⟩) ⟨by omega, by omega⟩ hf34 rfl rfl hl.1 rfl (Nat.le_of_ble_eq_true rfl) dX8_merge_78 ⟨Nat.le_of_ble_eq_true rfl, Nat.le_of_ble_eq_true rfl⟩ (fun r78 f37 H locs hM hp38 => ?_)
        obtain ⟨rfl, hn39, o40⟩ := hp38
        have hrc := @sRp_cnt (T a.toNat) (-1) (↑(sc pz) : Int) (P pz) (sc a.toNat)
        have hrle : (sRp (T a.toNat) (-1) (↑(sc pz) : Int) (P pz) (sc a.toNat)).2.1 ≤ sc a.toNat := by cases hh : (sRp (T a.toNat) (-1) (↑(sc pz) : Int) (P pz) (sc a.toNat)).1; have := hrc.1 hh; omega; have := hrc.2 hh; omega
        refine lv_istore (lv' := [(4, .int (zI (↑(sRp (T a.toNat) (-1) (↑(sc pz) : Int) (P pz) (sc a.toNat)).2.1 : Int))), (3, .ref (brB (h + 1) pz)), (2, .ref (brB (h + 1) a.toNat)), (0, .ref h), (1, .int (zI a))]) hx hb dX8_merge_81 hl (by decide) rfl (fun ls hl => ?_)
        refine lv_iload hx hb dX8_merge_83 (lv_at hl 0 rfl) ?_
        refine lv_aload_n hx hb dX8_merge_85 rfl (lv_at hl 2 rfl) ?_
        have hf41 : f37 ((brB (h + 1) a.toNat)) = .inr (2, [.ref ((brB (h + 1) a.toNat) + 1), .ref ((brB (h + 1) a.toNat) + 24), .ref ((brB (h + 1) a.toNat) + 47), .int (zI (↑(sc a.toNat) : Int)), .int (zI (pr a.toNat)), .int (zI (ex a.toNat))]) := ((o40 ((brB (h + 1) a.toNat)) (by omega)).trans (o32 ((brB (h + 1) a.toNat)) (by omega))).trans ho8
        refine g_getN (ci := 2) (v := .int (zI (↑(sc a.toNat) : Int))) (C := RX0) (T := TX0) (N := 6) hx hb hts iU_X0 hown hK hM ⟨by omega, by omega⟩ hf41 rfl 3 (by decide) (hts _ u_213) (fun _ h9 => h9) rfl dX8_merge_86 ?_
        refine g_icmp_ge (tgt := 126) hx hb dX8_merge_89 (by decide) ⟨by omega, by omega⟩ ⟨by omega, by omega⟩ (fun c89 => ?_) (fun c89 => ?_)
        · skip
          refine lv_aload_n hx hb dX8_merge_126 rfl (lv_at hl 1 rfl) ?_
          have hf42 : f37 ((brB (h + 1) pz)) = .inr (2, [.ref ((brB (h + 1) pz) + 1), .ref ((brB (h + 1) pz) + 24), .ref ((brB (h + 1) pz) + 47), .int (zI (↑(sc pz) : Int)), .int (zI (pr pz)), .int (zI (ex pz))]) := (o40 ((brB (h + 1) pz)) (by omega)).trans hf33
          refine g_getN (ci := 2) (v := .ref ((brB (h + 1) pz) + 24)) (C := RX0) (T := TX0) (N := 6) hx hb hts iU_X0 hown hK hM ⟨by omega, by omega⟩ hf42 rfl 1 (by decide) (hts _ u_210) (fun _ h9 => h9) rfl dX8_merge_127 ?_
          refine lv_aload_n hx hb dX8_merge_130 rfl (lv_at hl 3 rfl) ?_
          have hf43 : f37 (h) = .inr (10, [.ref (h + 1), .ref (h + 291), .ref (h + 581), .ref (h + 604), .int (zI sv), .int (zI rs), .int (zI an), .int (zI cs), .int (zI cr)]) := (o40 (h) (by omega)).trans hf34
          refine g_get (ci := 10) (v := .ref (h + 581)) (C := RX8) (T := TX8) (N := 9) hx hb hts iU_X8 hown hK hM ⟨by omega, by omega⟩ hf43 rfl 2 (by decide) (hts _ u_277) (fun _ h9 => h9) rfl dX8_merge_131 ?_
          have hf44 := ho21.kept (fun q h1 h2 => ((o40 (q) (by omega)).trans (o32 (q) (by omega))))
          have hC45 := c_X5_copyFrom l g b0 n f37 ((brB (h + 1) pz) + 24) (h + 581) (P pz) ((sRp (T a.toNat) (-1) (↑(sc pz) : Int) (P pz) (sc a.toNat)).2.2) hf44 hn39 ⟨by omega, by omega⟩ ⟨by omega, by omega⟩ (by omega)
          obtain ⟨ho48, ho49, ho50, ho51, ho52⟩ := id hf44
          refine g_callVv (ci := 7) (C := RX5) (T := TX5) (N := 11) (As := [.ref (h + 581)]) (rest := []) ⟨hx, hb, hml, hown, hts⟩ hK hM hC45 (cuV (n := 1) hts u_561 u_857 u_4 (by decide) u_559 u_560 ⟨Nat.le_of_ble_eq_true rfl, Nat.le_of_ble_eq_true rfl⟩) ⟨by omega, by omega⟩ ho48 rfl rfl hl.1 rfl (Nat.le_of_ble_eq_true rfl) dX8_merge_134 ⟨Nat.le_of_ble_eq_true rfl, Nat.le_of_ble_eq_true rfl⟩ (fun f46 H locs hM hp47 => ?_)
          obtain ⟨hn53, o54⟩ := hp47
          refine lv_aload_n hx hb dX8_merge_137 rfl (lv_at hl 1 rfl) ?_
          refine lv_aload_n hx hb dX8_merge_138 rfl (lv_at hl 2 rfl) ?_
          have hf55 := hf35.kept (fun q h1 h2 => ((o54 (q) (by omega)).trans (o40 (q) (by omega))))
          have hf56 : f46 ((brB (h + 1) pz)) = .inr (2, [.ref ((brB (h + 1) pz) + 1), .ref ((brB (h + 1) pz) + 24), .ref ((brB (h + 1) pz) + 47), .int (zI (↑(sc pz) : Int)), .int (zI (pr pz)), .int (zI (ex pz))]) := (o54 ((brB (h + 1) pz)) (by omega)).trans hf42
          have hf57 := ho20.kept (fun q h1 h2 => ((o54 (q) (by omega)).trans ((o40 (q) (by omega)).trans (o32 (q) (by omega)))))
          have hf58 := ho22.kept ((o54 ((brB (h + 1) pz) + 47) (by omega)).trans ((o40 ((brB (h + 1) pz) + 47) (by omega)).trans (o32 ((brB (h + 1) pz) + 47) (by omega))))
          have hbp : brAt g f46 (brB (h + 1) pz) (B pz) (sRp (T a.toNat) (-1) (↑(sc pz) : Int) (P pz) (sc a.toNat)).2.2 (T pz) (↑(sc pz) : Int) (pr pz) (ex pz) := ⟨hf56, hf57, hn53, hf58⟩
          have hcf : (sRp (T a.toNat) (-1) (↑(sc pz) : Int) (P pz) (sc a.toNat)).1 = false := by
            cases hh : (sRp (T a.toNat) (-1) (↑(sc pz) : Int) (P pz) (sc a.toNat)).1
            · rfl
            · have := hrc.2 hh; omega
          have hrm9 := sRp_room hcf
          have hs60 : sc pz + sc a.toNat ≤ 60 := by
            rcases Nat.eq_zero_or_pos (sc a.toNat) with q | q
            · omega
            · have := hrm9 (sc a.toNat - 1) (by omega); omega
          have hC59 := c_X0_recordAllOf l g b0 n f46 (brB (h + 1) pz) (B pz) (sRp (T a.toNat) (-1) (↑(sc pz) : Int) (P pz) (sc a.toNat)).2.2 (T pz) (sc pz) (pr pz) (ex pz) (brB (h + 1) a.toNat) (B a.toNat) (P a.toNat) (T a.toNat) (sc a.toNat) (pr a.toNat) (ex a.toNat) hbp ⟨by omega, by omega⟩ hf55 ⟨by omega, by omega⟩ (by omega) hs60
          refine g_callVv (ci := 2) (C := RX0) (T := TX0) (N := 6) (As := [.ref (brB (h + 1) a.toNat)]) (rest := []) ⟨hx, hb, hml, hown, hts⟩ hK hM hC59 (cuV (n := 1) hts u_1060 u_1057 u_3 (by decide) u_1058 u_1059 ⟨Nat.le_of_ble_eq_true rfl, Nat.le_of_ble_eq_true rfl⟩) ⟨by omega, by omega⟩ hf56 rfl rfl hl.1 rfl (Nat.le_of_ble_eq_true rfl) dX8_merge_139 ⟨Nat.le_of_ble_eq_true rfl, Nat.le_of_ble_eq_true rfl⟩ (fun f60 H locs hM hp61 => ?_)
          obtain ⟨hn62, o63⟩ := hp61
          refine lv_aload_n hx hb dX8_merge_142 rfl (lv_at hl 2 rfl) ?_
          refine g_iconst hx hb dX8_merge_143 ?_
          have hf64 : f60 ((brB (h + 1) a.toNat)) = .inr (2, [.ref ((brB (h + 1) a.toNat) + 1), .ref ((brB (h + 1) a.toNat) + 24), .ref ((brB (h + 1) a.toNat) + 47), .int (zI (↑(sc a.toNat) : Int)), .int (zI (pr a.toNat)), .int (zI (ex a.toNat))]) := ((o63 ((brB (h + 1) a.toNat)) (by omega)).trans (o54 ((brB (h + 1) a.toNat)) (by omega))).trans hf41
          refine g_putN (ci := 2) (v := .int (zI 0)) (ty := .boolean) (C := RX0) (T := TX0) (N := 6) hx hb hts iU_X0 tyX0 tyX0_ok nmX0 hown hK hM ⟨by omega, by omega⟩ hf64 rfl 5 (by decide) (hts _ u_219) (fun _ h9 => h9) rfl (by decide +kernel) (by decide) (by decide) (Nat.le_of_ble_eq_true rfl) dX8_merge_144 (fun f65 H locs hM hf67 o66 => ?_)
          have hf67 : f65 ((brB (h + 1) a.toNat)) = .inr (2, [.ref ((brB (h + 1) a.toNat) + 1), .ref ((brB (h + 1) a.toNat) + 24), .ref ((brB (h + 1) a.toNat) + 47), .int (zI (↑(sc a.toNat) : Int)), .int (zI (pr a.toNat)), .int (zI 0)]) := hf67
          refine lv_iload hx hb dX8_merge_147 (lv_at hl 0 rfl) ?_
          have hf68 := ho9.kept (fun q h1 h2 => ((o66 (q) (by omega)).trans ((o63 (q) (by omega)).trans ((o54 (q) (by omega)).trans ((o40 (q) (by omega)).trans (o32 (q) (by omega)))))))
          have hf69 := ho10.kept (fun q h1 h2 => ((o66 (q) (by omega)).trans ((o63 (q) (by omega)).trans ((o54 (q) (by omega)).trans ((o40 (q) (by omega)).trans (o32 (q) (by omega)))))))
          have hf70 := ho11.kept ((o66 ((brB (h + 1) a.toNat) + 47) (by omega)).trans ((o63 ((brB (h + 1) a.toNat) + 47) (by omega)).trans ((o54 ((brB (h + 1) a.toNat) + 47) (by omega)).trans ((o40 ((brB (h + 1) a.toNat) + 47) (by omega)).trans (o32 ((brB (h + 1) a.toNat) + 47) (by omega))))))
          have hf71 := hn39.kept (fun q h1 h2 => ((o66 (q) (by omega)).trans ((o63 (q) (by omega)).trans (o54 (q) (by omega)))))
          refine gx_iret hx hb hr hlk hK hM dX8_merge_149 (by decide) (by decide) ?_
          have hN1 : brAt g f60 (brB (h + 1) pz) (B pz) (fu P pz (sRp (T a.toNat) (-1) (↑(sc pz) : Int) (P pz) (sc a.toNat)).2.2 pz) (fu T pz (rcAll (T pz) (sc pz) (T a.toNat) (sc a.toNat)) pz) (↑(fu sc pz (sc pz + sc a.toNat) pz) : Int) (pr pz) (ex pz) := by rw [fu_s, fu_s, fu_s]; exact hn62
          have hM1 := hS.oneR (B' := B) (P' := fu P pz (sRp (T a.toNat) (-1) (↑(sc pz) : Int) (P pz) (sc a.toNat)).2.2) (T' := fu T pz (rcAll (T pz) (sc pz) (T a.toNat) (sc a.toNat))) (sc' := fun k => (↑(fu sc pz (sc pz + sc a.toNat) k) : Int)) (pr' := pr) (ex' := ex) hp6 hN1 (fun q h1 h2 hq => ((o63 (q) (by omega)).trans ((o54 (q) (by omega)).trans ((o40 (q) (by omega)).trans (o32 (q) (by omega)))))) (fun k hk hne => ⟨rfl, fu_n hne, fu_n hne, congrArg (fun j : Nat => (j : Int)) (fu_n hne), rfl, rfl⟩)
          have hN2 : brAt g f65 (brB (h + 1) a.toNat) (B a.toNat) (fu P pz (sRp (T a.toNat) (-1) (↑(sc pz) : Int) (P pz) (sc a.toNat)).2.2 a.toNat) (fu T pz (rcAll (T pz) (sc pz) (T a.toNat) (sc a.toNat)) a.toNat) (↑(fu sc pz (sc pz + sc a.toNat) a.toNat) : Int) (pr a.toNat) (fu ex a.toNat 0 a.toNat) := by rw [fu_n (Ne.symm hpne), fu_n (Ne.symm hpne), fu_n (Ne.symm hpne), fu_s]; exact ⟨hf67, hf68, hf69, hf70⟩
          have hM2 := hM1.oneR (j := a.toNat) (B' := B) (P' := fu P pz (sRp (T a.toNat) (-1) (↑(sc pz) : Int) (P pz) (sc a.toNat)).2.2) (T' := fu T pz (rcAll (T pz) (sc pz) (T a.toNat) (sc a.toNat))) (sc' := fun k => (↑(fu sc pz (sc pz + sc a.toNat) k) : Int)) (pr' := pr) (ex' := fu ex a.toNat 0) (by omega) hN2 (fun q h1 h2 hq => (o66 (q) (by omega))) (fun k hk hne => ⟨rfl, rfl, rfl, rfl, rfl, fu_n hne⟩)
          exact ⟨cs5, hnh, hcf, by rw [hrc.1 hcf], hM2, ⟨_, hf71⟩, (fun q hq => ((o66 (q) (by omega)).trans ((o63 (q) (by omega)).trans ((o54 (q) (by omega)).trans ((o40 (q) (by omega)).trans (o32 (q) (by omega)))))))⟩
        · skip
          refine lv_aload_n hx hb dX8_merge_92 rfl (lv_at hl 3 rfl) ?_
          refine lv_iload hx hb dX8_merge_93 (lv_at hl 0 rfl) ?_
          have hf72 : f37 (h) = .inr (10, [.ref (h + 1), .ref (h + 291), .ref (h + 581), .ref (h + 604), .int (zI sv), .int (zI rs), .int (zI an), .int (zI cs), .int (zI cr)]) := (o40 (h) (by omega)).trans hf34
          refine g_put (ci := 10) (v := .int (zI (↑(sRp (T a.toNat) (-1) (↑(sc pz) : Int) (P pz) (sc a.toNat)).2.1 : Int))) (ty := .int) (C := RX8) (T := TX8) (N := 9) hx hb hts iU_X8 tyX8 tyX8_ok nmX8 hown hK hM ⟨by omega, by omega⟩ hf72 rfl 7 (by decide) (hts _ u_282) (fun _ h9 => h9) rfl (by decide +kernel) rfl rfl (Nat.le_of_ble_eq_true rfl) dX8_merge_95 (fun f73 H locs hM hf75 o74 => ?_)
          have hf75 : f73 (h) = .inr (10, [.ref (h + 1), .ref (h + 291), .ref (h + 581), .ref (h + 604), .int (zI sv), .int (zI rs), .int (zI an), .int (zI (↑(sRp (T a.toNat) (-1) (↑(sc pz) : Int) (P pz) (sc a.toNat)).2.1 : Int)), .int (zI cr)]) := hf75
          refine lv_aload_n hx hb dX8_merge_98 rfl (lv_at hl 3 rfl) ?_
          refine lv_aload_n hx hb dX8_merge_99 rfl (lv_at hl 3 rfl) ?_
          refine lv_aload_n hx hb dX8_merge_100 rfl (lv_at hl 2 rfl) ?_
          refine lv_iload hx hb dX8_merge_101 (lv_at hl 0 rfl) ?_
          refine lv_aload_n hx hb dX8_merge_103 rfl (lv_at hl 1 rfl) ?_
          have hf76 : f73 ((brB (h + 1) pz)) = .inr (2, [.ref ((brB (h + 1) pz) + 1), .ref ((brB (h + 1) pz) + 24), .ref ((brB (h + 1) pz) + 47), .int (zI (↑(sc pz) : Int)), .int (zI (pr pz)), .int (zI (ex pz))]) := ((o74 ((brB (h + 1) pz)) (by omega)).trans (o40 ((brB (h + 1) pz)) (by omega))).trans hf33
          refine g_getN (ci := 2) (v := .int (zI (↑(sc pz) : Int))) (C := RX0) (T := TX0) (N := 6) hx hb hts iU_X0 hown hK hM ⟨by omega, by omega⟩ hf76 rfl 3 (by decide) (hts _ u_213) (fun _ h9 => h9) rfl dX8_merge_104 ?_
          refine lv_iload hx hb dX8_merge_107 (lv_at hl 0 rfl) ?_
          refine g_iadd hx hb dX8_merge_109 ?_
          have hf77 := hn39.kept (fun q h1 h2 => (o74 (q) (by omega)))
          have hf78 := hf35.kept (fun q h1 h2 => ((o74 (q) (by omega)).trans (o40 (q) (by omega))))
          have hlt9 : (sRp (T a.toNat) (-1) (↑(sc pz) : Int) (P pz) (sc a.toNat)).2.1 < sc a.toNat := by omega
          have hok9 := sRp_ok (sk := -1) (bf := (↑(sc pz) : Int)) (hokk pz hp6) hv1 (htO6 a.toNat (by omega) cs5.2.2) (n := sc a.toNat) (Nat.le_refl _) (by omega)
          have hC79 := c_X8_refusalOnTrial l g b0 n f73 h sv rs an (↑(sRp (T a.toNat) (-1) (↑(sc pz) : Int) (P pz) (sc a.toNat)).2.1 : Int) cr (sRp (T a.toNat) (-1) (↑(sc pz) : Int) (P pz) (sc a.toNat)).2.2 (brB (h + 1) a.toNat) (B a.toNat) (P a.toNat) (T a.toNat) (sc a.toNat) (pr a.toNat) (ex a.toNat) (sRp (T a.toNat) (-1) (↑(sc pz) : Int) (P pz) (sc a.toNat)).2.1 ((↑(sc pz) : Int) + (↑(sRp (T a.toNat) (-1) (↑(sc pz) : Int) (P pz) (sc a.toNat)).2.1 : Int)) (v0 + 541 * (sc a.toNat)) hf75 hrg hf77 hf78 ⟨by omega, by omega⟩ (by omega) (htO6 a.toNat (by omega) cs5.2.2 _ hlt9) hok9 (by omega) ⟨by omega, by omega⟩
          refine g_callVi (ci := 10) (C := RX8) (T := TX8) (N := 9) (As := [.ref (brB (h + 1) a.toNat), .int (zI (↑(sRp (T a.toNat) (-1) (↑(sc pz) : Int) (P pz) (sc a.toNat)).2.1 : Int)), .int (zI ((↑(sc pz) : Int) + (↑(sRp (T a.toNat) (-1) (↑(sc pz) : Int) (P pz) (sc a.toNat)).2.1 : Int)))]) (rest := [.ref h]) ⟨hx, hb, hml, hown, hts⟩ hK hM hC79 (cuV (n := 3) hts u_1036 u_1033 u_1 (by decide) u_1035 us_26 ⟨Nat.le_of_ble_eq_true rfl, Nat.le_of_ble_eq_true rfl⟩) ⟨by omega, by omega⟩ hf75 rfl rfl hl.1 rfl (Nat.le_of_ble_eq_true rfl) dX8_merge_110 ⟨Nat.le_of_ble_eq_true rfl, Nat.le_of_ble_eq_true rfl⟩ (fun r110 f80 H locs hM hp81 => ?_)
          obtain ⟨rfl, rfl⟩ := hp81
          refine g_put (ci := 10) (v := .int (zI (sRef (sRp (T a.toNat) (-1) (↑(sc pz) : Int) (P pz) (sc a.toNat)).2.2 (T a.toNat ((sRp (T a.toNat) (-1) (↑(sc pz) : Int) (P pz) (sc a.toNat)).2.1 * 5)) (T a.toNat ((sRp (T a.toNat) (-1) (↑(sc pz) : Int) (P pz) (sc a.toNat)).2.1 * 5 + 1)) (T a.toNat ((sRp (T a.toNat) (-1) (↑(sc pz) : Int) (P pz) (sc a.toNat)).2.1 * 5 + 2)) (T a.toNat ((sRp (T a.toNat) (-1) (↑(sc pz) : Int) (P pz) (sc a.toNat)).2.1 * 5 + 3)) (T a.toNat ((sRp (T a.toNat) (-1) (↑(sc pz) : Int) (P pz) (sc a.toNat)).2.1 * 5 + 4)) (60 ≤ (↑(sc pz) : Int) + (↑(sRp (T a.toNat) (-1) (↑(sc pz) : Int) (P pz) (sc a.toNat)).2.1 : Int))))) (ty := .int) (C := RX8) (T := TX8) (N := 9) hx hb hts iU_X8 tyX8 tyX8_ok nmX8 hown hK hM ⟨by omega, by omega⟩ hf75 rfl 8 (by decide) (hts _ u_283) (fun _ h9 => h9) rfl (by decide +kernel) rfl rfl (Nat.le_of_ble_eq_true rfl) dX8_merge_113 (fun f82 H locs hM hf84 o83 => ?_)
          have hf84 : f82 (h) = .inr (10, [.ref (h + 1), .ref (h + 291), .ref (h + 581), .ref (h + 604), .int (zI sv), .int (zI rs), .int (zI an), .int (zI (↑(sRp (T a.toNat) (-1) (↑(sc pz) : Int) (P pz) (sc a.toNat)).2.1 : Int)), .int (zI (sRef (sRp (T a.toNat) (-1) (↑(sc pz) : Int) (P pz) (sc a.toNat)).2.2 (T a.toNat ((sRp (T a.toNat) (-1) (↑(sc pz) : Int) (P pz) (sc a.toNat)).2.1 * 5)) (T a.toNat ((sRp (T a.toNat) (-1) (↑(sc pz) : Int) (P pz) (sc a.toNat)).2.1 * 5 + 1)) (T a.toNat ((sRp (T a.toNat) (-1) (↑(sc pz) : Int) (P pz) (sc a.toNat)).2.1 * 5 + 2)) (T a.toNat ((sRp (T a.toNat) (-1) (↑(sc pz) : Int) (P pz) (sc a.toNat)).2.1 * 5 + 3)) (T a.toNat ((sRp (T a.toNat) (-1) (↑(sc pz) : Int) (P pz) (sc a.toNat)).2.1 * 5 + 4)) (60 ≤ (↑(sc pz) : Int) + (↑(sRp (T a.toNat) (-1) (↑(sc pz) : Int) (P pz) (sc a.toNat)).2.1 : Int))))]) := hf84
          refine gx_throwS (is := 250) (text := "a step would be refused") hx hb hl9 hown hlk hts hxt hE hK hM (hl.1.trans hml.symm) (by decide +kernel) u_1041 u_23 (by decide +kernel) xk_4 xg_4 dX8_merge_116 dX8_merge_119 dX8_merge_120 dX8_merge_122 dX8_merge_125 ⟨by decide, by decide, by decide, by decide⟩ (by decide) (by decide) ?_
          have hf85 := hf77.kept (fun q h1 h2 => (o83 (q) (by omega)))
          have hct : (sRp (T a.toNat) (-1) (↑(sc pz) : Int) (P pz) (sc a.toNat)).1 = true := by
            cases hh : (sRp (T a.toNat) (-1) (↑(sc pz) : Int) (P pz) (sc a.toNat)).1
            · have := hrc.1 hh; omega
            · rfl
          exact Or.inr (Or.inr ⟨rfl, cs5, hnh, hct, hf84, ⟨_, hf85⟩, (fun q hq => ((o83 (q) (by omega)).trans ((o74 (q) (by omega)).trans ((o40 (q) (by omega)).trans (o32 (q) (by omega))))))⟩)
      · skip
        refine gx_throwS (is := 233) (text := "the branch cannot be merged") hx hb hl9 hown hlk hts hxt hE hK hM (hl.1.trans hml.symm) (by decide +kernel) u_690 u_16 (by decide +kernel) xk_1 xg_1 dX8_merge_50 dX8_merge_53 dX8_merge_54 dX8_merge_56 dX8_merge_59 ⟨by decide, by decide, by decide, by decide⟩ (by decide) (by decide) ?_
        refine Or.inr (Or.inl ⟨rfl, cs5, ?_, rfl⟩)
        first | omega | exact Classical.byContradiction (fun hh => cs31 (by obtain ⟨q1, q2, q3, q4⟩ := hpz cs5 hh; rw [q1]; exact ⟨by omega, by omega, by rw [Int.toNat_natCast]; exact q3⟩))
    · rw [if_neg cs31]
      refine lv_astore_nN (lv' := [(3, .null), (2, .ref (brB (h + 1) a.toNat)), (0, .ref h), (1, .int (zI a))]) hx hb dX8_merge_34 rfl hl (by decide) rfl (fun ls hl => ?_)
      refine lv_aload_nN hx hb dX8_merge_35 rfl (lv_at hl 0 rfl) ?_
      refine lv_ifnullN (tgt := 50) hx hb dX8_merge_36 (by decide) ?_
      refine gx_throwS (is := 233) (text := "the branch cannot be merged") hx hb hl9 hown hlk hts hxt hE hK hM (hl.1.trans hml.symm) (by decide +kernel) u_690 u_16 (by decide +kernel) xk_1 xg_1 dX8_merge_50 dX8_merge_53 dX8_merge_54 dX8_merge_56 dX8_merge_59 ⟨by decide, by decide, by decide, by decide⟩ (by decide) (by decide) ?_
      refine Or.inr (Or.inl ⟨rfl, cs5, ?_, rfl⟩)
      first | omega | exact Classical.byContradiction (fun hh => cs31 (by obtain ⟨q1, q2, q3, q4⟩ := hpz cs5 hh; rw [q1]; exact ⟨by omega, by omega, by rw [Int.toNat_natCast]; exact q3⟩))
  · rw [if_neg cs5]
    refine lv_astore_nN (lv' := [(2, .null), (0, .ref h), (1, .int (zI a))]) hx hb dX8_merge_8 rfl hl (by decide) rfl (fun ls hl => ?_)
    refine lv_aload_nN hx hb dX8_merge_9 rfl (lv_at hl 0 rfl) ?_
    refine lv_ifnonnullN hx hb dX8_merge_10 ?_
    refine gx_throwSN (is := 216) (text := "no such branch") hx hb hl9 hown hlk hts hxt hE hK hM (hl.1.trans hml.symm) (by decide +kernel) u_943 u_22 (by decide +kernel) dX8_merge_13 dX8_merge_16 dX8_merge_17 dX8_merge_19 dX8_merge_22 ⟨by decide, by decide, by decide, by decide⟩ (by decide) (by decide) ?_
    exact Or.inl ⟨rfl, cs5, rfl⟩
