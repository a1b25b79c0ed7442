theorem sRp_room {T : Nat → Int} {bf : Int} {X : Nat → Int} : ∀ {n : Nat}, (sRp T (-1) bf X n).1 = false → ∀ i : Nat, i < n → bf + i < 60
  | 0, _, i, hi => absurd hi (Nat.not_lt_zero _)
  | n + 1, h, i, hi => by
    rw [sRp_succ] at h
    unfold sRpT at h
    split at h
    · rename_i h1
      rw [h1] at h; exact Bool.noConfusion h
    · rename_i h1
      split at h
      · rename_i h2; omega
      · split at h
        · rename_i h3
          obtain ⟨_, _, q3, _, _⟩ := ref0 h3
          have ih := sRp_room (n := n) (Bool.eq_false_iff.mpr h1)
          rcases Nat.lt_or_ge i n with q | q
          · exact ih i q
          · have e : i = n := by omega
            subst e; omega
        · exact Bool.noConfusion h

def po_X8_undo (g : gE) (f : gF) (h : Nat) (B P T : Nat → Nat → Int) (sc : Nat → Nat) (pr ex : Nat → Int) (ps : Nat) (sv rs an cs cr : Int) (Tr : Nat → Int) (v0 : Int) : Int32 → gF → Prop := fun r f1 => 0 < sc ps ∧ r = zI (↑(sc ps) - 1) ∧ brsAt g f1 (h + 1) B (fu P ps (sRp (T ps) (↑(sc ps - 1 : Nat) : Int) 0 (B ps) (sc ps)).2.2) (fu T ps (shP (T ps) ((sc ps - 1) * 5) ((sc ps - 1) * 5))) (fun k => (↑(fu sc ps (sc ps - 1) k) : Int)) pr ex ↑ps ∧ (∃ Tr1 : Nat → Int, planAt g f1 (h + 581) Tr1) ∧ ∀ q, (q < h + 1 ∨ (h + 291 ≤ q ∧ q < h + 581) ∨ h + 604 ≤ q) → f1 q = f q
def px_X8_undo (g : gE) (f : gF) (h : Nat) (B P T : Nat → Nat → Int) (sc : Nat → Nat) (pr ex : Nat → Int) (ps : Nat) (sv rs an cs cr : Int) (Tr : Nat → Int) (v0 : Int) : String → gF → Prop := fun E f1 => E = exN1 ∧ sc ps = 0 ∧ f = f1
set_option maxRecDepth 100000 in
set_option maxHeartbeats 1000000 in
/-- undo -/
theorem c_X8_undo (l : Launch) (g : gE) (b0 n : Nat) (f : gF) (h : Nat) (B P T : Nat → Nat → Int) (sc : Nat → Nat) (pr ex : Nat → Int) (ps : Nat) (sv rs an cs cr : Int) (Tr : Nat → Int) (v0 : Int) (hl9 : l.stackTraces = false) (hO : obP f h sv rs an cs cr) (hrg : b0 ≤ h ∧ h + 607 ≤ b0 + n) (hS : brsAt g f (h + 1) B P T (fun k => (↑(sc k) : Int)) pr ex (↑ps : Int)) (hex : ∀ k, k < 6 → ex k = 0 ∨ ex k = 1) (hps : ps < 6) (hpx : ex ps = 1) (hTr : planAt g f (h + 581) Tr) (hsc : ∀ k, k < 6 → sc k ≤ 60) (hokB : pOk (B ps) v0) (hv1 : 0 ≤ v0) (hv0 : v0 + 541 * 61 ≤ 800000000) (htO : tOk (T ps) (sc ps)) : cxI l yX8_undo cX8_undo 3 (some .int) 6 158 1 [.ref h] g b0 n f (po_X8_undo g f h B P T sc pr ex ps sv rs an cs cr Tr v0) (px_X8_undo g f h B P T sc pr ex ps sv rs an cs cr Tr v0) := by
  refine gs_xi (cc := cX8_undo) (maxL := 3) (ret := (some .int)) (by decide) (Nat.le_of_ble_eq_true rfl) ?_
  intro p e0 s m args below meth c ls hx hb hr hml hown hts hlk hxt hE hK hM hl
  have hl : lv_has ls 3 [(0, .ref h)] := hl
  have hscp := hsc ps hps
  refine lv_aload_n hx hb dX8_undo_0 rfl (lv_at hl 0 rfl) ?_
  refine g_get (ci := 10) (v := .ref (h + 1)) (C := RX8) (T := TX8) (N := 9) hx hb hts iU_X8 hown hK hM ⟨by omega, by omega⟩ hO rfl 0 (by decide) (hts _ u_275) (fun _ h9 => h9) rfl dX8_undo_1 ?_
  have hC1 := c_X1_here l g b0 n f (h + 1) B P T (fun k => (↑(sc k) : Int)) pr ex ps hS ⟨by omega, by omega⟩ hex hps hpx
  obtain ⟨ho4, ho5, ho6⟩ := id hS
  refine g_callVq (ci := 3) (C := RX1) (T := TX1) (N := 3) (As := []) (rest := []) ⟨hx, hb, hml, hown, hts⟩ hK hM hC1 (cuV (n := 0) hts u_366 u_363 u_2 (by decide) u_364 u_365 ⟨Nat.le_of_ble_eq_true rfl, Nat.le_of_ble_eq_true rfl⟩) ⟨by omega, by omega⟩ ho4 rfl rfl hl.1 rfl (Nat.le_of_ble_eq_true rfl) dX8_undo_4 ⟨Nat.le_of_ble_eq_true rfl, Nat.le_of_ble_eq_true rfl⟩ (fun r4 f2 H locs hM hp3 => ?_)
  obtain ⟨rfl, rfl⟩ := hp3
  have hbb7 := brB_in (h := h + 1) (k := ps) (by omega)
  have hbr7 := hS.2.2 ps (by omega)
  refine lv_astore_n (lv' := [(1, .ref (brB (h + 1) ps)), (0, .ref h)]) hx hb dX8_undo_7 rfl hl (by decide) rfl (fun ls hl => ?_)
  refine lv_aload_n hx hb dX8_undo_8 rfl (lv_at hl 0 rfl) ?_
  obtain ⟨ho8, ho9, ho10, ho11⟩ := id hbr7
  refine g_getN (ci := 2) (v := .int (zI (↑(sc ps) : Int))) (C := RX0) (T := TX0) (N := 6) hx hb hts iU_X0 hown hK hM ⟨by omega, by omega⟩ ho8 rfl 3 (by decide) (hts _ u_213) (fun _ h9 => h9) rfl dX8_undo_9 ?_
  refine g_if_ne (tgt := 26) hx hb dX8_undo_12 (by decide) ⟨by omega, by omega⟩ (fun c12 => ?_) (fun c12 => ?_)
  · skip
    refine lv_aload_n hx hb dX8_undo_26 rfl (lv_at hl 0 rfl) ?_
    refine g_getN (ci := 2) (v := .int (zI (↑(sc ps) : Int))) (C := RX0) (T := TX0) (N := 6) hx hb hts iU_X0 hown hK hM ⟨by omega, by omega⟩ ho8 rfl 3 (by decide) (hts _ u_213) (fun _ h9 => h9) rfl dX8_undo_27 ?_
    refine g_iconst hx hb dX8_undo_30 ?_
    refine g_isub hx hb dX8_undo_31 ?_
    refine lv_istore_n (lv' := [(2, .int (zI ((↑(sc ps) : Int) - 1))), (1, .ref (brB (h + 1) ps)), (0, .ref h)]) hx hb dX8_undo_32 rfl hl (by decide) rfl (fun ls hl => ?_)
    have hsk : (↑(sc ps) : Int) - 1 = ((sc ps - 1 : Nat) : Int) := by omega
    rw [hsk] at hl
    refine lv_aload_n hx hb dX8_undo_33 rfl (lv_at hl 2 rfl) ?_
    refine g_get (ci := 10) (v := .ref (h + 581)) (C := RX8) (T := TX8) (N := 9) hx hb hts iU_X8 hown hK hM ⟨by omega, by omega⟩ hO rfl 2 (by decide) (hts _ u_277) (fun _ h9 => h9) rfl dX8_undo_34 ?_
    refine lv_aload_n hx hb dX8_undo_37 rfl (lv_at hl 1 rfl) ?_
    refine g_getN (ci := 2) (v := .ref ((brB (h + 1) ps) + 1)) (C := RX0) (T := TX0) (N := 6) hx hb hts iU_X0 hown hK hM ⟨by omega, by omega⟩ ho8 rfl 0 (by decide) (hts _ u_207) (fun _ h9 => h9) rfl dX8_undo_38 ?_
    have hC12 := c_X5_copyFrom l g b0 n f (h + 581) ((brB (h + 1) ps) + 1) Tr (B ps) hTr ho9 ⟨by omega, by omega⟩ ⟨by omega, by omega⟩ (by omega)
    obtain ⟨ho15, ho16, ho17, ho18, ho19⟩ := id hTr
    refine g_callVv (ci := 7) (C := RX5) (T := TX5) (N := 11) (As := [.ref ((brB (h + 1) ps) + 1)]) (rest := []) ⟨hx, hb, hml, hown, hts⟩ hK hM hC12 (cuV (n := 1) hts u_561 u_857 u_4 (by decide) u_559 u_560 ⟨Nat.le_of_ble_eq_true rfl, Nat.le_of_ble_eq_true rfl⟩) ⟨by omega, by omega⟩ ho15 rfl rfl hl.1 rfl (Nat.le_of_ble_eq_true rfl) dX8_undo_41 ⟨Nat.le_of_ble_eq_true rfl, Nat.le_of_ble_eq_true rfl⟩ (fun f13 H locs hM hp14 => ?_)
    obtain ⟨hn20, o21⟩ := hp14
    refine lv_aload_n hx hb dX8_undo_44 rfl (lv_at hl 2 rfl) ?_
    refine lv_aload_n hx hb dX8_undo_45 rfl (lv_at hl 1 rfl) ?_
    refine lv_iload_n hx hb dX8_undo_46 rfl (lv_at hl 0 rfl) ?_
    refine g_iconst hx hb dX8_undo_47 ?_
    have hf22 : f13 (h) = .inr (10, [.ref (h + 1), .ref (h + 291), .ref (h + 581), .ref (h + 604), .int (zI sv), .int (zI rs), .int (zI an), .int (zI cs), .int (zI cr)]) := (o21 (h) (by omega)).trans hO
    have hf23 := hbr7.kept (fun q h1 h2 => (o21 (q) (by omega)))
    have hC24 := c_X8_replayUntilRefused l g b0 n f13 h sv rs an cs cr (B ps) (brB (h + 1) ps) (B ps) (P ps) (T ps) (sc ps) (pr ps) (ex ps) (↑(sc ps - 1 : Nat) : Int) 0 v0 hf22 hrg hn20 hf23 ⟨by omega, by omega⟩ (by omega) htO hscp hokB hv1 hv0 ⟨by omega, by omega⟩ (by omega)
    refine g_callVi (ci := 10) (C := RX8) (T := TX8) (N := 9) (As := [.ref (brB (h + 1) ps), .int (zI (↑(sc ps - 1 : Nat) : Int)), .int (zI 0)]) (rest := []) ⟨hx, hb, hml, hown, hts⟩ hK hM hC24 (cuV (n := 3) hts u_1032 u_1029 u_1 (by decide) u_1031 us_25 ⟨Nat.le_of_ble_eq_true rfl, Nat.le_of_ble_eq_true rfl⟩) ⟨by omega, by omega⟩ hf22 rfl rfl hl.1 rfl (Nat.le_of_ble_eq_true rfl) dX8_undo_48 ⟨Nat.le_of_ble_eq_true rfl, Nat.le_of_ble_eq_true rfl⟩ (fun r48 f25 H locs hM hp26 => ?_)
    obtain ⟨rfl, hn27, o28⟩ := hp26
    have hrc := @sRp_cnt (T ps) (↑(sc ps - 1 : Nat) : Int) 0 (B ps) (sc ps)
    have hrle : (sRp (T ps) (↑(sc ps - 1 : Nat) : Int) 0 (B ps) (sc ps)).2.1 ≤ sc ps := by cases hh : (sRp (T ps) (↑(sc ps - 1 : Nat) : Int) 0 (B ps) (sc ps)).1; have := hrc.1 hh; omega; have := hrc.2 hh; omega
    refine lv_pop hx hb dX8_undo_51 rfl ?_
    refine lv_aload_n hx hb dX8_undo_52 rfl (lv_at hl 1 rfl) ?_
    have hf29 : f25 ((brB (h + 1) ps)) = .inr (2, [.ref ((brB (h + 1) ps) + 1), .ref ((brB (h + 1) ps) + 24), .ref ((brB (h + 1) ps) + 47), .int (zI (↑(sc ps) : Int)), .int (zI (pr ps)), .int (zI (ex ps))]) := ((o28 ((brB (h + 1) ps)) (by omega)).trans (o21 ((brB (h + 1) ps)) (by omega))).trans ho8
    refine g_getN (ci := 2) (v := .ref ((brB (h + 1) ps) + 24)) (C := RX0) (T := TX0) (N := 6) hx hb hts iU_X0 hown hK hM ⟨by omega, by omega⟩ hf29 rfl 1 (by decide) (hts _ u_210) (fun _ h9 => h9) rfl dX8_undo_53 ?_
    refine lv_aload_n hx hb dX8_undo_56 rfl (lv_at hl 2 rfl) ?_
    have hf30 : f25 (h) = .inr (10, [.ref (h + 1), .ref (h + 291), .ref (h + 581), .ref (h + 604), .int (zI sv), .int (zI rs), .int (zI an), .int (zI cs), .int (zI cr)]) := (o28 (h) (by omega)).trans hf22
    refine g_get (ci := 10) (v := .ref (h + 581)) (C := RX8) (T := TX8) (N := 9) hx hb hts iU_X8 hown hK hM ⟨by omega, by omega⟩ hf30 rfl 2 (by decide) (hts _ u_277) (fun _ h9 => h9) rfl dX8_undo_57 ?_
    have hf31 := ho10.kept (fun q h1 h2 => ((o28 (q) (by omega)).trans (o21 (q) (by omega))))
    have hC32 := c_X5_copyFrom l g b0 n f25 ((brB (h + 1) ps) + 24) (h + 581) (P ps) ((sRp (T ps) (↑(sc ps - 1 : Nat) : Int) 0 (B ps) (sc ps)).2.2) hf31 hn27 ⟨by omega, by omega⟩ ⟨by omega, by omega⟩ (by omega)
    obtain ⟨ho35, ho36, ho37, ho38, ho39⟩ := id hf31
    refine g_callVv (ci := 7) (C := RX5) (T := TX5) (N := 11) (As := [.ref (h + 581)]) (rest := []) ⟨hx, hb, hml, hown, hts⟩ hK hM hC32 (cuV (n := 1) hts u_561 u_857 u_4 (by decide) u_559 u_560 ⟨Nat.le_of_ble_eq_true rfl, Nat.le_of_ble_eq_true rfl⟩) ⟨by omega, by omega⟩ ho35 rfl rfl hl.1 rfl (Nat.le_of_ble_eq_true rfl) dX8_undo_60 ⟨Nat.le_of_ble_eq_true rfl, Nat.le_of_ble_eq_true rfl⟩ (fun f33 H locs hM hp34 => ?_)
    obtain ⟨hn40, o41⟩ := hp34
    refine lv_aload_n hx hb dX8_undo_63 rfl (lv_at hl 1 rfl) ?_
    refine lv_iload_n hx hb dX8_undo_64 rfl (lv_at hl 0 rfl) ?_
    have hf42 : f33 ((brB (h + 1) ps)) = .inr (2, [.ref ((brB (h + 1) ps) + 1), .ref ((brB (h + 1) ps) + 24), .ref ((brB (h + 1) ps) + 47), .int (zI (↑(sc ps) : Int)), .int (zI (pr ps)), .int (zI (ex ps))]) := (o41 ((brB (h + 1) ps)) (by omega)).trans hf29
    have hf43 := ho9.kept (fun q h1 h2 => ((o41 (q) (by omega)).trans ((o28 (q) (by omega)).trans (o21 (q) (by omega)))))
    have hf44 := ho11.kept ((o41 ((brB (h + 1) ps) + 47) (by omega)).trans ((o28 ((brB (h + 1) ps) + 47) (by omega)).trans (o21 ((brB (h + 1) ps) + 47) (by omega))))
    have hbo45 : brAt g f33 (brB (h + 1) ps) (B ps) (sRp (T ps) (↑(sc ps - 1 : Nat) : Int) 0 (B ps) (sc ps)).2.2 (T ps) (↑(sc ps) : Int) (pr ps) (ex ps) := ⟨hf42, hf43, hn40, hf44⟩
    have hC46 := c_X0_forget l g b0 n f33 (brB (h + 1) ps) (B ps) (sRp (T ps) (↑(sc ps - 1 : Nat) : Int) 0 (B ps) (sc ps)).2.2 (T ps) (sc ps) (pr ps) (ex ps) (sc ps - 1) hbo45 ⟨by omega, by omega⟩ (by omega) hscp
    refine g_callVv (ci := 2) (C := RX0) (T := TX0) (N := 6) (As := [.int (zI (↑(sc ps - 1 : Nat) : Int))]) (rest := []) ⟨hx, hb, hml, hown, hts⟩ hK hM hC46 (cuV (n := 1) hts u_1105 u_1102 u_3 (by decide) u_1103 u_1104 ⟨Nat.le_of_ble_eq_true rfl, Nat.le_of_ble_eq_true rfl⟩) ⟨by omega, by omega⟩ hf42 rfl rfl hl.1 rfl (Nat.le_of_ble_eq_true rfl) dX8_undo_65 ⟨Nat.le_of_ble_eq_true rfl, Nat.le_of_ble_eq_true rfl⟩ (fun f47 H locs hM hp48 => ?_)
    obtain ⟨hn49, o50⟩ := hp48
    refine lv_aload_n hx hb dX8_undo_68 rfl (lv_at hl 1 rfl) ?_
    obtain ⟨ho51, ho52, ho53, ho54⟩ := id hn49
    refine g_getN (ci := 2) (v := .int (zI ((↑(sc ps) : Int) - 1))) (C := RX0) (T := TX0) (N := 6) hx hb hts iU_X0 hown hK hM ⟨by omega, by omega⟩ ho51 rfl 3 (by decide) (hts _ u_213) (fun _ h9 => h9) rfl dX8_undo_69 ?_
    have hf55 := hn27.kept (fun q h1 h2 => ((o50 (q) (by omega)).trans (o41 (q) (by omega))))
    refine gx_iret hx hb hr hlk hK hM dX8_undo_72 (by decide) (by decide) ?_
    have hsk9 : (↑(sc ps) : Int) - 1 = ((sc ps - 1 : Nat) : Int) := by omega
    have hN : brAt g f47 (brB (h + 1) ps) (B ps) (fu P ps (sRp (T ps) (↑(sc ps - 1 : Nat) : Int) 0 (B ps) (sc ps)).2.2 ps) (fu T ps (shP (T ps) ((sc ps - 1) * 5) ((sc ps - 1) * 5)) ps) (↑(fu sc ps (sc ps - 1) ps) : Int) (pr ps) (ex ps) := by
      have q9 := hn49
      rw [hsk9] at q9
      rw [fu_s, fu_s, fu_s]
      exact q9
    have hNN := hS.oneR (B' := B) (P' := fu P ps (sRp (T ps) (↑(sc ps - 1 : Nat) : Int) 0 (B ps) (sc ps)).2.2) (T' := fu T ps (shP (T ps) ((sc ps - 1) * 5) ((sc ps - 1) * 5))) (sc' := fun k => (↑(fu sc ps (sc ps - 1) k) : Int)) (pr' := pr) (ex' := ex) hps hN (fun q h1 h2 hq => ((o50 (q) (by omega)).trans ((o41 (q) (by omega)).trans ((o28 (q) (by omega)).trans (o21 (q) (by omega)))))) (fun k hk hne => ⟨rfl, fu_n hne, fu_n hne, congrArg (fun j : Nat => (j : Int)) (fu_n hne), rfl, rfl⟩)
    exact ⟨by omega, rfl, hNN, ⟨_, hf55⟩, (fun q hq => ((o50 (q) (by omega)).trans ((o41 (q) (by omega)).trans ((o28 (q) (by omega)).trans (o21 (q) (by omega))))))⟩
  · skip
    refine gx_throwSW (is := 272) (text := "there are no steps") hx hb hl9 hown hlk hts hxt hE hK hM (hl.1.trans hml.symm) (by decide +kernel) u_690 u_16 (by decide +kernel) xk_1 xg_1 dX8_undo_15 dX8_undo_18 dX8_undo_19 dX8_undo_22 dX8_undo_25 ⟨by decide, by decide, by decide, by decide⟩ (by decide) (by decide) ?_
    exact ⟨rfl, by omega, rfl⟩

def po_X8_dropStep (g : gE) (f : gF) (h : Nat) (B P T : Nat → Nat → Int) (sc : Nat → Nat) (pr ex : Nat → Int) (ps : Nat) (sv rs an cs cr : Int) (Tr : Nat → Int) (a v0 : Int) : Int32 → gF → Prop := fun r f1 => (0 ≤ a ∧ a < ↑(sc ps) - 1) ∧ (sRp (T ps) (↑a.toNat : Int) 0 (B ps) (sc ps)).1 = false ∧ r = zI (↑(sc ps) - 1) ∧ brsAt g f1 (h + 1) B (fu P ps (sRp (T ps) (↑a.toNat : Int) 0 (B ps) (sc ps)).2.2) (fu T ps (shP (T ps) (a.toNat * 5) ((sc ps - 1) * 5))) (fun k => (↑(fu sc ps (sc ps - 1) k) : Int)) pr ex ↑ps ∧ (∃ Tr1 : Nat → Int, planAt g f1 (h + 581) Tr1) ∧ ∀ q, (q < h + 1 ∨ (h + 291 ≤ q ∧ q < h + 581) ∨ h + 604 ≤ q) → f1 q = f q
def px_X8_dropStep (g : gE) (f : gF) (h : Nat) (B P T : Nat → Nat → Int) (sc : Nat → Nat) (pr ex : Nat → Int) (ps : Nat) (sv rs an cs cr : Int) (Tr : Nat → Int) (a v0 : Int) : String → gF → Prop := fun E f1 => (E = exN2 ∧ ¬ (0 ≤ a ∧ a < ↑(sc ps) - 1) ∧ f = f1) ∨ (E = exN4 ∧ (0 ≤ a ∧ a < ↑(sc ps) - 1) ∧ (sRp (T ps) (↑a.toNat : Int) 0 (B ps) (sc ps)).1 = true ∧ (∃ Tr1 : Nat → Int, planAt g f1 (h + 581) Tr1) ∧ ∀ q, (q < h + 581 ∨ h + 604 ≤ q) → f1 q = f q)
set_option maxRecDepth 100000 in
set_option maxHeartbeats 1000000 in
/-- dropStep -/
theorem c_X8_dropStep (l : Launch) (g : gE) (b0 n : Nat) (f : gF) (h : Nat) (B P T : Nat → Nat → Int) (sc : Nat → Nat) (pr ex : Nat → Int) (ps : Nat) (sv rs an cs cr : Int) (Tr : Nat → Int) (a v0 : Int) (hl9 : l.stackTraces = false) (hO : obP f h sv rs an cs cr) (hrg : b0 ≤ h ∧ h + 607 ≤ b0 + n) (hS : brsAt g f (h + 1) B P T (fun k => (↑(sc k) : Int)) pr ex (↑ps : Int)) (hex : ∀ k, k < 6 → ex k = 0 ∨ ex k = 1) (hps : ps < 6) (hpx : ex ps = 1) (hTr : planAt g f (h + 581) Tr) (hsc : ∀ k, k < 6 → sc k ≤ 60) (hokB : pOk (B ps) v0) (hv1 : 0 ≤ v0) (hv0 : v0 + 541 * 61 ≤ 800000000) (htO : tOk (T ps) (sc ps)) (hra : rI a) : cxI l yX8_dropStep cX8_dropStep 3 (some .int) 7 158 2 [.ref h, .int (zI a)] g b0 n f (po_X8_dropStep g f h B P T sc pr ex ps sv rs an cs cr Tr a v0) (px_X8_dropStep g f h B P T sc pr ex ps sv rs an cs cr Tr a v0) := by
  refine gs_xi (cc := cX8_dropStep) (maxL := 3) (ret := (some .int)) (by decide) (Nat.le_of_ble_eq_true rfl) ?_
  intro p e0 s m args below meth c ls hx hb hr hml hown hts hlk hxt hE hK hM hl
  have hl : lv_has ls 3 [(0, .ref h), (1, .int (zI a))] := hl
  have hscp := hsc ps hps
  refine lv_aload_n hx hb dX8_dropStep_0 rfl (lv_at hl 0 rfl) ?_
  refine g_get (ci := 10) (v := .ref (h + 1)) (C := RX8) (T := TX8) (N := 9) hx hb hts iU_X8 hown hK hM ⟨by omega, by omega⟩ hO rfl 0 (by decide) (hts _ u_275) (fun _ h9 => h9) rfl dX8_dropStep_1 ?_
  have hC1 := c_X1_here l g b0 n f (h + 1) B P T (fun k => (↑(sc k) : Int)) pr ex ps hS ⟨by omega, by omega⟩ hex hps hpx
  obtain ⟨ho4, ho5, ho6⟩ := id hS
  refine g_callVq (ci := 3) (C := RX1) (T := TX1) (N := 3) (As := []) (rest := []) ⟨hx, hb, hml, hown, hts⟩ hK hM hC1 (cuV (n := 0) hts u_366 u_363 u_2 (by decide) u_364 u_365 ⟨Nat.le_of_ble_eq_true rfl, Nat.le_of_ble_eq_true rfl⟩) ⟨by omega, by omega⟩ ho4 rfl rfl hl.1 rfl (Nat.le_of_ble_eq_true rfl) dX8_dropStep_4 ⟨Nat.le_of_ble_eq_true rfl, Nat.le_of_ble_eq_true rfl⟩ (fun r4 f2 H locs hM hp3 => ?_)
  obtain ⟨rfl, rfl⟩ := hp3
  have hbb7 := brB_in (h := h + 1) (k := ps) (by omega)
  have hbr7 := hS.2.2 ps (by omega)
  refine lv_astore_n (lv' := [(2, .ref (brB (h + 1) ps)), (0, .ref h), (1, .int (zI a))]) hx hb dX8_dropStep_7 rfl hl (by decide) rfl (fun ls hl => ?_)
  refine lv_iload_n hx hb dX8_dropStep_8 rfl (lv_at hl 2 rfl) ?_
  refine g_iconst hx hb dX8_dropStep_9 ?_
  refine lv_aload_n hx hb dX8_dropStep_10 rfl (lv_at hl 0 rfl) ?_
  obtain ⟨ho8, ho9, ho10, ho11⟩ := id hbr7
  refine g_getN (ci := 2) (v := .int (zI (↑(sc ps) : Int))) (C := RX0) (T := TX0) (N := 6) hx hb hts iU_X0 hown hK hM ⟨by omega, by omega⟩ ho8 rfl 3 (by decide) (hts _ u_213) (fun _ h9 => h9) rfl dX8_dropStep_11 ?_
  refine g_iconst hx hb dX8_dropStep_14 ?_
  refine g_isub hx hb dX8_dropStep_15 ?_
  have hC12 := c_X8_isWithin l g b0 n f a 0 ((↑(sc ps) : Int) - 2) hra (by decide) ⟨by omega, by omega⟩
  refine g_callSi (As := [.int (zI a), .int (zI 0), .int (zI ((↑(sc ps) : Int) - 2))]) (rest := []) ⟨hx, hb, hml, hown, hts⟩ hK hM hC12 (cuS (n := 3) hts u_406 u_824 u_1 (by decide) u_405 ⟨Nat.le_of_ble_eq_true rfl, Nat.le_of_ble_eq_true rfl⟩) rfl hl.1 rfl (Nat.le_of_ble_eq_true rfl) dX8_dropStep_16 ⟨Nat.le_of_ble_eq_true rfl, Nat.le_of_ble_eq_true rfl⟩ (fun r16 f13 H locs hM hp14 => ?_)
  obtain ⟨rfl, rfl⟩ := hp14
  have hC15 := c_X8_requirePart l g b0 n f (0 ≤ a ∧ a ≤ ((↑(sc ps) : Int) - 2)) hl9
  refine gx_callSv (As := [.int (bI (0 ≤ a ∧ a ≤ ((↑(sc ps) : Int) - 2)))]) (rest := []) ⟨hx, hb, hml, hown, hts⟩ hK hM hE hC15 (cuSx (n := 1) hts u_822 u_820 u_1 (by decide) u_821 ⟨Nat.le_of_ble_eq_true rfl, Nat.le_of_ble_eq_true rfl⟩) rfl hl.1 rfl (Nat.le_of_ble_eq_true rfl) dX8_dropStep_19 ⟨(Nat.le_of_ble_eq_true rfl), (Nat.le_of_ble_eq_true rfl)⟩ (fun E9 ce9 q9 f16 H locs hM hp17 h91 h92 h93 => gx_pass hxt hlk hK hM ?_ h91 h92 h93 (by decide) (by decide)) (fun f16 H locs hM hp17 => ?_)
  · skip
    obtain ⟨hE9, hn9, rfl⟩ := hp17
    exact Or.inl ⟨hE9, by omega, rfl⟩
  · skip
    obtain ⟨hrq18, rfl⟩ := hp17
    have hae : a = ((a.toNat : Nat) : Int) := by omega
    have hl8 := hl
    rw [hae] at hl8
    have hl := hl8
    refine lv_aload_n hx hb dX8_dropStep_22 rfl (lv_at hl 1 rfl) ?_
    refine g_get (ci := 10) (v := .ref (h + 581)) (C := RX8) (T := TX8) (N := 9) hx hb hts iU_X8 hown hK hM ⟨by omega, by omega⟩ hO rfl 2 (by decide) (hts _ u_277) (fun _ h9 => h9) rfl dX8_dropStep_23 ?_
    refine lv_aload_n hx hb dX8_dropStep_26 rfl (lv_at hl 0 rfl) ?_
    refine g_getN (ci := 2) (v := .ref ((brB (h + 1) ps) + 1)) (C := RX0) (T := TX0) (N := 6) hx hb hts iU_X0 hown hK hM ⟨by omega, by omega⟩ ho8 rfl 0 (by decide) (hts _ u_207) (fun _ h9 => h9) rfl dX8_dropStep_27 ?_
    have hC19 := c_X5_copyFrom l g b0 n f (h + 581) ((brB (h + 1) ps) + 1) Tr (B ps) hTr ho9 ⟨by omega, by omega⟩ ⟨by omega, by omega⟩ (by omega)
    obtain ⟨ho22, ho23, ho24, ho25, ho26⟩ := id hTr
    refine g_callVv (ci := 7) (C := RX5) (T := TX5) (N := 11) (As := [.ref ((brB (h + 1) ps) + 1)]) (rest := []) ⟨hx, hb, hml, hown, hts⟩ hK hM hC19 (cuV (n := 1) hts u_561 u_857 u_4 (by decide) u_559 u_560 ⟨Nat.le_of_ble_eq_true rfl, Nat.le_of_ble_eq_true rfl⟩) ⟨by omega, by omega⟩ ho22 rfl rfl hl.1 rfl (Nat.le_of_ble_eq_true rfl) dX8_dropStep_30 ⟨Nat.le_of_ble_eq_true rfl, Nat.le_of_ble_eq_true rfl⟩ (fun f20 H locs hM hp21 => ?_)
    obtain ⟨hn27, o28⟩ := hp21
    refine lv_aload_n hx hb dX8_dropStep_33 rfl (lv_at hl 1 rfl) ?_
    refine lv_aload_n hx hb dX8_dropStep_34 rfl (lv_at hl 0 rfl) ?_
    refine lv_iload_n hx hb dX8_dropStep_35 rfl (lv_at hl 2 rfl) ?_
    refine g_iconst hx hb dX8_dropStep_36 ?_
    have hf29 : f20 (h) = .inr (10, [.ref (h + 1), .ref (h + 291), .ref (h + 581), .ref (h + 604), .int (zI sv), .int (zI rs), .int (zI an), .int (zI cs), .int (zI cr)]) := (o28 (h) (by omega)).trans hO
    have hf30 := hbr7.kept (fun q h1 h2 => (o28 (q) (by omega)))
    have hC31 := c_X8_replayUntilRefused l g b0 n f20 h sv rs an cs cr (B ps) (brB (h + 1) ps) (B ps) (P ps) (T ps) (sc ps) (pr ps) (ex ps) (↑a.toNat : Int) 0 v0 hf29 hrg hn27 hf30 ⟨by omega, by omega⟩ (by omega) htO hscp hokB hv1 hv0 ⟨by omega, by omega⟩ (by omega)
    refine g_callVi (ci := 10) (C := RX8) (T := TX8) (N := 9) (As := [.ref (brB (h + 1) ps), .int (zI (↑a.toNat : Int)), .int (zI 0)]) (rest := []) ⟨hx, hb, hml, hown, hts⟩ hK hM hC31 (cuV (n := 3) hts u_1032 u_1029 u_1 (by decide) u_1031 us_25 ⟨Nat.le_of_ble_eq_true rfl, Nat.le_of_ble_eq_true rfl⟩) ⟨by omega, by omega⟩ hf29 rfl rfl hl.1 rfl (Nat.le_of_ble_eq_true rfl) dX8_dropStep_37 ⟨Nat.le_of_ble_eq_true rfl, Nat.le_of_ble_eq_true rfl⟩ (fun r37 f32 H locs hM hp33 => ?_)
    obtain ⟨rfl, hn34, o35⟩ := hp33
    have hrc := @sRp_cnt (T ps) (↑a.toNat : Int) 0 (B ps) (sc ps)
    have hrle : (sRp (T ps) (↑a.toNat : Int) 0 (B ps) (sc ps)).2.1 ≤ sc ps := by cases hh : (sRp (T ps) (↑a.toNat : Int) 0 (B ps) (sc ps)).1; have := hrc.1 hh; omega; have := hrc.2 hh; omega
    refine lv_aload_n hx hb dX8_dropStep_40 rfl (lv_at hl 0 rfl) ?_
    have hf36 : f32 ((brB (h + 1) ps)) = .inr (2, [.ref ((brB (h + 1) ps) + 1), .ref ((brB (h + 1) ps) + 24), .ref ((brB (h + 1) ps) + 47), .int (zI (↑(sc ps) : Int)), .int (zI (pr ps)), .int (zI (ex ps))]) := ((o35 ((brB (h + 1) ps)) (by omega)).trans (o28 ((brB (h + 1) ps)) (by omega))).trans ho8
    refine g_getN (ci := 2) (v := .int (zI (↑(sc ps) : Int))) (C := RX0) (T := TX0) (N := 6) hx hb hts iU_X0 hown hK hM ⟨by omega, by omega⟩ hf36 rfl 3 (by decide) (hts _ u_213) (fun _ h9 => h9) rfl dX8_dropStep_41 ?_
    refine g_icmp_ge (tgt := 58) hx hb dX8_dropStep_44 (by decide) ⟨by omega, by omega⟩ ⟨by omega, by omega⟩ (fun c44 => ?_) (fun c44 => ?_)
    · skip
      refine lv_aload_n hx hb dX8_dropStep_58 rfl (lv_at hl 0 rfl) ?_
      refine g_getN (ci := 2) (v := .ref ((brB (h + 1) ps) + 24)) (C := RX0) (T := TX0) (N := 6) hx hb hts iU_X0 hown hK hM ⟨by omega, by omega⟩ hf36 rfl 1 (by decide) (hts _ u_210) (fun _ h9 => h9) rfl dX8_dropStep_59 ?_
      refine lv_aload_n hx hb dX8_dropStep_62 rfl (lv_at hl 1 rfl) ?_
      have hf37 : f32 (h) = .inr (10, [.ref (h + 1), .ref (h + 291), .ref (h + 581), .ref (h + 604), .int (zI sv), .int (zI rs), .int (zI an), .int (zI cs), .int (zI cr)]) := (o35 (h) (by omega)).trans hf29
      refine g_get (ci := 10) (v := .ref (h + 581)) (C := RX8) (T := TX8) (N := 9) hx hb hts iU_X8 hown hK hM ⟨by omega, by omega⟩ hf37 rfl 2 (by decide) (hts _ u_277) (fun _ h9 => h9) rfl dX8_dropStep_63 ?_
      have hf38 := ho10.kept (fun q h1 h2 => ((o35 (q) (by omega)).trans (o28 (q) (by omega))))
      have hC39 := c_X5_copyFrom l g b0 n f32 ((brB (h + 1) ps) + 24) (h + 581) (P ps) ((sRp (T ps) (↑a.toNat : Int) 0 (B ps) (sc ps)).2.2) hf38 hn34 ⟨by omega, by omega⟩ ⟨by omega, by omega⟩ (by omega)
      obtain ⟨ho42, ho43, ho44, ho45, ho46⟩ := id hf38
      refine g_callVv (ci := 7) (C := RX5) (T := TX5) (N := 11) (As := [.ref (h + 581)]) (rest := []) ⟨hx, hb, hml, hown, hts⟩ hK hM hC39 (cuV (n := 1) hts u_561 u_857 u_4 (by decide) u_559 u_560 ⟨Nat.le_of_ble_eq_true rfl, Nat.le_of_ble_eq_true rfl⟩) ⟨by omega, by omega⟩ ho42 rfl rfl hl.1 rfl (Nat.le_of_ble_eq_true rfl) dX8_dropStep_66 ⟨Nat.le_of_ble_eq_true rfl, Nat.le_of_ble_eq_true rfl⟩ (fun f40 H locs hM hp41 => ?_)
      obtain ⟨hn47, o48⟩ := hp41
      refine lv_aload_n hx hb dX8_dropStep_69 rfl (lv_at hl 0 rfl) ?_
      refine lv_iload_n hx hb dX8_dropStep_70 rfl (lv_at hl 2 rfl) ?_
      have hf49 : f40 ((brB (h + 1) ps)) = .inr (2, [.ref ((brB (h + 1) ps) + 1), .ref ((brB (h + 1) ps) + 24), .ref ((brB (h + 1) ps) + 47), .int (zI (↑(sc ps) : Int)), .int (zI (pr ps)), .int (zI (ex ps))]) := (o48 ((brB (h + 1) ps)) (by omega)).trans hf36
      have hf50 := ho9.kept (fun q h1 h2 => ((o48 (q) (by omega)).trans ((o35 (q) (by omega)).trans (o28 (q) (by omega)))))
      have hf51 := ho11.kept ((o48 ((brB (h + 1) ps) + 47) (by omega)).trans ((o35 ((brB (h + 1) ps) + 47) (by omega)).trans (o28 ((brB (h + 1) ps) + 47) (by omega))))
      have hbo52 : brAt g f40 (brB (h + 1) ps) (B ps) (sRp (T ps) (↑a.toNat : Int) 0 (B ps) (sc ps)).2.2 (T ps) (↑(sc ps) : Int) (pr ps) (ex ps) := ⟨hf49, hf50, hn47, hf51⟩
      have hC53 := c_X0_forget l g b0 n f40 (brB (h + 1) ps) (B ps) (sRp (T ps) (↑a.toNat : Int) 0 (B ps) (sc ps)).2.2 (T ps) (sc ps) (pr ps) (ex ps) a.toNat hbo52 ⟨by omega, by omega⟩ (by omega) hscp
      refine g_callVv (ci := 2) (C := RX0) (T := TX0) (N := 6) (As := [.int (zI (↑a.toNat : Int))]) (rest := []) ⟨hx, hb, hml, hown, hts⟩ hK hM hC53 (cuV (n := 1) hts u_1105 u_1102 u_3 (by decide) u_1103 u_1104 ⟨Nat.le_of_ble_eq_true rfl, Nat.le_of_ble_eq_true rfl⟩) ⟨by omega, by omega⟩ hf49 rfl rfl hl.1 rfl (Nat.le_of_ble_eq_true rfl) dX8_dropStep_71 ⟨Nat.le_of_ble_eq_true rfl, Nat.le_of_ble_eq_true rfl⟩ (fun f54 H locs hM hp55 => ?_)
      obtain ⟨hn56, o57⟩ := hp55
      refine lv_aload_n hx hb dX8_dropStep_74 rfl (lv_at hl 0 rfl) ?_
      obtain ⟨ho58, ho59, ho60, ho61⟩ := id hn56
      refine g_getN (ci := 2) (v := .int (zI ((↑(sc ps) : Int) - 1))) (C := RX0) (T := TX0) (N := 6) hx hb hts iU_X0 hown hK hM ⟨by omega, by omega⟩ ho58 rfl 3 (by decide) (hts _ u_213) (fun _ h9 => h9) rfl dX8_dropStep_75 ?_
      have hf62 := hn34.kept (fun q h1 h2 => ((o57 (q) (by omega)).trans (o48 (q) (by omega))))
      refine gx_iret hx hb hr hlk hK hM dX8_dropStep_78 (by decide) (by decide) ?_
      have hcf : (sRp (T ps) (↑a.toNat : Int) 0 (B ps) (sc ps)).1 = false := by
        cases hh : (sRp (T ps) (↑a.toNat : Int) 0 (B ps) (sc ps)).1
        · rfl
        · have := hrc.2 hh; omega
      have hsk9 : (↑(sc ps) : Int) - 1 = ((sc ps - 1 : Nat) : Int) := by omega
      have hN : brAt g f54 (brB (h + 1) ps) (B ps) (fu P ps (sRp (T ps) (↑a.toNat : Int) 0 (B ps) (sc ps)).2.2 ps) (fu T ps (shP (T ps) (a.toNat * 5) ((sc ps - 1) * 5)) ps) (↑(fu sc ps (sc ps - 1) ps) : Int) (pr ps) (ex ps) := by
        have q9 := hn56
        rw [hsk9] at q9
        rw [fu_s, fu_s, fu_s]
        exact q9
      have hNN := hS.oneR (B' := B) (P' := fu P ps (sRp (T ps) (↑a.toNat : Int) 0 (B ps) (sc ps)).2.2) (T' := fu T ps (shP (T ps) (a.toNat * 5) ((sc ps - 1) * 5))) (sc' := fun k => (↑(fu sc ps (sc ps - 1) k) : Int)) (pr' := pr) (ex' := ex) hps hN (fun q h1 h2 hq => ((o57 (q) (by omega)).trans ((o48 (q) (by omega)).trans ((o35 (q) (by omega)).trans (o28 (q) (by omega)))))) (fun k hk hne => ⟨rfl, fu_n hne, fu_n hne, congrArg (fun j : Nat => (j : Int)) (fu_n hne), rfl, rfl⟩)
      exact ⟨by omega, hcf, rfl, hNN, ⟨_, hf62⟩, (fun q hq => ((o57 (q) (by omega)).trans ((o48 (q) (by omega)).trans ((o35 (q) (by omega)).trans (o28 (q) (by omega))))))⟩
    · skip
      refine gx_throwSW (is := 280) (text := "a later step would be refused") hx hb hl9 hown hlk hts hxt hE hK hM (hl.1.trans hml.symm) (by decide +kernel) u_1041 u_23 (by decide +kernel) xk_4 xg_4 dX8_dropStep_47 dX8_dropStep_50 dX8_dropStep_51 dX8_dropStep_54 dX8_dropStep_57 ⟨by decide, by decide, by decide, by decide⟩ (by decide) (by decide) ?_
      have hct : (sRp (T ps) (↑a.toNat : Int) 0 (B ps) (sc ps)).1 = true := by
        cases hh : (sRp (T ps) (↑a.toNat : Int) 0 (B ps) (sc ps)).1
        · have := hrc.1 hh; omega
        · rfl
      exact Or.inr ⟨rfl, by omega, hct, ⟨_, hn34⟩, (fun q hq => ((o35 (q) (by omega)).trans (o28 (q) (by omega))))⟩
