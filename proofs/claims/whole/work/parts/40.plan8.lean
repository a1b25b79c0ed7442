def po_X5_passDays (g : gE) (f : gF) (h : Nat) (P : Nat → Int) (d : Nat) (v : Int) : Int32 → gF → Prop := fun r1 f1 => r1 = zI (sDays P d 4 - P 4) ∧ planAt g f1 h (sDays P d) ∧ ∀ q, (q < h ∨ h + 23 ≤ q) → f1 q = f q
set_option maxRecDepth 100000 in
set_option maxHeartbeats 1000000 in
/-- passDays(days) -/
theorem c_X5_passDays (l : Launch) (g : gE) (b0 n : Nat) (f : gF) (h : Nat) (P : Nat → Int) (d : Nat) (v : Int) (hE : planAt g f h P) (hrg : b0 ≤ h ∧ h + 23 ≤ b0 + n) (hok : pOk P v) (hv0 : 0 ≤ v) (hvd : v + 9 * d ≤ 800000000) : cI l yX5_passDays cX5_passDays 5 (some .int) 3 83 [.ref h, .int (zI (↑d : Int))] g b0 n f (po_X5_passDays g f h P d v) := by
  refine gs_i (cc := cX5_passDays) (maxL := 5) (ret := (some .int)) (by decide) (Nat.le_of_ble_eq_true rfl) ?_
  intro p e0 s m args below meth c ls hx hb hr hml hown hts hlk hK hM hl
  have hl : lv_has ls 5 [(0, .ref h), (1, .int (zI (↑d : Int)))] := hl
  have hp4 := hok.2.2.2.2.2.2.1
  refine lv_aload_n hx hb dX5_passDays_0 rfl (lv_at hl 0 rfl) ?_
  obtain ⟨ho1, ho2, ho3, ho4, ho5⟩ := id hE
  refine g_get (ci := 7) (v := .int (zI (P 4))) (C := RX5) (T := TX5) (N := 11) hx hb hts iU_X5 hown hK hM ⟨by omega, by omega⟩ ho1 rfl 8 (by decide) (hts _ u_180) (fun _ h9 => h9) rfl dX5_passDays_1 ?_
  refine lv_istore_n (lv' := [(2, .int (zI (P 4))), (0, .ref h), (1, .int (zI (↑d : Int)))]) hx hb dX5_passDays_4 rfl hl (by decide) rfl (fun ls hl => ?_)
  refine g_iconst hx hb dX5_passDays_5 ?_
  refine lv_istore_n (lv' := [(3, .int (zI 0)), (2, .int (zI (P 4))), (0, .ref h), (1, .int (zI (↑d : Int)))]) hx hb dX5_passDays_6 rfl hl (by decide) rfl (fun ls hl => ?_)
  have lp7 : ∀ (k : Nat), ∀ (dn : Nat) (Pd : Nat → Int) (fL : gF) (H : Heap) (locs : List Loc) (ls : Array Slot), (d - dn < k) → (dn ≤ d) → (Pd = sDays P dn) → (pOk Pd (v + 9 * dn)) → (Pd 10 = P 10) → (∀ q, (q < h ∨ h + 23 ≤ q) → fL q = f q) → gH g b0 n fL s.heap H locs → (planAt g fL h Pd) → lv_has ls 5 [(0, .ref h), (1, .int (zI (↑d : Int))), (2, .int (zI (P 4))), (3, .int (zI (↑dn : Int)))] → W p l e0 { frames := 3, cells := 0, slots := 0, locals := 83 } s m args below meth c H locs 0 0 (MQ below (va_Qi (po_X5_passDays g f h P d v) (gB g b0 n) (gA b0)) args s 0 0 (gA b0)) (F0 m 7 ls []) := by
    intro k
    induction k with
    | zero =>
      intro dn Pd fL H locs ls hk hdn hPd hod hd10 hfr hM hL hl
      exact absurd hk (Nat.not_lt_zero _)
    | succ k ih7 =>
      intro dn Pd fL H locs ls hk hdn hPd hod hd10 hfr hM hL hl
      obtain ⟨vv, hvv⟩ : ∃ z : Int, v + 9 * dn = z := ⟨_, rfl⟩
      rw [hvv] at hod
      have hq1 := hod.2.2.2.2.2.1
      have hq10 := hod.2.2.2.2.2.2.2.1
      refine lv_iload_n hx hb dX5_passDays_7 rfl (lv_at hl 3 rfl) ?_
      refine lv_iload_n hx hb dX5_passDays_8 rfl (lv_at hl 1 rfl) ?_
      refine g_icmp_ge (tgt := 234) hx hb dX5_passDays_9 (by decide) ⟨by omega, by omega⟩ ⟨by omega, by omega⟩ (fun c9 => ?_) (fun c9 => ?_)
      · skip
        refine lv_aload_n hx hb dX5_passDays_234 rfl (lv_at hl 0 rfl) ?_
        obtain ⟨ho6, ho7, ho8, ho9, ho10⟩ := id hL
        refine g_get (ci := 7) (v := .int (zI (Pd 4))) (C := RX5) (T := TX5) (N := 11) hx hb hts iU_X5 hown hK hM ⟨by omega, by omega⟩ ho6 rfl 8 (by decide) (hts _ u_180) (fun _ h9 => h9) rfl dX5_passDays_235 ?_
        refine lv_iload_n hx hb dX5_passDays_238 rfl (lv_at hl 2 rfl) ?_
        refine g_isub hx hb dX5_passDays_239 ?_
        refine g_iret hx hb hr hlk hK hM dX5_passDays_240 ?_
        have hdd : dn = d := by omega
        have hS : sDays P d = Pd := by rw [← hdd]; exact hPd.symm
        refine ⟨by rw [hS], ?_, (fun q hq => (hfr (q) (by omega)))⟩
        rw [hS]
        exact hL
      · skip
        refine lv_aload_n hx hb dX5_passDays_12 rfl (lv_at hl 0 rfl) ?_
        refine lv_dup hx hb dX5_passDays_13 rfl ?_
        obtain ⟨ho11, ho12, ho13, ho14, ho15⟩ := id hL
        refine g_get (ci := 7) (v := .int (zI (Pd 1))) (C := RX5) (T := TX5) (N := 11) hx hb hts iU_X5 hown hK hM ⟨by omega, by omega⟩ ho11 rfl 5 (by decide) (hts _ u_174) (fun _ h9 => h9) rfl dX5_passDays_14 ?_
        refine g_iconst hx hb dX5_passDays_17 ?_
        refine g_iadd hx hb dX5_passDays_18 ?_
        refine g_put (ci := 7) (v := .int (zI ((Pd 1) + 1))) (ty := .int) (C := RX5) (T := TX5) (N := 11) hx hb hts iU_X5 tyX5 tyX5_ok nmX5 hown hK hM ⟨by omega, by omega⟩ ho11 rfl 5 (by decide) (hts _ u_174) (fun _ h9 => h9) rfl (by decide +kernel) rfl rfl (Nat.le_of_ble_eq_true rfl) dX5_passDays_19 (fun f16 H locs hM hf18 o17 => ?_)
        have hf18 : f16 (h) = .inr (7, [.ref (h + 1), .ref (h + 6), .ref (h + 10), .ref (h + 16), .long (zL (Pd 0)), .int (zI ((Pd 1) + 1)), .long (zL (Pd 2)), .long (zL (Pd 3)), .int (zI (Pd 4)), .long (zL (Pd 5)), .long (zL (Pd 6))]) := hf18
        refine g_iconst hx hb dX5_passDays_22 ?_
        refine lv_istore (lv' := [(4, .int (zI 0)), (0, .ref h), (1, .int (zI (↑d : Int))), (2, .int (zI (P 4))), (3, .int (zI (↑dn : Int)))]) hx hb dX5_passDays_23 hl (by decide) rfl (fun ls hl => ?_)
        have lp25 : ∀ (k2 : Nat), ∀ (i : Nat) (Pi : Nat → Int) (fL : gF) (H : Heap) (locs : List Loc) (ls : Array Slot), (8 - i < k2) → (Pi = sIt sItmT (pu Pd 1 (Pd 1 + 1)) i) → ((i : Int) ≤ Pi 10) → (pOkL Pi (vv + 1 + i) i) → (Pi 10 = Pd 10) → (∀ q, (q < h ∨ h + 23 ≤ q) → fL q = f q) → gH g b0 n fL s.heap H locs → (planAt g fL h Pi) → lv_has ls 5 [(0, .ref h), (1, .int (zI (↑d : Int))), (2, .int (zI (P 4))), (3, .int (zI (↑dn : Int))), (4, .int (zI (↑i : Int)))] → W p l e0 { frames := 3, cells := 0, slots := 0, locals := 83 } s m args below meth c H locs 0 0 (MQ below (va_Qi (po_X5_passDays g f h P d v) (gB g b0 n) (gA b0)) args s 0 0 (gA b0)) (F0 m 25 ls []) := by
          intro k2
          induction k2 with
          | zero =>
            intro i Pi fL H locs ls hk hPi hi hoi hi10b hfr hM hL2 hl
            exact absurd hk (Nat.not_lt_zero _)
          | succ k2 ih25 =>
            intro i Pi fL H locs ls hk hPi hi hoi hi10b hfr hM hL2 hl
            have hs1 := hoi.2.2.2.2.2.1
            have hs10 := hoi.2.2.2.2.2.2.2.1
            refine lv_iload hx hb dX5_passDays_25 (lv_at hl 4 rfl) ?_
            refine lv_aload_n hx hb dX5_passDays_27 rfl (lv_at hl 0 rfl) ?_
            obtain ⟨ho19, ho20, ho21, ho22, ho23⟩ := id hL2
            refine g_get (ci := 7) (v := .ref (h + 16)) (C := RX5) (T := TX5) (N := 11) hx hb hts iU_X5 hown hK hM ⟨by omega, by omega⟩ ho19 rfl 3 (by decide) (hts _ u_170) (fun _ h9 => h9) rfl dX5_passDays_28 ?_
            obtain ⟨ho24, ho25, ho26, ho27, ho28, ho29, ho30⟩ := id ho23
            refine g_getN (ci := 5) (v := .int (zI (Pi 10))) (C := RX3) (T := TX3) (N := 7) hx hb hts iU_X3 hown hK hM ⟨by omega, by omega⟩ ho24 rfl 6 (by decide) (hts _ u_148) (fun _ h9 => h9) rfl dX5_passDays_31 ?_
            refine g_icmp_ge (tgt := 210) hx hb dX5_passDays_34 (by decide) ⟨by omega, by omega⟩ ⟨by omega, by omega⟩ (fun c34 => ?_) (fun c34 => ?_)
            · skip
              have hii : (i : Int) = Pi 10 := by omega
              have ho8 := pOkL_all hoi (by omega)
              have hi10b3 : i = (Pd 10).toNat := by omega
              refine lv_aload_n hx hb dX5_passDays_210 rfl (lv_at hl 0 rfl) ?_
              refine g_get (ci := 7) (v := .int (zI (Pi 1))) (C := RX5) (T := TX5) (N := 11) hx hb hts iU_X5 hown hK hM ⟨by omega, by omega⟩ ho19 rfl 5 (by decide) (hts _ u_174) (fun _ h9 => h9) rfl dX5_passDays_211 ?_
              refine g_bipush hx hb dX5_passDays_214 (by decide) ?_
              refine g_irem hx hb dX5_passDays_216 ⟨by omega, by omega⟩ (by decide) (by decide) ?_
              refine g_if_ne (tgt := 228) hx hb dX5_passDays_217 (by decide) (tm_ok (by omega)) (fun c217 => ?_) (fun c217 => ?_)
              · skip
                refine lv_iinc (v := zI ((↑dn : Int) + 1)) (lv' := [(3, .int (zI ((↑dn : Int) + 1))), (0, .ref h), (1, .int (zI (↑d : Int))), (2, .int (zI (P 4))), (4, .int (zI (↑i : Int)))]) hx hb dX5_passDays_228 hl (k := 3) rfl (zI_add _ _) (by decide) rfl (fun ls hl => ?_)
                refine lv_goto (tgt := 7) hx hb dX5_passDays_231 (by decide) ?_
                have h9 := pOk_day hod (by omega)
                have hday : sDay Pd = Pi := by
                  unfold sDay
                  dsimp only
                  rw [← hi10b3, ← hPi]
                  rw [if_neg c217]
                rw [hday] at h9
                exact ih7 (dn + 1) Pi fL _ _ _ (by omega) (by omega) (by rw [← hday, hPd]; rfl) (pOkL_mono h9.1 (by omega)) (h9.2.trans hd10) (fun q hq => (hfr (q) (by omega))) hM hL2 (lv_sub hl [1, 2, 3, 0] rfl)
              · skip
                refine lv_aload_n hx hb dX5_passDays_220 rfl (lv_at hl 0 rfl) ?_
                have hC31 := c_X5_rollOver l g b0 n fL h Pi hL2 hrg (wfE_mono (pOkL_wfS ho8 (by omega)).E (by omega))
                refine g_callVv (ci := 7) (C := RX5) (T := TX5) (N := 11) (As := []) (rest := []) ⟨hx, hb, hml, hown, hts⟩ hK hM hC31 (cuV (n := 0) hts u_528 u_525 u_4 (by decide) u_527 us_19 ⟨Nat.le_of_ble_eq_true rfl, Nat.le_of_ble_eq_true rfl⟩) ⟨by omega, by omega⟩ ho19 rfl rfl hl.1 rfl (Nat.le_of_ble_eq_true rfl) dX5_passDays_221 ⟨Nat.zero_le _, Nat.zero_le _⟩ (fun f32 H locs hM hp33 => ?_)
                obtain ⟨hn34, o35⟩ := hp33
                obtain ⟨P4, hP4⟩ : ∃ Q : Nat → Int, Q = sRoll Pi := ⟨_, rfl⟩
                rw [← hP4] at hn34
                have hr2 : pOkL P4 (vv + 9) 8 := by rw [hP4]; exact pOkL_mono (pOkL_roll ho8) (by omega)
                refine lv_aload_n hx hb dX5_passDays_224 rfl (lv_at hl 0 rfl) ?_
                have hC36 := c_X5_settle l g b0 n f32 h P4 hn34 hrg (wfS_mono (pOkL_wfS hr2 (by omega)) (by omega)) hr2.2.2.1
                obtain ⟨ho39, ho40, ho41, ho42, ho43⟩ := id hn34
                refine g_callVv (ci := 7) (C := RX5) (T := TX5) (N := 11) (As := []) (rest := []) ⟨hx, hb, hml, hown, hts⟩ hK hM hC36 (cuV (n := 0) hts u_516 u_513 u_4 (by decide) u_514 u_515 ⟨Nat.le_of_ble_eq_true rfl, Nat.le_of_ble_eq_true rfl⟩) ⟨by omega, by omega⟩ ho39 rfl rfl hl.1 rfl (Nat.le_of_ble_eq_true rfl) dX5_passDays_225 ⟨Nat.zero_le _, Nat.zero_le _⟩ (fun f37 H locs hM hp38 => ?_)
                obtain ⟨hn44, o45⟩ := hp38
                obtain ⟨P5, hP5⟩ : ∃ Q : Nat → Int, Q = sSet P4 := ⟨_, rfl⟩
                rw [← hP5] at hn44
                refine lv_iinc (v := zI ((↑dn : Int) + 1)) (lv' := [(3, .int (zI ((↑dn : Int) + 1))), (0, .ref h), (1, .int (zI (↑d : Int))), (2, .int (zI (P 4))), (4, .int (zI (↑i : Int)))]) hx hb dX5_passDays_228 hl (k := 3) rfl (zI_add _ _) (by decide) rfl (fun ls hl => ?_)
                refine lv_goto (tgt := 7) hx hb dX5_passDays_231 (by decide) ?_
                obtain ⟨ho46, ho47, ho48, ho49, ho50⟩ := id hn44
                have h9 := pOk_day hod (by omega)
                have hday : sDay Pd = P5 := by
                  unfold sDay
                  dsimp only
                  rw [← hi10b3, ← hPi]
                  rw [if_pos c217, ← hP4, ← hP5]
                rw [hday] at h9
                exact ih7 (dn + 1) P5 f37 _ _ _ (by omega) (by omega) (by rw [← hday, hPd]; rfl) (pOkL_mono h9.1 (by omega)) (h9.2.trans hd10) (fun q hq => ((o45 (q) (by omega)).trans ((o35 (q) (by omega)).trans (hfr (q) (by omega))))) hM hn44 (lv_sub hl [1, 2, 3, 0] rfl)
            · skip
              refine lv_iload hx hb dX5_passDays_37 (lv_at hl 4 rfl) ?_
              refine g_bipush hx hb dX5_passDays_39 (by decide) ?_
              refine g_icmp_ge (tgt := 210) hx hb dX5_passDays_41 (by decide) ⟨by omega, by omega⟩ (by decide) (fun c41 => ?_) (fun c41 => ?_)
              · skip
                have hii : (i : Int) = Pi 10 := by omega
                have ho8 := pOkL_all hoi (by omega)
                have hi10b3 : i = (Pd 10).toNat := by omega
                refine lv_aload_n hx hb dX5_passDays_210 rfl (lv_at hl 0 rfl) ?_
                refine g_get (ci := 7) (v := .int (zI (Pi 1))) (C := RX5) (T := TX5) (N := 11) hx hb hts iU_X5 hown hK hM ⟨by omega, by omega⟩ ho19 rfl 5 (by decide) (hts _ u_174) (fun _ h9 => h9) rfl dX5_passDays_211 ?_
                refine g_bipush hx hb dX5_passDays_214 (by decide) ?_
                refine g_irem hx hb dX5_passDays_216 ⟨by omega, by omega⟩ (by decide) (by decide) ?_
                refine g_if_ne (tgt := 228) hx hb dX5_passDays_217 (by decide) (tm_ok (by omega)) (fun c217 => ?_) (fun c217 => ?_)
                · skip
                  refine lv_iinc (v := zI ((↑dn : Int) + 1)) (lv' := [(3, .int (zI ((↑dn : Int) + 1))), (0, .ref h), (1, .int (zI (↑d : Int))), (2, .int (zI (P 4))), (4, .int (zI (↑i : Int)))]) hx hb dX5_passDays_228 hl (k := 3) rfl (zI_add _ _) (by decide) rfl (fun ls hl => ?_)
                  refine lv_goto (tgt := 7) hx hb dX5_passDays_231 (by decide) ?_
                  have h9 := pOk_day hod (by omega)
                  have hday : sDay Pd = Pi := by
                    unfold sDay
                    dsimp only
                    rw [← hi10b3, ← hPi]
                    rw [if_neg c217]
                  rw [hday] at h9
                  exact ih7 (dn + 1) Pi fL _ _ _ (by omega) (by omega) (by rw [← hday, hPd]; rfl) (pOkL_mono h9.1 (by omega)) (h9.2.trans hd10) (fun q hq => (hfr (q) (by omega))) hM hL2 (lv_sub hl [1, 2, 3, 0] rfl)
                · skip
                  refine lv_aload_n hx hb dX5_passDays_220 rfl (lv_at hl 0 rfl) ?_
                  have hC51 := c_X5_rollOver l g b0 n fL h Pi hL2 hrg (wfE_mono (pOkL_wfS ho8 (by omega)).E (by omega))
                  refine g_callVv (ci := 7) (C := RX5) (T := TX5) (N := 11) (As := []) (rest := []) ⟨hx, hb, hml, hown, hts⟩ hK hM hC51 (cuV (n := 0) hts u_528 u_525 u_4 (by decide) u_527 us_19 ⟨Nat.le_of_ble_eq_true rfl, Nat.le_of_ble_eq_true rfl⟩) ⟨by omega, by omega⟩ ho19 rfl rfl hl.1 rfl (Nat.le_of_ble_eq_true rfl) dX5_passDays_221 ⟨Nat.zero_le _, Nat.zero_le _⟩ (fun f52 H locs hM hp53 => ?_)
                  obtain ⟨hn54, o55⟩ := hp53
                  obtain ⟨P4, hP4⟩ : ∃ Q : Nat → Int, Q = sRoll Pi := ⟨_, rfl⟩
                  rw [← hP4] at hn54
                  have hr2 : pOkL P4 (vv + 9) 8 := by rw [hP4]; exact pOkL_mono (pOkL_roll ho8) (by omega)
                  refine lv_aload_n hx hb dX5_passDays_224 rfl (lv_at hl 0 rfl) ?_
                  have hC56 := c_X5_settle l g b0 n f52 h P4 hn54 hrg (wfS_mono (pOkL_wfS hr2 (by omega)) (by omega)) hr2.2.2.1
                  obtain ⟨ho59, ho60, ho61, ho62, ho63⟩ := id hn54
                  refine g_callVv (ci := 7) (C := RX5) (T := TX5) (N := 11) (As := []) (rest := []) ⟨hx, hb, hml, hown, hts⟩ hK hM hC56 (cuV (n := 0) hts u_516 u_513 u_4 (by decide) u_514 u_515 ⟨Nat.le_of_ble_eq_true rfl, Nat.le_of_ble_eq_true rfl⟩) ⟨by omega, by omega⟩ ho59 rfl rfl hl.1 rfl (Nat.le_of_ble_eq_true rfl) dX5_passDays_225 ⟨Nat.zero_le _, Nat.zero_le _⟩ (fun f57 H locs hM hp58 => ?_)
                  obtain ⟨hn64, o65⟩ := hp58
                  obtain ⟨P5, hP5⟩ : ∃ Q : Nat → Int, Q = sSet P4 := ⟨_, rfl⟩
                  rw [← hP5] at hn64
                  refine lv_iinc (v := zI ((↑dn : Int) + 1)) (lv' := [(3, .int (zI ((↑dn : Int) + 1))), (0, .ref h), (1, .int (zI (↑d : Int))), (2, .int (zI (P 4))), (4, .int (zI (↑i : Int)))]) hx hb dX5_passDays_228 hl (k := 3) rfl (zI_add _ _) (by decide) rfl (fun ls hl => ?_)
                  refine lv_goto (tgt := 7) hx hb dX5_passDays_231 (by decide) ?_
                  obtain ⟨ho66, ho67, ho68, ho69, ho70⟩ := id hn64
                  have h9 := pOk_day hod (by omega)
                  have hday : sDay Pd = P5 := by
                    unfold sDay
                    dsimp only
                    rw [← hi10b3, ← hPi]
                    rw [if_pos c217, ← hP4, ← hP5]
                  rw [hday] at h9
                  exact ih7 (dn + 1) P5 f57 _ _ _ (by omega) (by omega) (by rw [← hday, hPd]; rfl) (pOkL_mono h9.1 (by omega)) (h9.2.trans hd10) (fun q hq => ((o65 (q) (by omega)).trans ((o55 (q) (by omega)).trans (hfr (q) (by omega))))) hM hn64 (lv_sub hl [1, 2, 3, 0] rfl)
              · skip
                have hi10 : (i : Int) < Pi 10 := by omega
                obtain ⟨⟨hx1, ⟨hx2, hx3⟩, ⟨hx4, hx5⟩, ⟨hx6, hx7⟩⟩, ⟨hx8, hx9⟩, hx10⟩ := hoi.2.2.2.2.2.2.2.2 i hi10
                refine lv_aload_n hx hb dX5_passDays_44 rfl (lv_at hl 0 rfl) ?_
                refine g_get (ci := 7) (v := .ref (h + 16)) (C := RX5) (T := TX5) (N := 11) hx hb hts iU_X5 hown hK hM ⟨by omega, by omega⟩ ho19 rfl 3 (by decide) (hts _ u_170) (fun _ h9 => h9) rfl dX5_passDays_45 ?_
                refine g_getN (ci := 5) (v := .ref (h + 16 + 5)) (C := RX3) (T := TX3) (N := 7) hx hb hts iU_X3 hown hK hM ⟨by omega, by omega⟩ ho24 rfl 4 (by decide) (hts _ u_144) (fun _ h9 => h9) rfl dX5_passDays_48 ?_
                refine lv_iload hx hb dX5_passDays_51 (lv_at hl 4 rfl) ?_
                refine g_iald hx hb hK hM ⟨by omega, by omega⟩ ho29 (by omega) (by omega) (by decide) dX5_passDays_53 ?_
                show W _ _ _ _ _ _ _ _ _ _ _ _ _ _ _ (F0 _ _ _ (.int (zI (Pi (103 + 6 * i))) :: _))
                refine lv_aload_n hx hb dX5_passDays_54 rfl (lv_at hl 0 rfl) ?_
                refine g_get (ci := 7) (v := .int (zI (Pi 1))) (C := RX5) (T := TX5) (N := 11) hx hb hts iU_X5 hown hK hM ⟨by omega, by omega⟩ ho19 rfl 5 (by decide) (hts _ u_174) (fun _ h9 => h9) rfl dX5_passDays_55 ?_
                refine g_icmp_eq (tgt := 64) hx hb dX5_passDays_58 (by decide) ⟨by omega, by omega⟩ ⟨by omega, by omega⟩ (fun c58 => ?_) (fun c58 => ?_)
                · skip
                  have hdue : Pi (103 + 6 * i) = Pi 1 := c58
                  refine lv_aload_n hx hb dX5_passDays_64 rfl (lv_at hl 0 rfl) ?_
                  refine g_get (ci := 7) (v := .ref (h + 16)) (C := RX5) (T := TX5) (N := 11) hx hb hts iU_X5 hown hK hM ⟨by omega, by omega⟩ ho19 rfl 3 (by decide) (hts _ u_170) (fun _ h9 => h9) rfl dX5_passDays_65 ?_
                  refine g_getN (ci := 5) (v := .ref (h + 16 + 5)) (C := RX3) (T := TX3) (N := 7) hx hb hts iU_X3 hown hK hM ⟨by omega, by omega⟩ ho24 rfl 4 (by decide) (hts _ u_144) (fun _ h9 => h9) rfl dX5_passDays_68 ?_
                  refine lv_iload hx hb dX5_passDays_71 (lv_at hl 4 rfl) ?_
                  refine lv_dup2_11 hx hb dX5_passDays_73 rfl rfl ?_
                  refine g_iald hx hb hK hM ⟨by omega, by omega⟩ ho29 (by omega) (by omega) (by decide) dX5_passDays_74 ?_
                  show W _ _ _ _ _ _ _ _ _ _ _ _ _ _ _ (F0 _ _ _ (.int (zI (Pi (103 + 6 * i))) :: _))
                  refine lv_aload_n hx hb dX5_passDays_75 rfl (lv_at hl 0 rfl) ?_
                  refine g_get (ci := 7) (v := .ref (h + 16)) (C := RX5) (T := TX5) (N := 11) hx hb hts iU_X5 hown hK hM ⟨by omega, by omega⟩ ho19 rfl 3 (by decide) (hts _ u_170) (fun _ h9 => h9) rfl dX5_passDays_76 ?_
                  refine g_getN (ci := 5) (v := .ref (h + 16 + 4)) (C := RX3) (T := TX3) (N := 7) hx hb hts iU_X3 hown hK hM ⟨by omega, by omega⟩ ho24 rfl 3 (by decide) (hts _ u_142) (fun _ h9 => h9) rfl dX5_passDays_79 ?_
                  refine lv_iload hx hb dX5_passDays_82 (lv_at hl 4 rfl) ?_
                  refine g_iald hx hb hK hM ⟨by omega, by omega⟩ ho28 (by omega) (by omega) (by decide) dX5_passDays_84 ?_
                  show W _ _ _ _ _ _ _ _ _ _ _ _ _ _ _ (F0 _ _ _ (.int (zI (Pi (102 + 6 * i))) :: _))
                  refine g_iadd hx hb dX5_passDays_85 ?_
                  refine g_iast hx hb hK hM ⟨by omega, by omega⟩ ho29 (by omega) (by omega) (by decide) dX5_passDays_86 (fun f71 H locs hM ha73 o72 => ?_)
                  have hf74 : f71 (h) = .inr (7, [.ref (h + 1), .ref (h + 6), .ref (h + 10), .ref (h + 16), .long (zL (Pi 0)), .int (zI (Pi 1)), .long (zL (Pi 2)), .long (zL (Pi 3)), .int (zI (Pi 4)), .long (zL (Pi 5)), .long (zL (Pi 6))]) := (o72 (h) (by omega)).trans ho19
                  have hf75 := ho20.kept (fun q h1 h2 => (o72 (q) (by omega)))
                  have hf76 := ho21.kept (fun q h1 h2 => (o72 (q) (by omega)))
                  have hf77 := ho22.kept (fun q h1 h2 => (o72 (q) (by omega)))
                  obtain ⟨P1, hP1⟩ : ∃ Q : Nat → Int, Q = pu Pi (103 + 6 * i) (Pi (103 + 6 * i) + Pi (102 + 6 * i)) := ⟨_, rfl⟩
                  have hf78 : f71 (h + 16) = .inr (5, [.ref (h + 16 + 1), .ref (h + 16 + 2), .ref (h + 16 + 3), .ref (h + 16 + 4), .ref (h + 16 + 5), .ref (h + 16 + 6), .int (zI (Pi 10))]) := (o72 (h + 16) (by omega)).trans ho24
                  have hf79 := ho25.kept (o72 (h + 16 + 1) (by omega))
                  have hf80 := ho26.kept (o72 (h + 16 + 2) (by omega))
                  have hf81 := ho27.kept (o72 (h + 16 + 3) (by omega))
                  have hf82 := ho28.kept (o72 (h + 16 + 4) (by omega))
                  have hf83 := ho30.kept (o72 (h + 16 + 6) (by omega))
                  have hp84 : planAt g f71 h P1 := ⟨hf74.trans (by rw [hP1]; (repeat (first | rw [pu_s] | rw [pu_n (by omega)] | rw [Int.toNat_natCast]))), hf75.cong (fun i9 hi9 => by rw [hP1]; (repeat (first | rw [pu_s] | rw [pu_n (by omega)] | rw [Int.toNat_natCast]))), hf76.cong (fun i9 hi9 => by rw [hP1]; (repeat (first | rw [pu_s] | rw [pu_n (by omega)] | rw [Int.toNat_natCast]))), hf77.cong (fun i9 hi9 => by rw [hP1]; (repeat (first | rw [pu_s] | rw [pu_n (by omega)] | rw [Int.toNat_natCast]))), ⟨hf78.trans (by rw [hP1]; (repeat (first | rw [pu_s] | rw [pu_n (by omega)] | rw [Int.toNat_natCast]))), hf79.cong (fun k9 hk9 => (Classical.em (k9 = i)).elim (fun hz => by subst hz; rw [hP1]; (repeat (first | rw [pu_s] | rw [pu_n (by omega)] | rw [Int.toNat_natCast]))) (fun hz => by rw [hP1]; (repeat (first | rw [pu_s] | rw [pu_n (by omega)] | rw [Int.toNat_natCast])))), hf80.cong (fun k9 hk9 => (Classical.em (k9 = i)).elim (fun hz => by subst hz; rw [hP1]; (repeat (first | rw [pu_s] | rw [pu_n (by omega)] | rw [Int.toNat_natCast]))) (fun hz => by rw [hP1]; (repeat (first | rw [pu_s] | rw [pu_n (by omega)] | rw [Int.toNat_natCast])))), hf81.cong (fun k9 hk9 => (Classical.em (k9 = i)).elim (fun hz => by subst hz; rw [hP1]; (repeat (first | rw [pu_s] | rw [pu_n (by omega)] | rw [Int.toNat_natCast]))) (fun hz => by rw [hP1]; (repeat (first | rw [pu_s] | rw [pu_n (by omega)] | rw [Int.toNat_natCast])))), hf82.cong (fun k9 hk9 => (Classical.em (k9 = i)).elim (fun hz => by subst hz; rw [hP1]; (repeat (first | rw [pu_s] | rw [pu_n (by omega)] | rw [Int.toNat_natCast]))) (fun hz => by rw [hP1]; (repeat (first | rw [pu_s] | rw [pu_n (by omega)] | rw [Int.toNat_natCast])))), ha73.cong (fun k9 hk9 => (Classical.em (k9 = i)).elim (fun hz => by subst hz; rw [hP1]; (repeat (first | rw [pu_s] | rw [pu_n (by omega)] | rw [Int.toNat_natCast]))) (fun hz => by rw [hP1]; (repeat (first | rw [pu_s] | rw [pu_n (by omega)] | rw [Int.toNat_natCast])))), hf83.cong (fun k9 hk9 => (Classical.em (k9 = i)).elim (fun hz => by subst hz; rw [hP1]; (repeat (first | rw [pu_s] | rw [pu_n (by omega)] | rw [Int.toNat_natCast]))) (fun hz => by rw [hP1]; (repeat (first | rw [pu_s] | rw [pu_n (by omega)] | rw [Int.toNat_natCast]))))⟩⟩
                  have hd1 := pOkL_due hoi hi10 hdue
                  rw [← hP1] at hd1
                  have hP10 : (i : Int) < P1 10 := by rw [hP1, pu_n (by omega)]; exact hi10
                  obtain ⟨⟨hy1, ⟨hy2, hy3⟩, ⟨hy4, hy5⟩, ⟨hy6, hy7⟩⟩, ⟨hy8, hy9⟩, hy10⟩ := hd1.2.2.2.2.2.2.2.2 i hP10
                  have hw1 := pOkL_wfS hd1 (by omega)
                  have hcn7b := hd1.1.1
                  have hmn := hd1.2.2.2.1
                  have hp4a := hd1.2.2.2.2.2.2.1.1
                  have hp4b := hd1.2.2.2.2.2.2.1.2
                  refine lv_aload_n hx hb dX5_passDays_87 rfl (lv_at hl 0 rfl) ?_
                  obtain ⟨ho85, ho86, ho87, ho88, ho89⟩ := id hp84
                  refine g_get (ci := 7) (v := .ref (h + 16)) (C := RX5) (T := TX5) (N := 11) hx hb hts iU_X5 hown hK hM ⟨by omega, by omega⟩ ho85 rfl 3 (by decide) (hts _ u_170) (fun _ h9 => h9) rfl dX5_passDays_88 ?_
                  obtain ⟨ho90, ho91, ho92, ho93, ho94, ho95, ho96⟩ := id ho89
                  refine g_getN (ci := 5) (v := .ref (h + 16 + 1)) (C := RX3) (T := TX3) (N := 7) hx hb hts iU_X3 hown hK hM ⟨by omega, by omega⟩ ho90 rfl 0 (by decide) (hts _ u_136) (fun _ h9 => h9) rfl dX5_passDays_91 ?_
                  refine lv_iload hx hb dX5_passDays_94 (lv_at hl 4 rfl) ?_
                  refine g_iald hx hb hK hM ⟨by omega, by omega⟩ ho91 (by omega) (by omega) (by decide) dX5_passDays_96 ?_
                  show W _ _ _ _ _ _ _ _ _ _ _ _ _ _ _ (F0 _ _ _ (.int (zI (P1 (99 + 6 * i))) :: _))
                  refine g_if_ne (tgt := 118) hx hb dX5_passDays_97 (by decide) ⟨by omega, by omega⟩ (fun c97 => ?_) (fun c97 => ?_)
                  · skip
                    have hkd : P1 (99 + 6 * i) = 1 := by omega
                    obtain ⟨e1, he1⟩ : ∃ q : Nat, P1 (100 + 6 * i) = q := ⟨(P1 (100 + 6 * i)).toNat, by omega⟩
                    have he1b : e1 < 10 := by omega
                    have hbe := hw1.E.2 e1 he1b
                    have hbe1 := hbe.1.1
                    have hbe2 := hbe.1.2
                    have hp0a := hmn.1
                    have hp0b : P1 0 ≤ 800000000000000 := by have h3 := hmn.2.1; have h4 := hmn.2.2.2; have h5 := hd1.2.2.2.2.1; have h6 := (sSum_ge (A := fun e => P1 (11 + 4 * e)) (n := 10) (fun k9 hk9 => hmn.2.2.1 k9 hk9)).1; have h7 : bS P1 = sSum (fun e => P1 (11 + 4 * e)) 10 := rfl; omega
                    refine lv_aload_n hx hb dX5_passDays_118 rfl (lv_at hl 0 rfl) ?_
                    refine lv_aload_n hx hb dX5_passDays_119 rfl (lv_at hl 0 rfl) ?_
                    refine g_get (ci := 7) (v := .ref (h + 16)) (C := RX5) (T := TX5) (N := 11) hx hb hts iU_X5 hown hK hM ⟨by omega, by omega⟩ ho85 rfl 3 (by decide) (hts _ u_170) (fun _ h9 => h9) rfl dX5_passDays_120 ?_
                    refine g_getN (ci := 5) (v := .ref (h + 16 + 2)) (C := RX3) (T := TX3) (N := 7) hx hb hts iU_X3 hown hK hM ⟨by omega, by omega⟩ ho90 rfl 1 (by decide) (hts _ u_138) (fun _ h9 => h9) rfl dX5_passDays_123 ?_
                    refine lv_iload hx hb dX5_passDays_126 (lv_at hl 4 rfl) ?_
                    refine g_iald hx hb hK hM ⟨by omega, by omega⟩ ho92 (by omega) (by omega) (by decide) dX5_passDays_128 ?_
                    show W _ _ _ _ _ _ _ _ _ _ _ _ _ _ _ (F0 _ _ _ (.int (zI (P1 (100 + 6 * i))) :: _))
                    rw [he1]
                    refine lv_aload_n hx hb dX5_passDays_129 rfl (lv_at hl 0 rfl) ?_
                    refine g_get (ci := 7) (v := .ref (h + 16)) (C := RX5) (T := TX5) (N := 11) hx hb hts iU_X5 hown hK hM ⟨by omega, by omega⟩ ho85 rfl 3 (by decide) (hts _ u_170) (fun _ h9 => h9) rfl dX5_passDays_130 ?_
                    refine g_getN (ci := 5) (v := .ref (h + 16 + 3)) (C := RX3) (T := TX3) (N := 7) hx hb hts iU_X3 hown hK hM ⟨by omega, by omega⟩ ho90 rfl 2 (by decide) (hts _ u_140) (fun _ h9 => h9) rfl dX5_passDays_133 ?_
                    refine lv_iload hx hb dX5_passDays_136 (lv_at hl 4 rfl) ?_
                    refine g_iald hx hb hK hM ⟨by omega, by omega⟩ ho93 (by omega) (by omega) (by decide) dX5_passDays_138 ?_
                    show W _ _ _ _ _ _ _ _ _ _ _ _ _ _ _ (F0 _ _ _ (.int (zI (P1 (101 + 6 * i))) :: _))
                    have hC97 := c_X5_canPay l g b0 n f71 h P1 e1 (P1 (101 + 6 * i)) hp84 hrg hcn7b (by omega) ⟨by omega, by omega⟩ ⟨by omega, by omega⟩ ⟨by omega, by omega⟩
                    refine g_callVi (ci := 7) (C := RX5) (T := TX5) (N := 11) (As := [.int (zI (↑e1 : Int)), .int (zI (P1 (101 + 6 * i)))]) (rest := []) ⟨hx, hb, hml, hown, hts⟩ hK hM hC97 (cuV (n := 2) hts u_423 u_420 u_4 (by decide) u_421 u_422 ⟨Nat.le_of_ble_eq_true rfl, Nat.le_of_ble_eq_true rfl⟩) ⟨by omega, by omega⟩ ho85 rfl rfl hl.1 rfl (Nat.le_of_ble_eq_true rfl) dX5_passDays_139 ⟨Nat.zero_le _, Nat.zero_le _⟩ (fun r139 f98 H locs hM hp99 => ?_)
                    obtain ⟨rfl, rfl⟩ := hp99
                    refine g_ifb_eq (tgt := 173) hx hb dX5_passDays_142 (by decide) (fun c142 => ?_) (fun c142 => ?_)
                    · skip
                      refine lv_aload_n hx hb dX5_passDays_173 rfl (lv_at hl 0 rfl) ?_
                      refine g_get (ci := 7) (v := .ref (h + 16)) (C := RX5) (T := TX5) (N := 11) hx hb hts iU_X5 hown hK hM ⟨by omega, by omega⟩ ho85 rfl 3 (by decide) (hts _ u_170) (fun _ h9 => h9) rfl dX5_passDays_174 ?_
                      refine g_getN (ci := 5) (v := .ref (h + 16 + 6)) (C := RX3) (T := TX3) (N := 7) hx hb hts iU_X3 hown hK hM ⟨by omega, by omega⟩ ho90 rfl 5 (by decide) (hts _ u_146) (fun _ h9 => h9) rfl dX5_passDays_177 ?_
                      refine lv_iload hx hb dX5_passDays_180 (lv_at hl 4 rfl) ?_
                      refine lv_dup2_11 hx hb dX5_passDays_182 rfl rfl ?_
                      refine g_iald hx hb hK hM ⟨by omega, by omega⟩ ho96 (by omega) (by omega) (by decide) dX5_passDays_183 ?_
                      show W _ _ _ _ _ _ _ _ _ _ _ _ _ _ _ (F0 _ _ _ (.int (zI (P1 (104 + 6 * i))) :: _))
                      refine g_iconst hx hb dX5_passDays_184 ?_
                      refine g_iadd hx hb dX5_passDays_185 ?_
                      refine g_iast hx hb hK hM ⟨by omega, by omega⟩ ho96 (by omega) (by omega) (by decide) dX5_passDays_186 (fun f100 H locs hM ha102 o101 => ?_)
                      have hf103 : f100 (h) = .inr (7, [.ref (h + 1), .ref (h + 6), .ref (h + 10), .ref (h + 16), .long (zL (P1 0)), .int (zI (P1 1)), .long (zL (P1 2)), .long (zL (P1 3)), .int (zI (P1 4)), .long (zL (P1 5)), .long (zL (P1 6))]) := (o101 (h) (by omega)).trans ho85
                      have hf104 := ho86.kept (fun q h1 h2 => (o101 (q) (by omega)))
                      have hf105 := ho87.kept (fun q h1 h2 => (o101 (q) (by omega)))
                      have hf106 := ho88.kept (fun q h1 h2 => (o101 (q) (by omega)))
                      obtain ⟨Pm, hPm⟩ : ∃ Q : Nat → Int, Q = pu P1 (104 + 6 * i) (P1 (104 + 6 * i) + 1) := ⟨_, rfl⟩
                      have hf107 : f100 (h + 16) = .inr (5, [.ref (h + 16 + 1), .ref (h + 16 + 2), .ref (h + 16 + 3), .ref (h + 16 + 4), .ref (h + 16 + 5), .ref (h + 16 + 6), .int (zI (P1 10))]) := (o101 (h + 16) (by omega)).trans ho90
                      have hf108 := ho91.kept (o101 (h + 16 + 1) (by omega))
                      have hf109 := ho92.kept (o101 (h + 16 + 2) (by omega))
                      have hf110 := ho93.kept (o101 (h + 16 + 3) (by omega))
                      have hf111 := ho94.kept (o101 (h + 16 + 4) (by omega))
                      have hf112 := ho95.kept (o101 (h + 16 + 5) (by omega))
                      have hp113 : planAt g f100 h Pm := ⟨hf103.trans (by rw [hPm]; (repeat (first | rw [pu_s] | rw [pu_n (by omega)] | rw [Int.toNat_natCast]))), hf104.cong (fun i9 hi9 => by rw [hPm]; (repeat (first | rw [pu_s] | rw [pu_n (by omega)] | rw [Int.toNat_natCast]))), hf105.cong (fun i9 hi9 => by rw [hPm]; (repeat (first | rw [pu_s] | rw [pu_n (by omega)] | rw [Int.toNat_natCast]))), hf106.cong (fun i9 hi9 => by rw [hPm]; (repeat (first | rw [pu_s] | rw [pu_n (by omega)] | rw [Int.toNat_natCast]))), ⟨hf107.trans (by rw [hPm]; (repeat (first | rw [pu_s] | rw [pu_n (by omega)] | rw [Int.toNat_natCast]))), hf108.cong (fun k9 hk9 => (Classical.em (k9 = i)).elim (fun hz => by subst hz; rw [hPm]; (repeat (first | rw [pu_s] | rw [pu_n (by omega)] | rw [Int.toNat_natCast]))) (fun hz => by rw [hPm]; (repeat (first | rw [pu_s] | rw [pu_n (by omega)] | rw [Int.toNat_natCast])))), hf109.cong (fun k9 hk9 => (Classical.em (k9 = i)).elim (fun hz => by subst hz; rw [hPm]; (repeat (first | rw [pu_s] | rw [pu_n (by omega)] | rw [Int.toNat_natCast]))) (fun hz => by rw [hPm]; (repeat (first | rw [pu_s] | rw [pu_n (by omega)] | rw [Int.toNat_natCast])))), hf110.cong (fun k9 hk9 => (Classical.em (k9 = i)).elim (fun hz => by subst hz; rw [hPm]; (repeat (first | rw [pu_s] | rw [pu_n (by omega)] | rw [Int.toNat_natCast]))) (fun hz => by rw [hPm]; (repeat (first | rw [pu_s] | rw [pu_n (by omega)] | rw [Int.toNat_natCast])))), hf111.cong (fun k9 hk9 => (Classical.em (k9 = i)).elim (fun hz => by subst hz; rw [hPm]; (repeat (first | rw [pu_s] | rw [pu_n (by omega)] | rw [Int.toNat_natCast]))) (fun hz => by rw [hPm]; (repeat (first | rw [pu_s] | rw [pu_n (by omega)] | rw [Int.toNat_natCast])))), hf112.cong (fun k9 hk9 => (Classical.em (k9 = i)).elim (fun hz => by subst hz; rw [hPm]; (repeat (first | rw [pu_s] | rw [pu_n (by omega)] | rw [Int.toNat_natCast]))) (fun hz => by rw [hPm]; (repeat (first | rw [pu_s] | rw [pu_n (by omega)] | rw [Int.toNat_natCast])))), ha102.cong (fun k9 hk9 => (Classical.em (k9 = i)).elim (fun hz => by subst hz; rw [hPm]; (repeat (first | rw [pu_s] | rw [pu_n (by omega)] | rw [Int.toNat_natCast]))) (fun hz => by rw [hPm]; (repeat (first | rw [pu_s] | rw [pu_n (by omega)] | rw [Int.toNat_natCast]))))⟩⟩
                      have hm4 : Pm 4 = P1 4 := by rw [hPm, pu_n (by omega)]
                      refine lv_aload_n hx hb dX5_passDays_187 rfl (lv_at hl 0 rfl) ?_
                      refine lv_dup hx hb dX5_passDays_188 rfl ?_
                      obtain ⟨ho114, ho115, ho116, ho117, ho118⟩ := id hp113
                      refine g_get (ci := 7) (v := .int (zI (Pm 4))) (C := RX5) (T := TX5) (N := 11) hx hb hts iU_X5 hown hK hM ⟨by omega, by omega⟩ ho114 rfl 8 (by decide) (hts _ u_180) (fun _ h9 => h9) rfl dX5_passDays_189 ?_
                      refine g_iconst hx hb dX5_passDays_192 ?_
                      refine g_iadd hx hb dX5_passDays_193 ?_
                      refine g_put (ci := 7) (v := .int (zI ((Pm 4) + 1))) (ty := .int) (C := RX5) (T := TX5) (N := 11) hx hb hts iU_X5 tyX5 tyX5_ok nmX5 hown hK hM ⟨by omega, by omega⟩ ho114 rfl 8 (by decide) (hts _ u_180) (fun _ h9 => h9) rfl (by decide +kernel) rfl rfl (Nat.le_of_ble_eq_true rfl) dX5_passDays_194 (fun f119 H locs hM hf121 o120 => ?_)
                      have hf121 : f119 (h) = .inr (7, [.ref (h + 1), .ref (h + 6), .ref (h + 10), .ref (h + 16), .long (zL (Pm 0)), .int (zI (Pm 1)), .long (zL (Pm 2)), .long (zL (Pm 3)), .int (zI ((Pm 4) + 1)), .long (zL (Pm 5)), .long (zL (Pm 6))]) := hf121
                      refine lv_goto (tgt := 204) hx hb dX5_passDays_197 (by decide) ?_
                      refine lv_iinc (v := zI ((↑i : Int) + 1)) (lv' := [(4, .int (zI ((↑i : Int) + 1))), (0, .ref h), (1, .int (zI (↑d : Int))), (2, .int (zI (P 4))), (3, .int (zI (↑dn : Int)))]) hx hb dX5_passDays_204 hl (k := 4) rfl (zI_add _ _) (by decide) rfl (fun ls hl => ?_)
                      refine lv_goto (tgt := 25) hx hb dX5_passDays_207 (by decide) ?_
                      have hf123 := ho115.kept (fun q h1 h2 => (o120 (q) (by omega)))
                      have hf124 := ho116.kept (fun q h1 h2 => (o120 (q) (by omega)))
                      have hf125 := ho117.kept (fun q h1 h2 => (o120 (q) (by omega)))
                      have hf126 := ho118.kept (fun q h1 h2 => (o120 (q) (by omega)))
                      obtain ⟨Q122, hQ122⟩ : ∃ Q : Nat → Int, Q = pu Pm 4 ((Pm 4) + 1) := ⟨_, rfl⟩
                      have hp127 : planAt g f119 h Q122 := ⟨hf121.trans (by rw [hQ122]; (repeat (first | rw [pu_s] | rw [pu_n (by omega)] | rw [Int.toNat_natCast]))), hf123.cong (fun i hi => by rw [hQ122]; (repeat (first | rw [pu_s] | rw [pu_n (by omega)] | rw [Int.toNat_natCast]))), hf124.cong (fun i hi => by rw [hQ122]; (repeat (first | rw [pu_s] | rw [pu_n (by omega)] | rw [Int.toNat_natCast]))), hf125.cong (fun i hi => by rw [hQ122]; (repeat (first | rw [pu_s] | rw [pu_n (by omega)] | rw [Int.toNat_natCast]))), hf126.cong (fun i hi => by rw [hQ122]; (repeat (first | rw [pu_s] | rw [pu_n (by omega)] | rw [Int.toNat_natCast])))⟩
                      have hnext := pOkL_itm hoi hi10 (by omega)
                      have hres : sItmT i Pi = Q122 := by unfold sItmT; rw [if_pos hdue]; dsimp only; rw [← hP1, if_neg c97, he1, Int.toNat_natCast, if_neg c142, ← hPm, ← hQ122]
                      exact ih25 (i + 1) Q122 f119 _ _ _ (by omega) (by rw [sIt_succ, ← hPi]; unfold sItmT; rw [if_pos hdue]; dsimp only; rw [← hP1, if_neg c97, he1, Int.toNat_natCast, if_neg c142, ← hPm, ← hQ122]) (by have := hnext.2.2; rw [hres] at this; rw [this]; omega) (by have := hnext.1; rw [hres] at this; exact pOkL_mono this (by omega)) (by have := hnext.2.2; rw [hres] at this; rw [this]; exact hi10b) (fun q hq => ((o120 (q) (by omega)).trans ((o101 (q) (by omega)).trans ((o72 (q) (by omega)).trans (hfr (q) (by omega)))))) hM hp127 (lv_sub hl [1, 2, 3, 4, 0] rfl)
                    · skip
                      refine lv_aload_n hx hb dX5_passDays_145 rfl (lv_at hl 0 rfl) ?_
                      refine lv_aload_n hx hb dX5_passDays_146 rfl (lv_at hl 0 rfl) ?_
                      refine g_get (ci := 7) (v := .ref (h + 16)) (C := RX5) (T := TX5) (N := 11) hx hb hts iU_X5 hown hK hM ⟨by omega, by omega⟩ ho85 rfl 3 (by decide) (hts _ u_170) (fun _ h9 => h9) rfl dX5_passDays_147 ?_
                      refine g_getN (ci := 5) (v := .ref (h + 16 + 2)) (C := RX3) (T := TX3) (N := 7) hx hb hts iU_X3 hown hK hM ⟨by omega, by omega⟩ ho90 rfl 1 (by decide) (hts _ u_138) (fun _ h9 => h9) rfl dX5_passDays_150 ?_
                      refine lv_iload hx hb dX5_passDays_153 (lv_at hl 4 rfl) ?_
                      refine g_iald hx hb hK hM ⟨by omega, by omega⟩ ho92 (by omega) (by omega) (by decide) dX5_passDays_155 ?_
                      show W _ _ _ _ _ _ _ _ _ _ _ _ _ _ _ (F0 _ _ _ (.int (zI (P1 (100 + 6 * i))) :: _))
                      rw [he1]
                      refine lv_aload_n hx hb dX5_passDays_156 rfl (lv_at hl 0 rfl) ?_
                      refine g_get (ci := 7) (v := .ref (h + 16)) (C := RX5) (T := TX5) (N := 11) hx hb hts iU_X5 hown hK hM ⟨by omega, by omega⟩ ho85 rfl 3 (by decide) (hts _ u_170) (fun _ h9 => h9) rfl dX5_passDays_157 ?_
                      refine g_getN (ci := 5) (v := .ref (h + 16 + 3)) (C := RX3) (T := TX3) (N := 7) hx hb hts iU_X3 hown hK hM ⟨by omega, by omega⟩ ho90 rfl 2 (by decide) (hts _ u_140) (fun _ h9 => h9) rfl dX5_passDays_160 ?_
                      refine lv_iload hx hb dX5_passDays_163 (lv_at hl 4 rfl) ?_
                      refine g_iald hx hb hK hM ⟨by omega, by omega⟩ ho93 (by omega) (by omega) (by decide) dX5_passDays_165 ?_
                      show W _ _ _ _ _ _ _ _ _ _ _ _ _ _ _ (F0 _ _ _ (.int (zI (P1 (101 + 6 * i))) :: _))
                      have hC128 := c_X5_pay l g b0 n f71 h P1 e1 (P1 (101 + 6 * i)) hp84 hrg hcn7b (by omega) ⟨by omega, by omega⟩ ⟨by omega, by omega⟩ ⟨by omega, by omega⟩
                      refine g_callVl (ci := 7) (C := RX5) (T := TX5) (N := 11) (As := [.int (zI (↑e1 : Int)), .int (zI (P1 (101 + 6 * i)))]) (rest := []) ⟨hx, hb, hml, hown, hts⟩ hK hM hC128 (cuV (n := 2) hts u_508 u_505 u_4 (by decide) u_506 u_507 ⟨Nat.le_of_ble_eq_true rfl, Nat.le_of_ble_eq_true rfl⟩) ⟨by omega, by omega⟩ ho85 rfl rfl hl.1 rfl (Nat.le_of_ble_eq_true rfl) dX5_passDays_166 ⟨Nat.zero_le _, Nat.zero_le _⟩ (fun r166 f129 H locs hM hp130 => ?_)
                      obtain ⟨rfl, hn131, o132⟩ := hp130
                      obtain ⟨P2, hP2⟩ : ∃ Q : Nat → Int, Q = sPay P1 e1 (P1 (101 + 6 * i)) := ⟨_, rfl⟩
                      rw [← hP2] at hn131
                      refine lv_pop2_2 hx hb dX5_passDays_169 rfl ?_
                      refine lv_goto (tgt := 200) hx hb dX5_passDays_170 (by decide) ?_
                      have hd2 : pOkL P2 (vv + 1 + i + 1) (i + 1) := by rw [hP2]; exact pOkL_mono (pOkL_pay hd1 (by omega) (by omega) c142) (by omega)
                      refine lv_aload_n hx hb dX5_passDays_200 rfl (lv_at hl 0 rfl) ?_
                      have hC133 := c_X5_settle l g b0 n f129 h P2 hn131 hrg (wfS_mono (pOkL_wfS hd2 (by omega)) (by omega)) hd2.2.2.1
                      obtain ⟨ho136, ho137, ho138, ho139, ho140⟩ := id hn131
                      refine g_callVv (ci := 7) (C := RX5) (T := TX5) (N := 11) (As := []) (rest := []) ⟨hx, hb, hml, hown, hts⟩ hK hM hC133 (cuV (n := 0) hts u_516 u_513 u_4 (by decide) u_514 u_515 ⟨Nat.le_of_ble_eq_true rfl, Nat.le_of_ble_eq_true rfl⟩) ⟨by omega, by omega⟩ ho136 rfl rfl hl.1 rfl (Nat.le_of_ble_eq_true rfl) dX5_passDays_201 ⟨Nat.zero_le _, Nat.zero_le _⟩ (fun f134 H locs hM hp135 => ?_)
                      obtain ⟨hn141, o142⟩ := hp135
                      obtain ⟨P3, hP3⟩ : ∃ Q : Nat → Int, Q = sSet P2 := ⟨_, rfl⟩
                      rw [← hP3] at hn141
                      refine lv_iinc (v := zI ((↑i : Int) + 1)) (lv' := [(4, .int (zI ((↑i : Int) + 1))), (0, .ref h), (1, .int (zI (↑d : Int))), (2, .int (zI (P 4))), (3, .int (zI (↑dn : Int)))]) hx hb dX5_passDays_204 hl (k := 4) rfl (zI_add _ _) (by decide) rfl (fun ls hl => ?_)
                      refine lv_goto (tgt := 25) hx hb dX5_passDays_207 (by decide) ?_
                      obtain ⟨ho143, ho144, ho145, ho146, ho147⟩ := id hn141
                      have hnext := pOkL_itm hoi hi10 (by omega)
                      have hres : sItmT i Pi = P3 := by unfold sItmT; rw [if_pos hdue]; dsimp only; rw [← hP1, if_neg c97, he1, Int.toNat_natCast, if_pos c142, ← hP2, ← hP3]
                      exact ih25 (i + 1) P3 f134 _ _ _ (by omega) (by rw [sIt_succ, ← hPi]; unfold sItmT; rw [if_pos hdue]; dsimp only; rw [← hP1, if_neg c97, he1, Int.toNat_natCast, if_pos c142, ← hP2, ← hP3]) (by have := hnext.2.2; rw [hres] at this; rw [this]; omega) (by have := hnext.1; rw [hres] at this; exact pOkL_mono this (by omega)) (by have := hnext.2.2; rw [hres] at this; rw [this]; exact hi10b) (fun q hq => ((o142 (q) (by omega)).trans ((o132 (q) (by omega)).trans ((o72 (q) (by omega)).trans (hfr (q) (by omega)))))) hM hn141 (lv_sub hl [1, 2, 3, 4, 0] rfl)
                  · skip
                    refine lv_aload_n hx hb dX5_passDays_100 rfl (lv_at hl 0 rfl) ?_
                    refine lv_aload_n hx hb dX5_passDays_101 rfl (lv_at hl 0 rfl) ?_
                    refine g_get (ci := 7) (v := .ref (h + 16)) (C := RX5) (T := TX5) (N := 11) hx hb hts iU_X5 hown hK hM ⟨by omega, by omega⟩ ho85 rfl 3 (by decide) (hts _ u_170) (fun _ h9 => h9) rfl dX5_passDays_102 ?_
                    refine g_getN (ci := 5) (v := .ref (h + 16 + 3)) (C := RX3) (T := TX3) (N := 7) hx hb hts iU_X3 hown hK hM ⟨by omega, by omega⟩ ho90 rfl 2 (by decide) (hts _ u_140) (fun _ h9 => h9) rfl dX5_passDays_105 ?_
                    refine lv_iload hx hb dX5_passDays_108 (lv_at hl 4 rfl) ?_
                    refine g_iald hx hb hK hM ⟨by omega, by omega⟩ ho93 (by omega) (by omega) (by decide) dX5_passDays_110 ?_
                    show W _ _ _ _ _ _ _ _ _ _ _ _ _ _ _ (F0 _ _ _ (.int (zI (P1 (101 + 6 * i))) :: _))
                    have hC148 := c_X5_takeIncome l g b0 n f71 h P1 (P1 (101 + 6 * i)) hp84 hrg (wfE_mono hw1.E (by omega)) hd1.2.1 ⟨by omega, by omega⟩
                    refine g_callVl (ci := 7) (C := RX5) (T := TX5) (N := 11) (As := [.int (zI (P1 (101 + 6 * i)))]) (rest := []) ⟨hx, hb, hml, hown, hts⟩ hK hM hC148 (cuV (n := 1) hts u_483 u_480 u_4 (by decide) u_481 u_482 ⟨Nat.le_of_ble_eq_true rfl, Nat.le_of_ble_eq_true rfl⟩) ⟨by omega, by omega⟩ ho85 rfl rfl hl.1 rfl (Nat.le_of_ble_eq_true rfl) dX5_passDays_111 ⟨Nat.zero_le _, Nat.zero_le _⟩ (fun r111 f149 H locs hM hp150 => ?_)
                    obtain ⟨rfl, hn151, o152⟩ := hp150
                    obtain ⟨P2, hP2⟩ : ∃ Q : Nat → Int, Q = (sInc P1 (P1 (101 + 6 * i))).2 := ⟨_, rfl⟩
                    rw [← hP2] at hn151
                    refine lv_pop2_2 hx hb dX5_passDays_114 rfl ?_
                    refine lv_goto (tgt := 200) hx hb dX5_passDays_115 (by decide) ?_
                    have hd2 : pOkL P2 (vv + 1 + i + 1) (i + 1) := by rw [hP2]; exact pOkL_inc hd1 (by omega) (by omega)
                    refine lv_aload_n hx hb dX5_passDays_200 rfl (lv_at hl 0 rfl) ?_
                    have hC153 := c_X5_settle l g b0 n f149 h P2 hn151 hrg (wfS_mono (pOkL_wfS hd2 (by omega)) (by omega)) hd2.2.2.1
                    obtain ⟨ho156, ho157, ho158, ho159, ho160⟩ := id hn151
                    refine g_callVv (ci := 7) (C := RX5) (T := TX5) (N := 11) (As := []) (rest := []) ⟨hx, hb, hml, hown, hts⟩ hK hM hC153 (cuV (n := 0) hts u_516 u_513 u_4 (by decide) u_514 u_515 ⟨Nat.le_of_ble_eq_true rfl, Nat.le_of_ble_eq_true rfl⟩) ⟨by omega, by omega⟩ ho156 rfl rfl hl.1 rfl (Nat.le_of_ble_eq_true rfl) dX5_passDays_201 ⟨Nat.zero_le _, Nat.zero_le _⟩ (fun f154 H locs hM hp155 => ?_)
                    obtain ⟨hn161, o162⟩ := hp155
                    obtain ⟨P3, hP3⟩ : ∃ Q : Nat → Int, Q = sSet P2 := ⟨_, rfl⟩
                    rw [← hP3] at hn161
                    refine lv_iinc (v := zI ((↑i : Int) + 1)) (lv' := [(4, .int (zI ((↑i : Int) + 1))), (0, .ref h), (1, .int (zI (↑d : Int))), (2, .int (zI (P 4))), (3, .int (zI (↑dn : Int)))]) hx hb dX5_passDays_204 hl (k := 4) rfl (zI_add _ _) (by decide) rfl (fun ls hl => ?_)
                    refine lv_goto (tgt := 25) hx hb dX5_passDays_207 (by decide) ?_
                    obtain ⟨ho163, ho164, ho165, ho166, ho167⟩ := id hn161
                    have hnext := pOkL_itm hoi hi10 (by omega)
                    have hres : sItmT i Pi = P3 := by unfold sItmT; rw [if_pos hdue]; dsimp only; rw [← hP1, if_pos c97, ← hP2, ← hP3]
                    exact ih25 (i + 1) P3 f154 _ _ _ (by omega) (by rw [sIt_succ, ← hPi]; unfold sItmT; rw [if_pos hdue]; dsimp only; rw [← hP1, if_pos c97, ← hP2, ← hP3]) (by have := hnext.2.2; rw [hres] at this; rw [this]; omega) (by have := hnext.1; rw [hres] at this; exact pOkL_mono this (by omega)) (by have := hnext.2.2; rw [hres] at this; rw [this]; exact hi10b) (fun q hq => ((o162 (q) (by omega)).trans ((o152 (q) (by omega)).trans ((o72 (q) (by omega)).trans (hfr (q) (by omega)))))) hM hn161 (lv_sub hl [1, 2, 3, 4, 0] rfl)
                · skip
                  refine lv_goto (tgt := 204) hx hb dX5_passDays_61 (by decide) ?_
                  refine lv_iinc (v := zI ((↑i : Int) + 1)) (lv' := [(4, .int (zI ((↑i : Int) + 1))), (0, .ref h), (1, .int (zI (↑d : Int))), (2, .int (zI (P 4))), (3, .int (zI (↑dn : Int)))]) hx hb dX5_passDays_204 hl (k := 4) rfl (zI_add _ _) (by decide) rfl (fun ls hl => ?_)
                  refine lv_goto (tgt := 25) hx hb dX5_passDays_207 (by decide) ?_
                  have hnext := pOkL_itm hoi hi10 (by omega)
                  have hres : sItmT i Pi = Pi := by unfold sItmT; rw [if_neg c58]
                  exact ih25 (i + 1) Pi fL _ _ _ (by omega) (by rw [sIt_succ, ← hPi]; unfold sItmT; rw [if_neg c58]) (by have := hnext.2.2; rw [hres] at this; rw [this]; omega) (by have := hnext.1; rw [hres] at this; exact pOkL_mono this (by omega)) (by have := hnext.2.2; rw [hres] at this; rw [this]; exact hi10b) (fun q hq => (hfr (q) (by omega))) hM hL2 (lv_sub hl [1, 2, 3, 4, 0] rfl)
        have hf169 := ho12.kept (fun q h1 h2 => (o17 (q) (by omega)))
        have hf170 := ho13.kept (fun q h1 h2 => (o17 (q) (by omega)))
        have hf171 := ho14.kept (fun q h1 h2 => (o17 (q) (by omega)))
        have hf172 := ho15.kept (fun q h1 h2 => (o17 (q) (by omega)))
        obtain ⟨Q168, hQ168⟩ : ∃ Q : Nat → Int, Q = pu Pd 1 ((Pd 1) + 1) := ⟨_, rfl⟩
        have hp173 : planAt g f16 h Q168 := ⟨hf18.trans (by rw [hQ168]; (repeat (first | rw [pu_s] | rw [pu_n (by omega)] | rw [Int.toNat_natCast]))), hf169.cong (fun i hi => by rw [hQ168]; (repeat (first | rw [pu_s] | rw [pu_n (by omega)] | rw [Int.toNat_natCast]))), hf170.cong (fun i hi => by rw [hQ168]; (repeat (first | rw [pu_s] | rw [pu_n (by omega)] | rw [Int.toNat_natCast]))), hf171.cong (fun i hi => by rw [hQ168]; (repeat (first | rw [pu_s] | rw [pu_n (by omega)] | rw [Int.toNat_natCast]))), hf172.cong (fun i hi => by rw [hQ168]; (repeat (first | rw [pu_s] | rw [pu_n (by omega)] | rw [Int.toNat_natCast])))⟩
        exact lp25 (9) 0 Q168 f16 _ _ _ (by omega) (by rw [hQ168]; rfl) (by rw [hQ168, pu_n (by omega)]; omega) (by rw [hQ168]; exact pOkL_mono (pOkL_day hod) (by omega)) (by rw [hQ168, pu_n (by omega)]) (fun q hq => ((o17 (q) (by omega)).trans (hfr (q) (by omega)))) hM hp173 (lv_sub hl [1, 2, 3, 4, 0] rfl)
  exact lp7 ((d + 1)) 0 P f _ _ _ (by omega) (by omega) rfl (pOkL_mono hok (by omega)) rfl (fun q hq => rfl) hM hE (lv_sub hl [2, 3, 1, 0] rfl)
