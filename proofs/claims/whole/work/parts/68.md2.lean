def po_X9_shares (g : gE) (f : gF) (h : Nat) (Z M : Nat → Int) (aa : Nat) (P : Nat → Int) (r0 mm : Nat) (x : Int) : Int64 → gF → Prop := fun r1 f1 => r1 = zL (x - (sShare P r0 mm x).1) ∧ mpAt g f1 h M aa ((sShare P r0 mm x).2) ∧ scrAt g f1 h ∧ ∀ q, (q < h + 1 ∨ (h + 2 ≤ q ∧ q < h + 9) ∨ h + 11 ≤ q) → f1 q = f q
set_option maxRecDepth 100000 in
set_option maxHeartbeats 1000000 in
/-- shares(first, behind, left) -/
theorem c_X9_shares (l : Launch) (g : gE) (b0 n : Nat) (f : gF) (h : Nat) (Z M : Nat → Int) (aa : Nat) (P : Nat → Int) (r0 mm : Nat) (x : Int) (hO : mdO f h Z) (hP : mpAt g f h M aa P) (hrg : b0 ≤ h ∧ h + 13 ≤ b0 + n) (hat : Z 11 = ↑aa) (haa : aa + 147 ≤ 2058) (hsc : scrAt g f h) (hwe : wfE P 1000000000000000) (hsh : shOk P r0 mm) (hlr : 0 ≤ x ∧ x ≤ 1000000) : cL l yX9_shares cX9_shares 14 (some .long) 3 108 [.ref h, .int (zI (↑r0 : Int)), .int (zI (↑(r0 + mm) : Int)), .long (zL x)] g b0 n f (po_X9_shares g f h Z M aa P r0 mm x) := by
  refine gs_l (cc := cX9_shares) (maxL := 14) (ret := (some .long)) (by decide) (Nat.le_of_ble_eq_true rfl) ?_
  intro p e0 s m args below meth c ls hx hb hr hml hown hts hlk hK hM hl
  have hl : lv_has ls 14 [(0, .ref h), (1, .int (zI (↑r0 : Int))), (2, .int (zI (↑(r0 + mm) : Int))), (3, .long (zL x))] := hl
  obtain ⟨⟨A, hA⟩, U, hU⟩ := hsc
  have hsh1 := hsh.1
  have hsh2 := hsh.2.1
  have hlr1 := hlr.1
  have hlr2 := hlr.2
  have hcn7 := hwe.1
  refine g_lconst (z := 0) hx hb dX9_shares_0 (by decide) ?_
  refine lv_lstore (lv' := [(5, .long (zL 0)), (0, .ref h), (1, .int (zI (↑r0 : Int))), (2, .int (zI (↑(r0 + mm) : Int))), (3, .long (zL x))]) hx hb dX9_shares_1 hl (by decide) rfl (fun ls hl => ?_)
  refine lv_iload_n hx hb dX9_shares_3 rfl (lv_at hl 2 rfl) ?_
  refine lv_istore (lv' := [(7, .int (zI (↑r0 : Int))), (5, .long (zL 0)), (0, .ref h), (1, .int (zI (↑r0 : Int))), (2, .int (zI (↑(r0 + mm) : Int))), (3, .long (zL x))]) hx hb dX9_shares_4 hl (by decide) rfl (fun ls hl => ?_)
  have lp6 : ∀ (k : Nat), ∀ (i : Nat) (H : Heap) (locs : List Loc) (ls : Array Slot), (mm - i < k) → (i ≤ mm) → gH g b0 n f s.heap H locs → lv_has ls 14 [(0, .ref h), (1, .int (zI (↑r0 : Int))), (2, .int (zI (↑(r0 + mm) : Int))), (3, .long (zL x)), (5, .long (zL (sSum (fun k => P (53 + 3 * (r0 + k))) i))), (7, .int (zI (↑(r0 + i) : Int)))] → W p l e0 { frames := 3, cells := 0, slots := 0, locals := 108 } s m args below meth c H locs 0 0 (MQ below (va_Ql (po_X9_shares g f h Z M aa P r0 mm x) (gB g b0 n) (gA b0)) args s 0 0 (gA b0)) (F0 m 6 ls []) := by
    intro k
    induction k with
    | zero =>
      intro i H locs ls hk hi hM hl
      exact absurd hk (Nat.not_lt_zero _)
    | succ k ih6 =>
      intro i H locs ls hk hi hM hl
      refine lv_iload hx hb dX9_shares_6 (lv_at hl 5 rfl) ?_
      refine lv_iload_n hx hb dX9_shares_8 rfl (lv_at hl 2 rfl) ?_
      refine g_icmp_ge (tgt := 36) hx hb dX9_shares_9 (by decide) ⟨by omega, by omega⟩ ⟨by omega, by omega⟩ (fun c9 => ?_) (fun c9 => ?_)
      · skip
        have him : i = mm := by omega
        obtain ⟨w, hw⟩ : ∃ w : Int, (sSum (fun k => P (53 + 3 * (r0 + k))) i) = w := ⟨_, rfl⟩
        rw [hw] at hl
        have hwv : w = sWt P r0 mm := by rw [← hw, him]; rfl
        have hwp := sWt_in hsh mm (Nat.le_refl mm)
        rw [← hwv] at hwp
        have hw1 : 1 ≤ w := by omega
        clear hw
        refine lv_lload_n hx hb dX9_shares_36 rfl (lv_at hl 3 rfl) ?_
        refine lv_lstore (lv' := [(7, .long (zL x)), (0, .ref h), (1, .int (zI (↑r0 : Int))), (2, .int (zI (↑(r0 + mm) : Int))), (3, .long (zL x)), (5, .long (zL w))]) hx hb dX9_shares_37 hl (by decide) rfl (fun ls hl => ?_)
        refine lv_iload_n hx hb dX9_shares_39 rfl (lv_at hl 2 rfl) ?_
        refine lv_istore (lv' := [(9, .int (zI (↑r0 : Int))), (7, .long (zL x)), (0, .ref h), (1, .int (zI (↑r0 : Int))), (2, .int (zI (↑(r0 + mm) : Int))), (3, .long (zL x)), (5, .long (zL w))]) hx hb dX9_shares_40 hl (by decide) rfl (fun ls hl => ?_)
        have lp42 : ∀ (k2 : Nat), ∀ (i2 : Nat) (cv : Int) (A2 : Nat → Int) (fL : gF) (H : Heap) (locs : List Loc) (ls : Array Slot), (mm - i2 < k2) → (i2 ≤ mm) → (cv = x - sSum (fun k => sPt P x w (r0 + k)) i2) → (∀ k, k < i2 → A2 (r0 + k) = sPt P x w (r0 + k)) → (∀ q, (q < h + 1 ∨ (h + 2 ≤ q ∧ q < h + 9) ∨ h + 11 ≤ q) → fL q = f q) → gH g b0 n fL s.heap H locs → (mdO fL h Z) → (mpAt g fL h M aa P) → (arJ g fL (h + 9) 6 A2) → (arZ g fL (h + 10) 6 U) → lv_has ls 14 [(0, .ref h), (1, .int (zI (↑r0 : Int))), (2, .int (zI (↑(r0 + mm) : Int))), (3, .long (zL x)), (5, .long (zL w)), (7, .long (zL cv)), (9, .int (zI (↑(r0 + i2) : Int)))] → W p l e0 { frames := 3, cells := 0, slots := 0, locals := 108 } s m args below meth c H locs 0 0 (MQ below (va_Ql (po_X9_shares g f h Z M aa P r0 mm x) (gB g b0 n) (gA b0)) args s 0 0 (gA b0)) (F0 m 42 ls []) := by
          intro k2
          induction k2 with
          | zero =>
            intro i2 cv A2 fL H locs ls hk hi2 hcv hA2 hfr hM hL0 hL1 hL2 hL3 hl
            exact absurd hk (Nat.not_lt_zero _)
          | succ k2 ih42 =>
            intro i2 cv A2 fL H locs ls hk hi2 hcv hA2 hfr hM hL0 hL1 hL2 hL3 hl
            refine lv_iload hx hb dX9_shares_42 (lv_at hl 6 rfl) ?_
            refine lv_iload_n hx hb dX9_shares_44 rfl (lv_at hl 2 rfl) ?_
            refine g_icmp_ge (tgt := 91) hx hb dX9_shares_45 (by decide) ⟨by omega, by omega⟩ ⟨by omega, by omega⟩ (fun c45 => ?_) (fun c45 => ?_)
            · skip
              have him2 : i2 = mm := by omega
              have hpi := sPts_in hsh hlr1 hlr2 hw1 i2 (by omega)
              have hcvb : -600000000 ≤ cv ∧ cv ≤ 1000000 := by omega
              refine g_lconst (z := 0) hx hb dX9_shares_91 (by decide) ?_
              refine lv_lstore (lv' := [(9, .long (zL 0)), (0, .ref h), (1, .int (zI (↑r0 : Int))), (2, .int (zI (↑(r0 + mm) : Int))), (3, .long (zL x)), (5, .long (zL w)), (7, .long (zL cv))]) hx hb dX9_shares_92 hl (by decide) rfl (fun ls hl => ?_)
              refine lv_iload_n hx hb dX9_shares_94 rfl (lv_at hl 2 rfl) ?_
              refine lv_istore (lv' := [(11, .int (zI (↑r0 : Int))), (9, .long (zL 0)), (0, .ref h), (1, .int (zI (↑r0 : Int))), (2, .int (zI (↑(r0 + mm) : Int))), (3, .long (zL x)), (5, .long (zL w)), (7, .long (zL cv))]) hx hb dX9_shares_95 hl (by decide) rfl (fun ls hl => ?_)
              have lp97 : ∀ (k3 : Nat), ∀ (i : Nat) (rs : Int) (tk : Int) (Pk : Nat → Int) (fL : gF) (H : Heap) (locs : List Loc) (ls : Array Slot), (mm - i < k3) → (i ≤ mm) → ((rs, tk, Pk) = sIt (sShT P x w r0) (cv, 0, P) i) → (wfE Pk (1000000000000000 + i * 1000000000)) → (∀ j, 51 ≤ j → Pk j = P j) → (Pk 7 = P 7) → (cv - i ≤ rs ∧ rs ≤ cv) → (∀ q, (q < h + 1 ∨ (h + 2 ≤ q ∧ q < h + 9) ∨ h + 11 ≤ q) → fL q = f q) → gH g b0 n fL s.heap H locs → (mdO fL h Z) → (mpAt g fL h M aa Pk) → (arJ g fL (h + 9) 6 A2) → (arZ g fL (h + 10) 6 U) → lv_has ls 14 [(0, .ref h), (1, .int (zI (↑r0 : Int))), (2, .int (zI (↑(r0 + mm) : Int))), (3, .long (zL x)), (5, .long (zL w)), (7, .long (zL rs)), (9, .long (zL tk)), (11, .int (zI (↑(r0 + i) : Int)))] → W p l e0 { frames := 3, cells := 0, slots := 0, locals := 108 } s m args below meth c H locs 0 0 (MQ below (va_Ql (po_X9_shares g f h Z M aa P r0 mm x) (gB g b0 n) (gA b0)) args s 0 0 (gA b0)) (F0 m 97 ls []) := by
                intro k3
                induction k3 with
                | zero =>
                  intro i rs tk Pk fL H locs ls hk hi3 hst hwk hkp hwk7 hrs hfr hM hL0 hL1 hL2 hL3 hl
                  exact absurd hk (Nat.not_lt_zero _)
                | succ k3 ih97 =>
                  intro i rs tk Pk fL H locs ls hk hi3 hst hwk hkp hwk7 hrs hfr hM hL0 hL1 hL2 hL3 hl
                  refine lv_iload hx hb dX9_shares_97 (lv_at hl 7 rfl) ?_
                  refine lv_iload_n hx hb dX9_shares_99 rfl (lv_at hl 2 rfl) ?_
                  refine g_icmp_ge (tgt := 162) hx hb dX9_shares_100 (by decide) ⟨by omega, by omega⟩ ⟨by omega, by omega⟩ (fun c100 => ?_) (fun c100 => ?_)
                  · skip
                    refine lv_lload_n hx hb dX9_shares_162 rfl (lv_at hl 3 rfl) ?_
                    refine lv_lload hx hb dX9_shares_163 (lv_at hl 6 rfl) ?_
                    refine g_lsub hx hb dX9_shares_165 ?_
                    refine g_lret hx hb hr hlk hK hM dX9_shares_166 ?_
                    have him3 : i = mm := by omega
                    have hS : sShare P r0 mm x = (tk, Pk) := by
                      have hcv2 : x - sSum (fun k => sPt P x w (r0 + k)) mm = cv := by rw [hcv, him2]
                      unfold sShare
                      simp only [← hwv, hcv2]
                      rw [← him3, ← hst]
                    refine ⟨by rw [hS], ?_, ⟨⟨_, hL2⟩, _, hL3⟩, (fun q hq => (hfr (q) (by omega)))⟩
                    rw [hS]
                    exact hL1
                  · skip
                    obtain ⟨hn1, hn2, hn3, hn4⟩ := hsh.2.2 i (by omega)
                    have hpx := shp_ok hlr1 hlr2 hn3 hn4 hw1
                    obtain ⟨t0, ht0⟩ : ∃ q : Nat, P (52 + 3 * (r0 + i)) = q := ⟨(P (52 + 3 * (r0 + i))).toNat, by omega⟩
                    obtain ⟨⟨hz1, hz2⟩, ⟨hz3, hz4⟩, hz5⟩ := hwk.2 t0 (by omega)
                    have hk52 : Pk (52 + 3 * (r0 + i)) = (t0 : Int) := (hkp _ (by omega)).trans ht0
                    have hpx1 : 0 ≤ sPt P x w (r0 + i) := hpx.2.1
                    have hpx2 : sPt P x w (r0 + i) ≤ 99000000 := hpx.2.2
                    refine lv_lload hx hb dX9_shares_103 (lv_at hl 5 rfl) ?_
                    refine g_lconst (z := 0) hx hb dX9_shares_105 (by decide) ?_
                    refine g_lcmp_le (tgt := 114) hx hb dX9_shares_106 dX9_shares_107 (by decide) ⟨by omega, by omega⟩ (by decide) (fun c106 => ?_) (fun c106 => ?_)
                    · skip
                      refine g_lconst (z := 0) hx hb dX9_shares_114 (by decide) ?_
                      refine lv_lstore (lv' := [(12, .long (zL 0)), (0, .ref h), (1, .int (zI (↑r0 : Int))), (2, .int (zI (↑(r0 + mm) : Int))), (3, .long (zL x)), (5, .long (zL w)), (7, .long (zL rs)), (9, .long (zL tk)), (11, .int (zI (↑(r0 + i) : Int)))]) hx hb dX9_shares_115 hl (by decide) rfl (fun ls hl => ?_)
                      refine lv_lload hx hb dX9_shares_117 (lv_at hl 6 rfl) ?_
                      refine lv_lload hx hb dX9_shares_119 (lv_at hl 0 rfl) ?_
                      refine g_lsub hx hb dX9_shares_121 ?_
                      refine lv_lstore (lv' := [(7, .long (zL (rs - 0))), (12, .long (zL 0)), (0, .ref h), (1, .int (zI (↑r0 : Int))), (2, .int (zI (↑(r0 + mm) : Int))), (3, .long (zL x)), (5, .long (zL w)), (9, .long (zL tk)), (11, .int (zI (↑(r0 + i) : Int)))]) hx hb dX9_shares_122 hl (by decide) rfl (fun ls hl => ?_)
                      refine lv_lload hx hb dX9_shares_124 (lv_at hl 7 rfl) ?_
                      refine lv_aload_n hx hb dX9_shares_126 rfl (lv_at hl 2 rfl) ?_
                      refine lv_aload_n hx hb dX9_shares_127 rfl (lv_at hl 2 rfl) ?_
                      refine g_bipush hx hb dX9_shares_128 (by decide) ?_
                      refine g_iconst hx hb dX9_shares_130 ?_
                      refine lv_iload hx hb dX9_shares_131 (lv_at hl 8 rfl) ?_
                      refine g_imul hx hb dX9_shares_133 ?_
                      refine g_iadd hx hb dX9_shares_134 ?_
                      refine g_iconst hx hb dX9_shares_135 ?_
                      refine g_iadd hx hb dX9_shares_136 ?_
                      have hC1 := c_X9_n l g b0 n fL h Z M aa Pk ((51 + (3 * (↑(r0 + i) : Int))) + 1) (52 + 3 * (r0 + i)) hL0 hL1 hrg hat haa (by omega) (by omega)
                      refine g_callVi (ci := 11) (C := RX9) (T := TX9) (N := 24) (As := [.int (zI ((51 + (3 * (↑(r0 + i) : Int))) + 1))]) (rest := [.ref h, .long (zL tk)]) ⟨hx, hb, hml, hown, hts⟩ hK hM hC1 (cuV (n := 1) hts u_1249 u_1246 u_10 (by decide) u_1248 us_30 ⟨Nat.le_of_ble_eq_true rfl, Nat.le_of_ble_eq_true rfl⟩) ⟨by omega, by omega⟩ hL0 rfl rfl hl.1 rfl (Nat.le_of_ble_eq_true rfl) dX9_shares_137 ⟨Nat.zero_le _, Nat.zero_le _⟩ (fun r137 f2 H locs hM hp3 => ?_)
                      obtain ⟨rfl, rfl⟩ := hp3
                      rw [hk52]
                      refine lv_aload_n hx hb dX9_shares_140 rfl (lv_at hl 2 rfl) ?_
                      refine g_get (ci := 11) (v := .ref (h + 9)) (C := RX9) (T := TX9) (N := 24) hx hb hts iU_X9 hown hK hM ⟨by omega, by omega⟩ hL0 rfl 17 (by decide) (hts _ u_1161) (fun _ h9 => h9) rfl dX9_shares_141 ?_
                      refine lv_iload hx hb dX9_shares_144 (lv_at hl 8 rfl) ?_
                      refine g_lald hx hb hK hM ⟨by omega, by omega⟩ hL2 (by omega) (by omega) (by decide) dX9_shares_146 ?_
                      show W _ _ _ _ _ _ _ _ _ _ _ _ _ _ _ (F0 _ _ _ (.long (zL (A2 (r0 + i))) :: _))
                      rw [hA2 i (by omega)]
                      refine lv_lload hx hb dX9_shares_147 (lv_at hl 1 rfl) ?_
                      refine g_ladd hx hb dX9_shares_149 ?_
                      have hC4 := c_X9_put l g b0 n fL h Z M aa Pk t0 ((sPt P x w (r0 + i)) + 0) hL0 hL1 hrg hat haa (by omega) ⟨by omega, by omega⟩ ⟨by omega, by omega⟩ ⟨by omega, by omega⟩
                      refine g_callVl (ci := 11) (C := RX9) (T := TX9) (N := 24) (As := [.int (zI (↑t0 : Int)), .long (zL ((sPt P x w (r0 + i)) + 0))]) (rest := [.long (zL tk)]) ⟨hx, hb, hml, hown, hts⟩ hK hM hC4 (cuV (n := 2) hts u_1300 u_1297 u_10 (by decide) u_1299 us_41 ⟨Nat.le_of_ble_eq_true rfl, Nat.le_of_ble_eq_true rfl⟩) ⟨by omega, by omega⟩ hL0 rfl rfl hl.1 rfl (Nat.le_of_ble_eq_true rfl) dX9_shares_150 ⟨Nat.zero_le _, Nat.zero_le _⟩ (fun r150 f5 H locs hM hp6 => ?_)
                      obtain ⟨rfl, hn7, o8⟩ := hp6
                      obtain ⟨Pz9, hPz9⟩ : ∃ Q : Nat → Int, Q = sPut Pk t0 ((sPt P x w (r0 + i)) + 0) := ⟨_, rfl⟩
                      rw [← hPz9] at hn7
                      refine g_ladd hx hb dX9_shares_153 ?_
                      refine lv_lstore (lv' := [(9, .long (zL (tk + (sIs Pk t0 ((sPt P x w (r0 + i)) + 0))))), (7, .long (zL (rs - 0))), (12, .long (zL 0)), (0, .ref h), (1, .int (zI (↑r0 : Int))), (2, .int (zI (↑(r0 + mm) : Int))), (3, .long (zL x)), (5, .long (zL w)), (11, .int (zI (↑(r0 + i) : Int)))]) hx hb dX9_shares_154 hl (by decide) rfl (fun ls hl => ?_)
                      refine lv_iinc (v := zI ((↑(r0 + i) : Int) + 1)) (lv' := [(11, .int (zI ((↑(r0 + i) : Int) + 1))), (9, .long (zL (tk + (sIs Pk t0 ((sPt P x w (r0 + i)) + 0))))), (7, .long (zL (rs - 0))), (12, .long (zL 0)), (0, .ref h), (1, .int (zI (↑r0 : Int))), (2, .int (zI (↑(r0 + mm) : Int))), (3, .long (zL x)), (5, .long (zL w))]) hx hb dX9_shares_156 hl (k := 8) rfl (zI_add _ _) (by decide) rfl (fun ls hl => ?_)
                      refine lv_goto (tgt := 97) hx hb dX9_shares_159 (by decide) ?_
                      have hf10 : f5 (h) = .inr (11, [.int (zI (Z 0)), .ref (h + 1), .ref (h + 2), .ref (h + 3), .ref (h + 4), .ref (h + 5), .ref (h + 6), .ref (h + 7), .ref (h + 8), .int (zI (Z 9)), .int (zI (Z 10)), .int (zI (Z 11)), .int (zI (Z 12)), .int (zI (Z 13)), .int (zI (Z 14)), .int (zI (Z 15)), .int (zI (Z 16)), .ref (h + 9), .ref (h + 10), .ref (h + 11), .int (zI (Z 20)), .int (zI (Z 21)), .int (zI (Z 22)), .ref (h + 12)]) := (o8 (h) (by omega)).trans hL0
                      have hf11 := hL2.kept (o8 (h + 9) (by omega))
                      have hf12 := hL3.kept (o8 (h + 10) (by omega))
                      exact ih97 (i + 1) (rs - 0) (tk + (sIs Pk t0 ((sPt P x w (r0 + i)) + 0))) Pz9 f5 _ _ _ (by omega) (by omega) (by rw [sIt_succ, ← hst, hPz9]; simp only [sShT, ht0, Int.toNat_natCast, if_neg (show ¬ 0 < rs by omega)]) (by rw [hPz9]; exact wfE_mono (wfE_put (d := 1000000000) hwk (by omega) (by omega) (by omega)) (by omega)) (fun j hj => by rw [hPz9, sPut_n (by omega)]; exact hkp j hj) (by rw [hPz9, sPut_n (by omega)]; exact hwk7) (by omega) (fun q hq => ((o8 (q) (by omega)).trans (hfr (q) (by omega)))) hM hf10 hn7 hf11 hf12 (lv_sub hl [4, 5, 6, 7, 8, 2, 1, 0] rfl)
                    · skip
                      refine g_lconst (z := 1) hx hb dX9_shares_110 (by decide) ?_
                      refine lv_goto (tgt := 115) hx hb dX9_shares_111 (by decide) ?_
                      refine lv_lstore (lv' := [(12, .long (zL 1)), (0, .ref h), (1, .int (zI (↑r0 : Int))), (2, .int (zI (↑(r0 + mm) : Int))), (3, .long (zL x)), (5, .long (zL w)), (7, .long (zL rs)), (9, .long (zL tk)), (11, .int (zI (↑(r0 + i) : Int)))]) hx hb dX9_shares_115 hl (by decide) rfl (fun ls hl => ?_)
                      refine lv_lload hx hb dX9_shares_117 (lv_at hl 6 rfl) ?_
                      refine lv_lload hx hb dX9_shares_119 (lv_at hl 0 rfl) ?_
                      refine g_lsub hx hb dX9_shares_121 ?_
                      refine lv_lstore (lv' := [(7, .long (zL (rs - 1))), (12, .long (zL 1)), (0, .ref h), (1, .int (zI (↑r0 : Int))), (2, .int (zI (↑(r0 + mm) : Int))), (3, .long (zL x)), (5, .long (zL w)), (9, .long (zL tk)), (11, .int (zI (↑(r0 + i) : Int)))]) hx hb dX9_shares_122 hl (by decide) rfl (fun ls hl => ?_)
                      refine lv_lload hx hb dX9_shares_124 (lv_at hl 7 rfl) ?_
                      refine lv_aload_n hx hb dX9_shares_126 rfl (lv_at hl 2 rfl) ?_
                      refine lv_aload_n hx hb dX9_shares_127 rfl (lv_at hl 2 rfl) ?_
                      refine g_bipush hx hb dX9_shares_128 (by decide) ?_
                      refine g_iconst hx hb dX9_shares_130 ?_
                      refine lv_iload hx hb dX9_shares_131 (lv_at hl 8 rfl) ?_
                      refine g_imul hx hb dX9_shares_133 ?_
                      refine g_iadd hx hb dX9_shares_134 ?_
                      refine g_iconst hx hb dX9_shares_135 ?_
                      refine g_iadd hx hb dX9_shares_136 ?_
                      have hC13 := c_X9_n l g b0 n fL h Z M aa Pk ((51 + (3 * (↑(r0 + i) : Int))) + 1) (52 + 3 * (r0 + i)) hL0 hL1 hrg hat haa (by omega) (by omega)
                      refine g_callVi (ci := 11) (C := RX9) (T := TX9) (N := 24) (As := [.int (zI ((51 + (3 * (↑(r0 + i) : Int))) + 1))]) (rest := [.ref h, .long (zL tk)]) ⟨hx, hb, hml, hown, hts⟩ hK hM hC13 (cuV (n := 1) hts u_1249 u_1246 u_10 (by decide) u_1248 us_30 ⟨Nat.le_of_ble_eq_true rfl, Nat.le_of_ble_eq_true rfl⟩) ⟨by omega, by omega⟩ hL0 rfl rfl hl.1 rfl (Nat.le_of_ble_eq_true rfl) dX9_shares_137 ⟨Nat.zero_le _, Nat.zero_le _⟩ (fun r137 f14 H locs hM hp15 => ?_)
                      obtain ⟨rfl, rfl⟩ := hp15
                      rw [hk52]
                      refine lv_aload_n hx hb dX9_shares_140 rfl (lv_at hl 2 rfl) ?_
                      refine g_get (ci := 11) (v := .ref (h + 9)) (C := RX9) (T := TX9) (N := 24) hx hb hts iU_X9 hown hK hM ⟨by omega, by omega⟩ hL0 rfl 17 (by decide) (hts _ u_1161) (fun _ h9 => h9) rfl dX9_shares_141 ?_
                      refine lv_iload hx hb dX9_shares_144 (lv_at hl 8 rfl) ?_
                      refine g_lald hx hb hK hM ⟨by omega, by omega⟩ hL2 (by omega) (by omega) (by decide) dX9_shares_146 ?_
                      show W _ _ _ _ _ _ _ _ _ _ _ _ _ _ _ (F0 _ _ _ (.long (zL (A2 (r0 + i))) :: _))
                      rw [hA2 i (by omega)]
                      refine lv_lload hx hb dX9_shares_147 (lv_at hl 1 rfl) ?_
                      refine g_ladd hx hb dX9_shares_149 ?_
                      have hC16 := c_X9_put l g b0 n fL h Z M aa Pk t0 ((sPt P x w (r0 + i)) + 1) hL0 hL1 hrg hat haa (by omega) ⟨by omega, by omega⟩ ⟨by omega, by omega⟩ ⟨by omega, by omega⟩
                      refine g_callVl (ci := 11) (C := RX9) (T := TX9) (N := 24) (As := [.int (zI (↑t0 : Int)), .long (zL ((sPt P x w (r0 + i)) + 1))]) (rest := [.long (zL tk)]) ⟨hx, hb, hml, hown, hts⟩ hK hM hC16 (cuV (n := 2) hts u_1300 u_1297 u_10 (by decide) u_1299 us_41 ⟨Nat.le_of_ble_eq_true rfl, Nat.le_of_ble_eq_true rfl⟩) ⟨by omega, by omega⟩ hL0 rfl rfl hl.1 rfl (Nat.le_of_ble_eq_true rfl) dX9_shares_150 ⟨Nat.zero_le _, Nat.zero_le _⟩ (fun r150 f17 H locs hM hp18 => ?_)
                      obtain ⟨rfl, hn19, o20⟩ := hp18
                      obtain ⟨Pz21, hPz21⟩ : ∃ Q : Nat → Int, Q = sPut Pk t0 ((sPt P x w (r0 + i)) + 1) := ⟨_, rfl⟩
                      rw [← hPz21] at hn19
                      refine g_ladd hx hb dX9_shares_153 ?_
                      refine lv_lstore (lv' := [(9, .long (zL (tk + (sIs Pk t0 ((sPt P x w (r0 + i)) + 1))))), (7, .long (zL (rs - 1))), (12, .long (zL 1)), (0, .ref h), (1, .int (zI (↑r0 : Int))), (2, .int (zI (↑(r0 + mm) : Int))), (3, .long (zL x)), (5, .long (zL w)), (11, .int (zI (↑(r0 + i) : Int)))]) hx hb dX9_shares_154 hl (by decide) rfl (fun ls hl => ?_)
                      refine lv_iinc (v := zI ((↑(r0 + i) : Int) + 1)) (lv' := [(11, .int (zI ((↑(r0 + i) : Int) + 1))), (9, .long (zL (tk + (sIs Pk t0 ((sPt P x w (r0 + i)) + 1))))), (7, .long (zL (rs - 1))), (12, .long (zL 1)), (0, .ref h), (1, .int (zI (↑r0 : Int))), (2, .int (zI (↑(r0 + mm) : Int))), (3, .long (zL x)), (5, .long (zL w))]) hx hb dX9_shares_156 hl (k := 8) rfl (zI_add _ _) (by decide) rfl (fun ls hl => ?_)
                      refine lv_goto (tgt := 97) hx hb dX9_shares_159 (by decide) ?_
                      have hf22 : f17 (h) = .inr (11, [.int (zI (Z 0)), .ref (h + 1), .ref (h + 2), .ref (h + 3), .ref (h + 4), .ref (h + 5), .ref (h + 6), .ref (h + 7), .ref (h + 8), .int (zI (Z 9)), .int (zI (Z 10)), .int (zI (Z 11)), .int (zI (Z 12)), .int (zI (Z 13)), .int (zI (Z 14)), .int (zI (Z 15)), .int (zI (Z 16)), .ref (h + 9), .ref (h + 10), .ref (h + 11), .int (zI (Z 20)), .int (zI (Z 21)), .int (zI (Z 22)), .ref (h + 12)]) := (o20 (h) (by omega)).trans hL0
                      have hf23 := hL2.kept (o20 (h + 9) (by omega))
                      have hf24 := hL3.kept (o20 (h + 10) (by omega))
                      exact ih97 (i + 1) (rs - 1) (tk + (sIs Pk t0 ((sPt P x w (r0 + i)) + 1))) Pz21 f17 _ _ _ (by omega) (by omega) (by rw [sIt_succ, ← hst, hPz21]; simp only [sShT, ht0, Int.toNat_natCast, if_pos (show 0 < rs by omega)]) (by rw [hPz21]; exact wfE_mono (wfE_put (d := 1000000000) hwk (by omega) (by omega) (by omega)) (by omega)) (fun j hj => by rw [hPz21, sPut_n (by omega)]; exact hkp j hj) (by rw [hPz21, sPut_n (by omega)]; exact hwk7) (by omega) (fun q hq => ((o20 (q) (by omega)).trans (hfr (q) (by omega)))) hM hf22 hn19 hf23 hf24 (lv_sub hl [4, 5, 6, 7, 8, 2, 1, 0] rfl)
              exact lp97 ((mm + 1)) 0 cv 0 P fL _ _ _ (by omega) (by omega) rfl (wfE_mono hwe (by omega)) (fun j hj => rfl) rfl (by omega) (fun q hq => (hfr (q) (by omega))) hM hL0 hL1 hL2 hL3 (lv_sub hl [2, 3, 4, 5, 6, 7, 1, 0] rfl)
            · skip
              obtain ⟨hn1, hn2, hn3, hn4⟩ := hsh.2.2 i2 (by omega)
              have hpx := shp_ok hlr1 hlr2 hn3 hn4 hw1
              refine lv_aload_n hx hb dX9_shares_48 rfl (lv_at hl 0 rfl) ?_
              refine g_get (ci := 11) (v := .ref (h + 9)) (C := RX9) (T := TX9) (N := 24) hx hb hts iU_X9 hown hK hM ⟨by omega, by omega⟩ hL0 rfl 17 (by decide) (hts _ u_1161) (fun _ h9 => h9) rfl dX9_shares_49 ?_
              refine lv_iload hx hb dX9_shares_52 (lv_at hl 6 rfl) ?_
              refine lv_lload_n hx hb dX9_shares_54 rfl (lv_at hl 3 rfl) ?_
              refine lv_aload_n hx hb dX9_shares_55 rfl (lv_at hl 0 rfl) ?_
              refine g_bipush hx hb dX9_shares_56 (by decide) ?_
              refine g_iconst hx hb dX9_shares_58 ?_
              refine lv_iload hx hb dX9_shares_59 (lv_at hl 6 rfl) ?_
              refine g_imul hx hb dX9_shares_61 ?_
              refine g_iadd hx hb dX9_shares_62 ?_
              refine g_iconst hx hb dX9_shares_63 ?_
              refine g_iadd hx hb dX9_shares_64 ?_
              have hC25 := c_X9_p l g b0 n fL h Z M aa P ((51 + (3 * (↑(r0 + i2) : Int))) + 2) (53 + 3 * (r0 + i2)) hL0 hL1 hrg hat haa (by omega) (by omega)
              refine g_callVl (ci := 11) (C := RX9) (T := TX9) (N := 24) (As := [.int (zI ((51 + (3 * (↑(r0 + i2) : Int))) + 2))]) (rest := [.long (zL x), .int (zI (↑(r0 + i2) : Int)), .ref (h + 9)]) ⟨hx, hb, hml, hown, hts⟩ hK hM hC25 (cuV (n := 1) hts u_1283 u_1280 u_10 (by decide) u_1282 us_37 ⟨Nat.le_of_ble_eq_true rfl, Nat.le_of_ble_eq_true rfl⟩) ⟨by omega, by omega⟩ hL0 rfl rfl hl.1 rfl (Nat.le_of_ble_eq_true rfl) dX9_shares_65 ⟨Nat.zero_le _, Nat.zero_le _⟩ (fun r65 f26 H locs hM hp27 => ?_)
              obtain ⟨rfl, rfl⟩ := hp27
              refine g_lmul hx hb dX9_shares_68 ?_
              refine lv_lload hx hb dX9_shares_69 (lv_at hl 4 rfl) ?_
              refine g_ldiv hx hb dX9_shares_71 hpx.1 ⟨by omega, by omega⟩ (by omega) ?_
              have hpq : Int.tdiv (x * P (53 + 3 * (r0 + i2))) w = sPt P x w (r0 + i2) := rfl
              rw [hpq]
              refine g_last hx hb hK hM ⟨by omega, by omega⟩ hL2 (by omega) (by omega) (by decide) dX9_shares_72 (fun f28 H locs hM ha30 o29 => ?_)
              refine lv_lload hx hb dX9_shares_73 (lv_at hl 5 rfl) ?_
              refine lv_aload_n hx hb dX9_shares_75 rfl (lv_at hl 0 rfl) ?_
              have hf31 : f28 (h) = .inr (11, [.int (zI (Z 0)), .ref (h + 1), .ref (h + 2), .ref (h + 3), .ref (h + 4), .ref (h + 5), .ref (h + 6), .ref (h + 7), .ref (h + 8), .int (zI (Z 9)), .int (zI (Z 10)), .int (zI (Z 11)), .int (zI (Z 12)), .int (zI (Z 13)), .int (zI (Z 14)), .int (zI (Z 15)), .int (zI (Z 16)), .ref (h + 9), .ref (h + 10), .ref (h + 11), .int (zI (Z 20)), .int (zI (Z 21)), .int (zI (Z 22)), .ref (h + 12)]) := (o29 (h) (by omega)).trans hL0
              refine g_get (ci := 11) (v := .ref (h + 9)) (C := RX9) (T := TX9) (N := 24) hx hb hts iU_X9 hown hK hM ⟨by omega, by omega⟩ hf31 rfl 17 (by decide) (hts _ u_1161) (fun _ h9 => h9) rfl dX9_shares_76 ?_
              refine lv_iload hx hb dX9_shares_79 (lv_at hl 6 rfl) ?_
              refine g_lald hx hb hK hM ⟨by omega, by omega⟩ ha30 (by omega) (by omega) (by decide) dX9_shares_81 ?_
              show W _ _ _ _ _ _ _ _ _ _ _ _ _ _ _ (F0 _ _ _ (.long (zL ((pu (A2) (r0 + i2) (sPt P x w (r0 + i2))) (r0 + i2))) :: _))
              rw [pu_s]
              refine g_lsub hx hb dX9_shares_82 ?_
              refine lv_lstore (lv' := [(7, .long (zL (cv - (sPt P x w (r0 + i2))))), (0, .ref h), (1, .int (zI (↑r0 : Int))), (2, .int (zI (↑(r0 + mm) : Int))), (3, .long (zL x)), (5, .long (zL w)), (9, .int (zI (↑(r0 + i2) : Int)))]) hx hb dX9_shares_83 hl (by decide) rfl (fun ls hl => ?_)
              refine lv_iinc (v := zI ((↑(r0 + i2) : Int) + 1)) (lv' := [(9, .int (zI ((↑(r0 + i2) : Int) + 1))), (7, .long (zL (cv - (sPt P x w (r0 + i2))))), (0, .ref h), (1, .int (zI (↑r0 : Int))), (2, .int (zI (↑(r0 + mm) : Int))), (3, .long (zL x)), (5, .long (zL w))]) hx hb dX9_shares_85 hl (k := 6) rfl (zI_add _ _) (by decide) rfl (fun ls hl => ?_)
              refine lv_goto (tgt := 42) hx hb dX9_shares_88 (by decide) ?_
              have hf32 := hL1.kept (fun q h1 h2 => (o29 (q) (by omega)))
              have hf33 := hL3.kept (o29 (h + 10) (by omega))
              exact ih42 (i2 + 1) (cv - (sPt P x w (r0 + i2))) (pu A2 (r0 + i2) (sPt P x w (r0 + i2))) f28 _ _ _ (by omega) (by omega) (by rw [hcv]; show _ = x - (sSum _ i2 + sPt P x w (r0 + i2)); omega) (fun k hk9 => (Nat.lt_or_ge k i2).elim (fun q => by rw [pu_n (by omega)]; exact hA2 k q) (fun q => by rw [show k = i2 by omega, pu_s])) (fun q hq => ((o29 (q) (by omega)).trans (hfr (q) (by omega)))) hM hf31 hf32 ha30 hf33 (lv_sub hl [2, 3, 4, 5, 6, 1, 0] rfl)
        exact lp42 ((mm + 1)) 0 x A f _ _ _ (by omega) (by omega) (by show x = x - 0; omega) (fun k hk9 => absurd hk9 (Nat.not_lt_zero _)) (fun q hq => rfl) hM hO hP hA hU (lv_sub hl [2, 3, 4, 5, 6, 1, 0] rfl)
      · skip
        have hj6 : r0 + i < 6 := by omega
        refine lv_lload hx hb dX9_shares_12 (lv_at hl 4 rfl) ?_
        refine lv_aload_n hx hb dX9_shares_14 rfl (lv_at hl 0 rfl) ?_
        refine g_bipush hx hb dX9_shares_15 (by decide) ?_
        refine g_iconst hx hb dX9_shares_17 ?_
        refine lv_iload hx hb dX9_shares_18 (lv_at hl 5 rfl) ?_
        refine g_imul hx hb dX9_shares_20 ?_
        refine g_iadd hx hb dX9_shares_21 ?_
        refine g_iconst hx hb dX9_shares_22 ?_
        refine g_iadd hx hb dX9_shares_23 ?_
        have hC34 := c_X9_p l g b0 n f h Z M aa P ((51 + (3 * (↑(r0 + i) : Int))) + 2) (53 + 3 * (r0 + i)) hO hP hrg hat haa (by omega) (by omega)
        refine g_callVl (ci := 11) (C := RX9) (T := TX9) (N := 24) (As := [.int (zI ((51 + (3 * (↑(r0 + i) : Int))) + 2))]) (rest := [.long (zL (sSum (fun k => P (53 + 3 * (r0 + k))) i))]) ⟨hx, hb, hml, hown, hts⟩ hK hM hC34 (cuV (n := 1) hts u_1283 u_1280 u_10 (by decide) u_1282 us_37 ⟨Nat.le_of_ble_eq_true rfl, Nat.le_of_ble_eq_true rfl⟩) ⟨by omega, by omega⟩ hO rfl rfl hl.1 rfl (Nat.le_of_ble_eq_true rfl) dX9_shares_24 ⟨Nat.zero_le _, Nat.zero_le _⟩ (fun r24 f35 H locs hM hp36 => ?_)
        obtain ⟨rfl, rfl⟩ := hp36
        refine g_ladd hx hb dX9_shares_27 ?_
        refine lv_lstore (lv' := [(5, .long (zL ((sSum (fun k => P (53 + 3 * (r0 + k))) i) + (P (53 + 3 * (r0 + i)))))), (0, .ref h), (1, .int (zI (↑r0 : Int))), (2, .int (zI (↑(r0 + mm) : Int))), (3, .long (zL x)), (7, .int (zI (↑(r0 + i) : Int)))]) hx hb dX9_shares_28 hl (by decide) rfl (fun ls hl => ?_)
        refine lv_iinc (v := zI ((↑(r0 + i) : Int) + 1)) (lv' := [(7, .int (zI ((↑(r0 + i) : Int) + 1))), (5, .long (zL ((sSum (fun k => P (53 + 3 * (r0 + k))) i) + (P (53 + 3 * (r0 + i)))))), (0, .ref h), (1, .int (zI (↑r0 : Int))), (2, .int (zI (↑(r0 + mm) : Int))), (3, .long (zL x))]) hx hb dX9_shares_30 hl (k := 5) rfl (zI_add _ _) (by decide) rfl (fun ls hl => ?_)
        refine lv_goto (tgt := 6) hx hb dX9_shares_33 (by decide) ?_
        exact ih6 (i + 1) _ _ _ (by omega) (by omega) hM (lv_sub hl [2, 3, 4, 5, 1, 0] rfl)
  exact lp6 ((mm + 1)) 0 _ _ _ (by omega) (by omega) hM (lv_sub hl [2, 3, 4, 5, 1, 0] rfl)

def po_X9_receives (g : gE) (f : gF) (h : Nat) (Z M : Nat → Int) (aa : Nat) (P : Nat → Int) (a : Int) : Int64 → gF → Prop := fun r1 f1 => r1 = zL (sInc P a).1 ∧ mpAt g f1 h M aa ((sInc P a).2) ∧ scrAt g f1 h ∧ ∀ q, (q < h + 1 ∨ (h + 2 ≤ q ∧ q < h + 9) ∨ h + 11 ≤ q) → f1 q = f q
set_option maxRecDepth 100000 in
set_option maxHeartbeats 1000000 in
/-- receives(amount) -/
theorem c_X9_receives (l : Launch) (g : gE) (b0 n : Nat) (f : gF) (h : Nat) (Z M : Nat → Int) (aa : Nat) (P : Nat → Int) (a : Int) (hO : mdO f h Z) (hP : mpAt g f h M aa P) (hrg : b0 ≤ h ∧ h + 13 ≤ b0 + n) (hat : Z 11 = ↑aa) (haa : aa + 147 ≤ 2058) (hsc : scrAt g f h) (hwe : wfE P 900000000000000) (hrk0 : rlOk P) (har : 0 ≤ a ∧ a ≤ 1000000) : cL l yX9_receives cX9_receives 12 (some .long) 4 141 [.ref h, .long (zL a)] g b0 n f (po_X9_receives g f h Z M aa P a) := by
  refine gs_l (cc := cX9_receives) (maxL := 12) (ret := (some .long)) (by decide) (Nat.le_of_ble_eq_true rfl) ?_
  intro p e0 s m args below meth c ls hx hb hr hml hown hts hlk hK hM hl
  have hl : lv_has ls 12 [(0, .ref h), (1, .long (zL a))] := hl
  have hcn7 := hwe.1
  have har1 := har.1
  have har2 := har.2
  have hr81 := hrk0.1.1
  have hr82 := hrk0.1.2
  refine lv_lload_n hx hb dX9_receives_0 rfl (lv_at hl 1 rfl) ?_
  refine lv_lstore_n (lv' := [(3, .long (zL a)), (0, .ref h), (1, .long (zL a))]) hx hb dX9_receives_1 rfl hl (by decide) rfl (fun ls hl => ?_)
  refine g_iconst hx hb dX9_receives_2 ?_
  refine lv_istore (lv' := [(5, .int (zI 0)), (3, .long (zL a)), (0, .ref h), (1, .long (zL a))]) hx hb dX9_receives_3 hl (by decide) rfl (fun ls hl => ?_)
  have lp5 : ∀ (k : Nat), ∀ (k9 : Nat) (ri : Nat) (x1 : Int) (Pk : Nat → Int) (fL : gF) (H : Heap) (locs : List Loc) (ls : Array Slot), (6 - ri < k) → ((ri, x1, Pk) = sIt (sRecT a) (0, a, P) k9) → (k9 ≤ ri) → ((ri : Int) ≤ P 8) → (0 ≤ x1 ∧ x1 ≤ a) → (wfE Pk (900000000000000 + ri * 10000000000)) → (∀ j, 51 ≤ j → Pk j = P j) → (Pk 7 = P 7) → (Pk 8 = P 8) → (∀ q, (q < h + 1 ∨ (h + 2 ≤ q ∧ q < h + 9) ∨ h + 11 ≤ q) → fL q = f q) → gH g b0 n fL s.heap H locs → (mdO fL h Z) → (mpAt g fL h M aa Pk) → (scrAt g fL h) → lv_has ls 12 [(0, .ref h), (1, .long (zL a)), (3, .long (zL x1)), (5, .int (zI (↑ri : Int)))] → W p l e0 { frames := 4, cells := 0, slots := 0, locals := 141 } s m args below meth c H locs 0 0 (MQ below (va_Ql (po_X9_receives g f h Z M aa P a) (gB g b0 n) (gA b0)) args s 0 0 (gA b0)) (F0 m 5 ls []) := by
    intro k
    induction k with
    | zero =>
      intro k9 ri x1 Pk fL H locs ls hk hst hk9 hri hx1 hwk hkp hk7 hk8 hfr hM hL0 hL1 hL2 hl
      exact absurd hk (Nat.not_lt_zero _)
    | succ k ih5 =>
      intro k9 ri x1 Pk fL H locs ls hk hst hk9 hri hx1 hwk hkp hk7 hk8 hfr hM hL0 hL1 hL2 hl
      have hrk := rlOk_of hrk0 hk7 hk8 hkp
      refine lv_iload hx hb dX9_receives_5 (lv_at hl 3 rfl) ?_
      refine lv_aload_n hx hb dX9_receives_7 rfl (lv_at hl 0 rfl) ?_
      refine g_bipush hx hb dX9_receives_8 (by decide) ?_
      have hC1 := c_X9_n l g b0 n fL h Z M aa Pk 8 (8) hL0 hL1 hrg hat haa (by omega) (by omega)
      refine g_callVi (ci := 11) (C := RX9) (T := TX9) (N := 24) (As := [.int (zI 8)]) (rest := [.int (zI (↑ri : Int))]) ⟨hx, hb, hml, hown, hts⟩ hK hM hC1 (cuV (n := 1) hts u_1249 u_1246 u_10 (by decide) u_1248 us_30 ⟨Nat.le_of_ble_eq_true rfl, Nat.le_of_ble_eq_true rfl⟩) ⟨by omega, by omega⟩ hL0 rfl rfl hl.1 rfl (Nat.le_of_ble_eq_true rfl) dX9_receives_10 ⟨Nat.zero_le _, Nat.zero_le _⟩ (fun r10 f2 H locs hM hp3 => ?_)
      obtain ⟨rfl, rfl⟩ := hp3
      refine g_icmp_ge (tgt := 208) hx hb dX9_receives_13 (by decide) ⟨by omega, by omega⟩ ⟨by omega, by omega⟩ (fun c13 => ?_) (fun c13 => ?_)
      · skip
        refine lv_aload_n hx hb dX9_receives_208 rfl (lv_at hl 0 rfl) ?_
        refine g_iconst hx hb dX9_receives_209 ?_
        refine lv_lload_n hx hb dX9_receives_210 rfl (lv_at hl 2 rfl) ?_
        have hC4 := c_X9_adds l g b0 n fL h Z M aa Pk 0 (0) x1 hL0 hL1 hrg hat haa (by omega) (by omega)
        refine g_callVv (ci := 11) (C := RX9) (T := TX9) (N := 24) (As := [.int (zI 0), .long (zL x1)]) (rest := []) ⟨hx, hb, hml, hown, hts⟩ hK hM hC4 (cuV (n := 2) hts u_1261 u_1258 u_10 (by decide) u_1260 us_33 ⟨Nat.le_of_ble_eq_true rfl, Nat.le_of_ble_eq_true rfl⟩) ⟨by omega, by omega⟩ hL0 rfl rfl hl.1 rfl (Nat.le_of_ble_eq_true rfl) dX9_receives_211 ⟨Nat.zero_le _, Nat.zero_le _⟩ (fun f5 H locs hM hp6 => ?_)
        obtain ⟨hn7, o8⟩ := hp6
        obtain ⟨Pz9, hPz9⟩ : ∃ Q : Nat → Int, Q = pu Pk (0) (Pk (0) + x1) := ⟨_, rfl⟩
        rw [← hPz9] at hn7
        refine lv_aload_n hx hb dX9_receives_214 rfl (lv_at hl 0 rfl) ?_
        refine g_iconst hx hb dX9_receives_215 ?_
        refine lv_lload_n hx hb dX9_receives_216 rfl (lv_at hl 1 rfl) ?_
        have hf10 : f5 (h) = .inr (11, [.int (zI (Z 0)), .ref (h + 1), .ref (h + 2), .ref (h + 3), .ref (h + 4), .ref (h + 5), .ref (h + 6), .ref (h + 7), .ref (h + 8), .int (zI (Z 9)), .int (zI (Z 10)), .int (zI (Z 11)), .int (zI (Z 12)), .int (zI (Z 13)), .int (zI (Z 14)), .int (zI (Z 15)), .int (zI (Z 16)), .ref (h + 9), .ref (h + 10), .ref (h + 11), .int (zI (Z 20)), .int (zI (Z 21)), .int (zI (Z 22)), .ref (h + 12)]) := (o8 (h) (by omega)).trans hL0
        have hC11 := c_X9_adds l g b0 n f5 h Z M aa Pz9 2 (2) a hf10 hn7 hrg hat haa (by omega) (by omega)
        refine g_callVv (ci := 11) (C := RX9) (T := TX9) (N := 24) (As := [.int (zI 2), .long (zL a)]) (rest := []) ⟨hx, hb, hml, hown, hts⟩ hK hM hC11 (cuV (n := 2) hts u_1261 u_1258 u_10 (by decide) u_1260 us_33 ⟨Nat.le_of_ble_eq_true rfl, Nat.le_of_ble_eq_true rfl⟩) ⟨by omega, by omega⟩ hf10 rfl rfl hl.1 rfl (Nat.le_of_ble_eq_true rfl) dX9_receives_217 ⟨Nat.zero_le _, Nat.zero_le _⟩ (fun f12 H locs hM hp13 => ?_)
        obtain ⟨hn14, o15⟩ := hp13
        obtain ⟨Pz16, hPz16⟩ : ∃ Q : Nat → Int, Q = pu Pz9 (2) (Pz9 (2) + a) := ⟨_, rfl⟩
        rw [← hPz16] at hn14
        refine lv_lload_n hx hb dX9_receives_220 rfl (lv_at hl 2 rfl) ?_
        have hf17 := hL2.kept (fun q h1 h2 => ((o15 (q) (by omega)).trans (o8 (q) (by omega))))
        refine g_lret hx hb hr hlk hK hM dX9_receives_221 ?_
        have h6 : sIt (sRecT a) (0, a, P) 6 = (ri, x1, Pk) := by
          have := sIt_stab (d := 6 - k9) (s := (ri, x1, Pk)) (fun k => by simp only [sRecT]; rw [if_neg (by omega)]) hst.symm
          rwa [show k9 + (6 - k9) = 6 by omega] at this
        have hS : sInc P a = (x1, Pz16) := by
          rw [← sRec_sInc]
          unfold sRec
          simp only [h6]
          rw [hPz16, hPz9, pu_n (j := 2) (k := 0) (by omega)]
        refine ⟨by rw [hS], ?_, hf17, (fun q hq => ((o15 (q) (by omega)).trans ((o8 (q) (by omega)).trans (hfr (q) (by omega)))))⟩
        rw [hS]
        exact hn14
      · skip
        have hrlt : (ri : Int) < Pk 8 := by omega
        obtain ⟨hn1, hn2, hn3, hn4, hn5, hn6, hn7⟩ := hrk.2 ri hrlt
        obtain ⟨t0, ht0⟩ : ∃ q : Nat, Pk (52 + 3 * ri) = q := ⟨(Pk (52 + 3 * ri)).toNat, by omega⟩
        refine lv_aload_n hx hb dX9_receives_16 rfl (lv_at hl 0 rfl) ?_
        refine g_bipush hx hb dX9_receives_17 (by decide) ?_
        refine g_iconst hx hb dX9_receives_19 ?_
        refine lv_iload hx hb dX9_receives_20 (lv_at hl 3 rfl) ?_
        refine g_imul hx hb dX9_receives_22 ?_
        refine g_iadd hx hb dX9_receives_23 ?_
        have hC18 := c_X9_n l g b0 n fL h Z M aa Pk (51 + (3 * (↑ri : Int))) (51 + 3 * ri) hL0 hL1 hrg hat haa (by omega) (by omega)
        refine g_callVi (ci := 11) (C := RX9) (T := TX9) (N := 24) (As := [.int (zI (51 + (3 * (↑ri : Int))))]) (rest := []) ⟨hx, hb, hml, hown, hts⟩ hK hM hC18 (cuV (n := 1) hts u_1249 u_1246 u_10 (by decide) u_1248 us_30 ⟨Nat.le_of_ble_eq_true rfl, Nat.le_of_ble_eq_true rfl⟩) ⟨by omega, by omega⟩ hL0 rfl rfl hl.1 rfl (Nat.le_of_ble_eq_true rfl) dX9_receives_24 ⟨Nat.zero_le _, Nat.zero_le _⟩ (fun r24 f19 H locs hM hp20 => ?_)
        obtain ⟨rfl, rfl⟩ := hp20
        refine lv_istore (lv' := [(6, .int (zI (Pk (51 + 3 * ri)))), (0, .ref h), (1, .long (zL a)), (3, .long (zL x1)), (5, .int (zI (↑ri : Int)))]) hx hb dX9_receives_27 hl (by decide) rfl (fun ls hl => ?_)
        refine lv_aload_n hx hb dX9_receives_29 rfl (lv_at hl 1 rfl) ?_
        refine g_bipush hx hb dX9_receives_30 (by decide) ?_
        refine g_iconst hx hb dX9_receives_32 ?_
        refine lv_iload hx hb dX9_receives_33 (lv_at hl 4 rfl) ?_
        refine g_imul hx hb dX9_receives_35 ?_
        refine g_iadd hx hb dX9_receives_36 ?_
        refine g_iconst hx hb dX9_receives_37 ?_
        refine g_iadd hx hb dX9_receives_38 ?_
        have hC21 := c_X9_n l g b0 n fL h Z M aa Pk ((51 + (3 * (↑ri : Int))) + 1) (52 + 3 * ri) hL0 hL1 hrg hat haa (by omega) (by omega)
        refine g_callVi (ci := 11) (C := RX9) (T := TX9) (N := 24) (As := [.int (zI ((51 + (3 * (↑ri : Int))) + 1))]) (rest := []) ⟨hx, hb, hml, hown, hts⟩ hK hM hC21 (cuV (n := 1) hts u_1249 u_1246 u_10 (by decide) u_1248 us_30 ⟨Nat.le_of_ble_eq_true rfl, Nat.le_of_ble_eq_true rfl⟩) ⟨by omega, by omega⟩ hL0 rfl rfl hl.1 rfl (Nat.le_of_ble_eq_true rfl) dX9_receives_39 ⟨Nat.zero_le _, Nat.zero_le _⟩ (fun r39 f22 H locs hM hp23 => ?_)
        obtain ⟨rfl, rfl⟩ := hp23
        rw [ht0]
        refine lv_istore (lv' := [(7, .int (zI (↑t0 : Int))), (6, .int (zI (Pk (51 + 3 * ri)))), (0, .ref h), (1, .long (zL a)), (3, .long (zL x1)), (5, .int (zI (↑ri : Int)))]) hx hb dX9_receives_42 hl (by decide) rfl (fun ls hl => ?_)
        refine lv_aload_n hx hb dX9_receives_44 rfl (lv_at hl 2 rfl) ?_
        refine g_bipush hx hb dX9_receives_45 (by decide) ?_
        refine g_iconst hx hb dX9_receives_47 ?_
        refine lv_iload hx hb dX9_receives_48 (lv_at hl 5 rfl) ?_
        refine g_imul hx hb dX9_receives_50 ?_
        refine g_iadd hx hb dX9_receives_51 ?_
        refine g_iconst hx hb dX9_receives_52 ?_
        refine g_iadd hx hb dX9_receives_53 ?_
        have hC24 := c_X9_p l g b0 n fL h Z M aa Pk ((51 + (3 * (↑ri : Int))) + 2) (53 + 3 * ri) hL0 hL1 hrg hat haa (by omega) (by omega)
        refine g_callVl (ci := 11) (C := RX9) (T := TX9) (N := 24) (As := [.int (zI ((51 + (3 * (↑ri : Int))) + 2))]) (rest := []) ⟨hx, hb, hml, hown, hts⟩ hK hM hC24 (cuV (n := 1) hts u_1283 u_1280 u_10 (by decide) u_1282 us_37 ⟨Nat.le_of_ble_eq_true rfl, Nat.le_of_ble_eq_true rfl⟩) ⟨by omega, by omega⟩ hL0 rfl rfl hl.1 rfl (Nat.le_of_ble_eq_true rfl) dX9_receives_54 ⟨Nat.zero_le _, Nat.zero_le _⟩ (fun r54 f25 H locs hM hp26 => ?_)
        obtain ⟨rfl, rfl⟩ := hp26
        refine lv_lstore (lv' := [(8, .long (zL (Pk (53 + 3 * ri)))), (7, .int (zI (↑t0 : Int))), (6, .int (zI (Pk (51 + 3 * ri)))), (0, .ref h), (1, .long (zL a)), (3, .long (zL x1)), (5, .int (zI (↑ri : Int)))]) hx hb dX9_receives_57 hl (by decide) rfl (fun ls hl => ?_)
        refine lv_iload hx hb dX9_receives_59 (lv_at hl 2 rfl) ?_
        refine g_iconst hx hb dX9_receives_61 ?_
        refine g_icmp_ne (tgt := 118) hx hb dX9_receives_62 (by decide) ⟨by omega, by omega⟩ (by decide) (fun c62 => ?_) (fun c62 => ?_)
        · skip
          have hk4 : ¬ Pk (51 + 3 * ri) = 4 := by omega
          have hm1 := mul_ok har1 har2 hn5 hn6
          have hm2 := mul_ok (a := x1) (by omega) (by omega) hn5 hn6
          have hm1a := hm1.2.1
          have hm1b := hm1.2.2
          have hm2a := hm2.2.1
          have hm2b := hm2.2.2
          obtain ⟨hz1, hz2, hz3⟩ := hwk.2 t0 (by omega)
          refine lv_iload hx hb dX9_receives_118 (lv_at hl 2 rfl) ?_
          refine g_if_ne (tgt := 128) hx hb dX9_receives_120 (by decide) ⟨by omega, by omega⟩ (fun c120 => ?_) (fun c120 => ?_)
          · skip
            refine lv_iload hx hb dX9_receives_128 (lv_at hl 2 rfl) ?_
            refine g_iconst hx hb dX9_receives_130 ?_
            refine g_icmp_ne (tgt := 145) hx hb dX9_receives_131 (by decide) ⟨by omega, by omega⟩ (by decide) (fun c131 => ?_) (fun c131 => ?_)
            · skip
              refine lv_iload hx hb dX9_receives_145 (lv_at hl 2 rfl) ?_
              refine g_iconst hx hb dX9_receives_147 ?_
              refine g_icmp_ne (tgt := 162) hx hb dX9_receives_148 (by decide) ⟨by omega, by omega⟩ (by decide) (fun c148 => ?_) (fun c148 => ?_)
              · skip
                refine lv_aload_n hx hb dX9_receives_162 rfl (lv_at hl 3 rfl) ?_
                refine g_bipush hx hb dX9_receives_163 (by decide) ?_
                refine g_iconst hx hb dX9_receives_165 ?_
                refine lv_iload hx hb dX9_receives_166 (lv_at hl 1 rfl) ?_
                refine g_imul hx hb dX9_receives_168 ?_
                refine g_iadd hx hb dX9_receives_169 ?_
                refine g_iconst hx hb dX9_receives_170 ?_
                refine g_iadd hx hb dX9_receives_171 ?_
                have hC27 := c_X9_p l g b0 n fL h Z M aa Pk ((11 + (4 * (↑t0 : Int))) + 1) (12 + 4 * t0) hL0 hL1 hrg hat haa (by omega) (by omega)
                refine g_callVl (ci := 11) (C := RX9) (T := TX9) (N := 24) (As := [.int (zI ((11 + (4 * (↑t0 : Int))) + 1))]) (rest := []) ⟨hx, hb, hml, hown, hts⟩ hK hM hC27 (cuV (n := 1) hts u_1283 u_1280 u_10 (by decide) u_1282 us_37 ⟨Nat.le_of_ble_eq_true rfl, Nat.le_of_ble_eq_true rfl⟩) ⟨by omega, by omega⟩ hL0 rfl rfl hl.1 rfl (Nat.le_of_ble_eq_true rfl) dX9_receives_172 ⟨Nat.zero_le _, Nat.zero_le _⟩ (fun r172 f28 H locs hM hp29 => ?_)
                obtain ⟨rfl, rfl⟩ := hp29
                refine g_lconst (z := 0) hx hb dX9_receives_175 (by decide) ?_
                refine g_lcmp_ge (tgt := 184) hx hb dX9_receives_176 dX9_receives_177 (by decide) ⟨by omega, by omega⟩ (by decide) (fun c176 => ?_) (fun c176 => ?_)
                · skip
                  refine lv_lload_n hx hb dX9_receives_184 rfl (lv_at hl 5 rfl) ?_
                  refine lv_lstore (lv' := [(10, .long (zL x1)), (8, .long (zL (Pk (53 + 3 * ri)))), (7, .int (zI (↑t0 : Int))), (6, .int (zI (Pk (51 + 3 * ri)))), (0, .ref h), (1, .long (zL a)), (3, .long (zL x1)), (5, .int (zI (↑ri : Int)))]) hx hb dX9_receives_185 hl (by decide) rfl (fun ls hl => ?_)
                  refine lv_lload_n hx hb dX9_receives_187 rfl (lv_at hl 6 rfl) ?_
                  refine lv_aload_n hx hb dX9_receives_188 rfl (lv_at hl 4 rfl) ?_
                  refine lv_iload hx hb dX9_receives_189 (lv_at hl 2 rfl) ?_
                  refine lv_lload_n hx hb dX9_receives_191 rfl (lv_at hl 6 rfl) ?_
                  refine lv_lload hx hb dX9_receives_192 (lv_at hl 0 rfl) ?_
                  refine g_lmin hx hb (hml.trans hl.1.symm) hown (hts _ u_1307) hts (Nat.le_of_ble_eq_true rfl) (Nat.le_of_ble_eq_true rfl) (Nat.zero_le _) (Nat.zero_le _) ⟨by omega, by omega⟩ ⟨by omega, by omega⟩ dX9_receives_194 ?_
                  have hwant : min x1 x1 = min x1 (sWant Pk ri a x1) := by
                    refine congrArg (min x1) ?_
                    unfold sWant
                    simp only []
                    first | rw [if_pos (by omega)] | rw [if_neg (by omega), if_pos (by omega)] | rw [if_neg (by omega), if_neg (by omega), if_pos (by omega)] | rw [if_neg (by omega), if_neg (by omega), if_neg (by omega), ht0, Int.toNat_natCast, if_pos (by omega)] | rw [if_neg (by omega), if_neg (by omega), if_neg (by omega), ht0, Int.toNat_natCast, if_neg (by omega)]
                  rw [hwant]
                  have hwn := want_in (P := Pk) (r := ri) (a := a) (x := x1) ⟨by omega, by omega⟩ har ⟨by omega, by omega⟩
                  obtain ⟨⟨hz1, hz2⟩, ⟨hz3, hz4⟩, hz5⟩ := hwk.2 t0 (by omega)
                  have hC30 := c_X9_put l g b0 n fL h Z M aa Pk t0 (min x1 (sWant Pk ri a x1)) hL0 hL1 hrg hat haa (by omega) ⟨by omega, by omega⟩ ⟨by omega, by omega⟩ ⟨by omega, by omega⟩
                  refine g_callVl (ci := 11) (C := RX9) (T := TX9) (N := 24) (As := [.int (zI (↑t0 : Int)), .long (zL (min x1 (sWant Pk ri a x1)))]) (rest := [.long (zL x1)]) ⟨hx, hb, hml, hown, hts⟩ hK hM hC30 (cuV (n := 2) hts u_1300 u_1297 u_10 (by decide) u_1299 us_41 ⟨Nat.le_of_ble_eq_true rfl, Nat.le_of_ble_eq_true rfl⟩) ⟨by omega, by omega⟩ hL0 rfl rfl hl.1 rfl (Nat.le_of_ble_eq_true rfl) dX9_receives_197 ⟨Nat.zero_le _, Nat.zero_le _⟩ (fun r197 f31 H locs hM hp32 => ?_)
                  obtain ⟨rfl, hn33, o34⟩ := hp32
                  obtain ⟨Pz35, hPz35⟩ : ∃ Q : Nat → Int, Q = sPut Pk t0 (min x1 (sWant Pk ri a x1)) := ⟨_, rfl⟩
                  rw [← hPz35] at hn33
                  refine g_lsub hx hb dX9_receives_200 ?_
                  refine lv_lstore_n (lv' := [(3, .long (zL (x1 - (sIs Pk t0 (min x1 (sWant Pk ri a x1)))))), (10, .long (zL x1)), (8, .long (zL (Pk (53 + 3 * ri)))), (7, .int (zI (↑t0 : Int))), (6, .int (zI (Pk (51 + 3 * ri)))), (0, .ref h), (1, .long (zL a)), (5, .int (zI (↑ri : Int)))]) hx hb dX9_receives_201 rfl hl (by decide) rfl (fun ls hl => ?_)
                  refine lv_iinc (v := zI ((↑ri : Int) + 1)) (lv' := [(5, .int (zI ((↑ri : Int) + 1))), (3, .long (zL (x1 - (sIs Pk t0 (min x1 (sWant Pk ri a x1)))))), (10, .long (zL x1)), (8, .long (zL (Pk (53 + 3 * ri)))), (7, .int (zI (↑t0 : Int))), (6, .int (zI (Pk (51 + 3 * ri)))), (0, .ref h), (1, .long (zL a))]) hx hb dX9_receives_202 hl (k := 7) rfl (zI_add _ _) (by decide) rfl (fun ls hl => ?_)
                  refine lv_goto (tgt := 5) hx hb dX9_receives_205 (by decide) ?_
                  have hil := sIs_le (P := Pk) (e := t0) (a := min x1 (sWant Pk ri a x1)) (by omega)
                  have hf36 : f31 (h) = .inr (11, [.int (zI (Z 0)), .ref (h + 1), .ref (h + 2), .ref (h + 3), .ref (h + 4), .ref (h + 5), .ref (h + 6), .ref (h + 7), .ref (h + 8), .int (zI (Z 9)), .int (zI (Z 10)), .int (zI (Z 11)), .int (zI (Z 12)), .int (zI (Z 13)), .int (zI (Z 14)), .int (zI (Z 15)), .int (zI (Z 16)), .ref (h + 9), .ref (h + 10), .ref (h + 11), .int (zI (Z 20)), .int (zI (Z 21)), .int (zI (Z 22)), .ref (h + 12)]) := (o34 (h) (by omega)).trans hL0
                  have hf37 := hL2.kept (fun q h1 h2 => (o34 (q) (by omega)))
                  exact ih5 (k9 + 1) (ri + 1) (x1 - (sIs Pk t0 (min x1 (sWant Pk ri a x1)))) Pz35 f31 _ _ _ (by omega) (by rw [sIt_succ, ← hst, hPz35]; simp only [sRecT]; rw [if_pos hrlt, if_neg hk4, ht0, Int.toNat_natCast]) (by omega) (by omega) ⟨by omega, by omega⟩ (by rw [hPz35]; exact wfE_mono (wfE_put (d := 1000000) hwk (by omega) (by omega) (by omega)) (by omega)) (fun j hj => by rw [hPz35, sPut_n (by omega)]; exact hkp j hj) (by rw [hPz35, sPut_n (by omega)]; exact hk7) (by rw [hPz35, sPut_n (by omega)]; exact hk8) (fun q hq => ((o34 (q) (by omega)).trans (hfr (q) (by omega)))) hM hf36 hn33 hf37 (lv_sub hl [6, 7, 1, 0] rfl)
                · skip
                  refine g_lconst (z := 0) hx hb dX9_receives_180 (by decide) ?_
                  refine lv_goto (tgt := 185) hx hb dX9_receives_181 (by decide) ?_
                  refine lv_lstore (lv' := [(10, .long (zL 0)), (8, .long (zL (Pk (53 + 3 * ri)))), (7, .int (zI (↑t0 : Int))), (6, .int (zI (Pk (51 + 3 * ri)))), (0, .ref h), (1, .long (zL a)), (3, .long (zL x1)), (5, .int (zI (↑ri : Int)))]) hx hb dX9_receives_185 hl (by decide) rfl (fun ls hl => ?_)
                  refine lv_lload_n hx hb dX9_receives_187 rfl (lv_at hl 6 rfl) ?_
                  refine lv_aload_n hx hb dX9_receives_188 rfl (lv_at hl 4 rfl) ?_
                  refine lv_iload hx hb dX9_receives_189 (lv_at hl 2 rfl) ?_
                  refine lv_lload_n hx hb dX9_receives_191 rfl (lv_at hl 6 rfl) ?_
                  refine lv_lload hx hb dX9_receives_192 (lv_at hl 0 rfl) ?_
                  refine g_lmin hx hb (hml.trans hl.1.symm) hown (hts _ u_1307) hts (Nat.le_of_ble_eq_true rfl) (Nat.le_of_ble_eq_true rfl) (Nat.zero_le _) (Nat.zero_le _) ⟨by omega, by omega⟩ (by decide) dX9_receives_194 ?_
                  have hwant : min x1 0 = min x1 (sWant Pk ri a x1) := by
                    refine congrArg (min x1) ?_
                    unfold sWant
                    simp only []
                    first | rw [if_pos (by omega)] | rw [if_neg (by omega), if_pos (by omega)] | rw [if_neg (by omega), if_neg (by omega), if_pos (by omega)] | rw [if_neg (by omega), if_neg (by omega), if_neg (by omega), ht0, Int.toNat_natCast, if_pos (by omega)] | rw [if_neg (by omega), if_neg (by omega), if_neg (by omega), ht0, Int.toNat_natCast, if_neg (by omega)]
                  rw [hwant]
                  have hwn := want_in (P := Pk) (r := ri) (a := a) (x := x1) ⟨by omega, by omega⟩ har ⟨by omega, by omega⟩
                  obtain ⟨⟨hz1, hz2⟩, ⟨hz3, hz4⟩, hz5⟩ := hwk.2 t0 (by omega)
                  have hC38 := c_X9_put l g b0 n fL h Z M aa Pk t0 (min x1 (sWant Pk ri a x1)) hL0 hL1 hrg hat haa (by omega) ⟨by omega, by omega⟩ ⟨by omega, by omega⟩ ⟨by omega, by omega⟩
                  refine g_callVl (ci := 11) (C := RX9) (T := TX9) (N := 24) (As := [.int (zI (↑t0 : Int)), .long (zL (min x1 (sWant Pk ri a x1)))]) (rest := [.long (zL x1)]) ⟨hx, hb, hml, hown, hts⟩ hK hM hC38 (cuV (n := 2) hts u_1300 u_1297 u_10 (by decide) u_1299 us_41 ⟨Nat.le_of_ble_eq_true rfl, Nat.le_of_ble_eq_true rfl⟩) ⟨by omega, by omega⟩ hL0 rfl rfl hl.1 rfl (Nat.le_of_ble_eq_true rfl) dX9_receives_197 ⟨Nat.zero_le _, Nat.zero_le _⟩ (fun r197 f39 H locs hM hp40 => ?_)
                  obtain ⟨rfl, hn41, o42⟩ := hp40
                  obtain ⟨Pz43, hPz43⟩ : ∃ Q : Nat → Int, Q = sPut Pk t0 (min x1 (sWant Pk ri a x1)) := ⟨_, rfl⟩
                  rw [← hPz43] at hn41
                  refine g_lsub hx hb dX9_receives_200 ?_
                  refine lv_lstore_n (lv' := [(3, .long (zL (x1 - (sIs Pk t0 (min x1 (sWant Pk ri a x1)))))), (10, .long (zL 0)), (8, .long (zL (Pk (53 + 3 * ri)))), (7, .int (zI (↑t0 : Int))), (6, .int (zI (Pk (51 + 3 * ri)))), (0, .ref h), (1, .long (zL a)), (5, .int (zI (↑ri : Int)))]) hx hb dX9_receives_201 rfl hl (by decide) rfl (fun ls hl => ?_)
                  refine lv_iinc (v := zI ((↑ri : Int) + 1)) (lv' := [(5, .int (zI ((↑ri : Int) + 1))), (3, .long (zL (x1 - (sIs Pk t0 (min x1 (sWant Pk ri a x1)))))), (10, .long (zL 0)), (8, .long (zL (Pk (53 + 3 * ri)))), (7, .int (zI (↑t0 : Int))), (6, .int (zI (Pk (51 + 3 * ri)))), (0, .ref h), (1, .long (zL a))]) hx hb dX9_receives_202 hl (k := 7) rfl (zI_add _ _) (by decide) rfl (fun ls hl => ?_)
                  refine lv_goto (tgt := 5) hx hb dX9_receives_205 (by decide) ?_
                  have hil := sIs_le (P := Pk) (e := t0) (a := min x1 (sWant Pk ri a x1)) (by omega)
                  have hf44 : f39 (h) = .inr (11, [.int (zI (Z 0)), .ref (h + 1), .ref (h + 2), .ref (h + 3), .ref (h + 4), .ref (h + 5), .ref (h + 6), .ref (h + 7), .ref (h + 8), .int (zI (Z 9)), .int (zI (Z 10)), .int (zI (Z 11)), .int (zI (Z 12)), .int (zI (Z 13)), .int (zI (Z 14)), .int (zI (Z 15)), .int (zI (Z 16)), .ref (h + 9), .ref (h + 10), .ref (h + 11), .int (zI (Z 20)), .int (zI (Z 21)), .int (zI (Z 22)), .ref (h + 12)]) := (o42 (h) (by omega)).trans hL0
                  have hf45 := hL2.kept (fun q h1 h2 => (o42 (q) (by omega)))
                  exact ih5 (k9 + 1) (ri + 1) (x1 - (sIs Pk t0 (min x1 (sWant Pk ri a x1)))) Pz43 f39 _ _ _ (by omega) (by rw [sIt_succ, ← hst, hPz43]; simp only [sRecT]; rw [if_pos hrlt, if_neg hk4, ht0, Int.toNat_natCast]) (by omega) (by omega) ⟨by omega, by omega⟩ (by rw [hPz43]; exact wfE_mono (wfE_put (d := 1000000) hwk (by omega) (by omega) (by omega)) (by omega)) (fun j hj => by rw [hPz43, sPut_n (by omega)]; exact hkp j hj) (by rw [hPz43, sPut_n (by omega)]; exact hk7) (by rw [hPz43, sPut_n (by omega)]; exact hk8) (fun q hq => ((o42 (q) (by omega)).trans (hfr (q) (by omega)))) hM hf44 hn41 hf45 (lv_sub hl [6, 7, 1, 0] rfl)
              · skip
                refine lv_lload_n hx hb dX9_receives_151 rfl (lv_at hl 5 rfl) ?_
                refine lv_lload hx hb dX9_receives_152 (lv_at hl 0 rfl) ?_
                refine g_lmul hx hb dX9_receives_154 ?_
                refine g_ldc2 (z := 100) hx hb hown (hts _ u_1274) dX9_receives_155 (by decide) ?_
                refine g_ldiv hx hb dX9_receives_158 hm2.1 (by decide) (by decide) ?_
                refine lv_goto (tgt := 185) hx hb dX9_receives_159 (by decide) ?_
                refine lv_lstore (lv' := [(10, .long (zL (Int.tdiv (x1 * (Pk (53 + 3 * ri))) 100))), (8, .long (zL (Pk (53 + 3 * ri)))), (7, .int (zI (↑t0 : Int))), (6, .int (zI (Pk (51 + 3 * ri)))), (0, .ref h), (1, .long (zL a)), (3, .long (zL x1)), (5, .int (zI (↑ri : Int)))]) hx hb dX9_receives_185 hl (by decide) rfl (fun ls hl => ?_)
                refine lv_lload_n hx hb dX9_receives_187 rfl (lv_at hl 6 rfl) ?_
                refine lv_aload_n hx hb dX9_receives_188 rfl (lv_at hl 4 rfl) ?_
                refine lv_iload hx hb dX9_receives_189 (lv_at hl 2 rfl) ?_
                refine lv_lload_n hx hb dX9_receives_191 rfl (lv_at hl 6 rfl) ?_
                refine lv_lload hx hb dX9_receives_192 (lv_at hl 0 rfl) ?_
                refine g_lmin hx hb (hml.trans hl.1.symm) hown (hts _ u_1307) hts (Nat.le_of_ble_eq_true rfl) (Nat.le_of_ble_eq_true rfl) (Nat.zero_le _) (Nat.zero_le _) ⟨by omega, by omega⟩ ⟨by omega, by omega⟩ dX9_receives_194 ?_
                have hwant : min x1 (Int.tdiv (x1 * (Pk (53 + 3 * ri))) 100) = min x1 (sWant Pk ri a x1) := by
                  refine congrArg (min x1) ?_
                  unfold sWant
                  simp only []
                  first | rw [if_pos (by omega)] | rw [if_neg (by omega), if_pos (by omega)] | rw [if_neg (by omega), if_neg (by omega), if_pos (by omega)] | rw [if_neg (by omega), if_neg (by omega), if_neg (by omega), ht0, Int.toNat_natCast, if_pos (by omega)] | rw [if_neg (by omega), if_neg (by omega), if_neg (by omega), ht0, Int.toNat_natCast, if_neg (by omega)]
                rw [hwant]
                have hwn := want_in (P := Pk) (r := ri) (a := a) (x := x1) ⟨by omega, by omega⟩ har ⟨by omega, by omega⟩
                obtain ⟨⟨hz1, hz2⟩, ⟨hz3, hz4⟩, hz5⟩ := hwk.2 t0 (by omega)
                have hC46 := c_X9_put l g b0 n fL h Z M aa Pk t0 (min x1 (sWant Pk ri a x1)) hL0 hL1 hrg hat haa (by omega) ⟨by omega, by omega⟩ ⟨by omega, by omega⟩ ⟨by omega, by omega⟩
                refine g_callVl (ci := 11) (C := RX9) (T := TX9) (N := 24) (As := [.int (zI (↑t0 : Int)), .long (zL (min x1 (sWant Pk ri a x1)))]) (rest := [.long (zL x1)]) ⟨hx, hb, hml, hown, hts⟩ hK hM hC46 (cuV (n := 2) hts u_1300 u_1297 u_10 (by decide) u_1299 us_41 ⟨Nat.le_of_ble_eq_true rfl, Nat.le_of_ble_eq_true rfl⟩) ⟨by omega, by omega⟩ hL0 rfl rfl hl.1 rfl (Nat.le_of_ble_eq_true rfl) dX9_receives_197 ⟨Nat.zero_le _, Nat.zero_le _⟩ (fun r197 f47 H locs hM hp48 => ?_)
                obtain ⟨rfl, hn49, o50⟩ := hp48
                obtain ⟨Pz51, hPz51⟩ : ∃ Q : Nat → Int, Q = sPut Pk t0 (min x1 (sWant Pk ri a x1)) := ⟨_, rfl⟩
                rw [← hPz51] at hn49
                refine g_lsub hx hb dX9_receives_200 ?_
                refine lv_lstore_n (lv' := [(3, .long (zL (x1 - (sIs Pk t0 (min x1 (sWant Pk ri a x1)))))), (10, .long (zL (Int.tdiv (x1 * (Pk (53 + 3 * ri))) 100))), (8, .long (zL (Pk (53 + 3 * ri)))), (7, .int (zI (↑t0 : Int))), (6, .int (zI (Pk (51 + 3 * ri)))), (0, .ref h), (1, .long (zL a)), (5, .int (zI (↑ri : Int)))]) hx hb dX9_receives_201 rfl hl (by decide) rfl (fun ls hl => ?_)
                refine lv_iinc (v := zI ((↑ri : Int) + 1)) (lv' := [(5, .int (zI ((↑ri : Int) + 1))), (3, .long (zL (x1 - (sIs Pk t0 (min x1 (sWant Pk ri a x1)))))), (10, .long (zL (Int.tdiv (x1 * (Pk (53 + 3 * ri))) 100))), (8, .long (zL (Pk (53 + 3 * ri)))), (7, .int (zI (↑t0 : Int))), (6, .int (zI (Pk (51 + 3 * ri)))), (0, .ref h), (1, .long (zL a))]) hx hb dX9_receives_202 hl (k := 7) rfl (zI_add _ _) (by decide) rfl (fun ls hl => ?_)
                refine lv_goto (tgt := 5) hx hb dX9_receives_205 (by decide) ?_
                have hil := sIs_le (P := Pk) (e := t0) (a := min x1 (sWant Pk ri a x1)) (by omega)
                have hf52 : f47 (h) = .inr (11, [.int (zI (Z 0)), .ref (h + 1), .ref (h + 2), .ref (h + 3), .ref (h + 4), .ref (h + 5), .ref (h + 6), .ref (h + 7), .ref (h + 8), .int (zI (Z 9)), .int (zI (Z 10)), .int (zI (Z 11)), .int (zI (Z 12)), .int (zI (Z 13)), .int (zI (Z 14)), .int (zI (Z 15)), .int (zI (Z 16)), .ref (h + 9), .ref (h + 10), .ref (h + 11), .int (zI (Z 20)), .int (zI (Z 21)), .int (zI (Z 22)), .ref (h + 12)]) := (o50 (h) (by omega)).trans hL0
                have hf53 := hL2.kept (fun q h1 h2 => (o50 (q) (by omega)))
                exact ih5 (k9 + 1) (ri + 1) (x1 - (sIs Pk t0 (min x1 (sWant Pk ri a x1)))) Pz51 f47 _ _ _ (by omega) (by rw [sIt_succ, ← hst, hPz51]; simp only [sRecT]; rw [if_pos hrlt, if_neg hk4, ht0, Int.toNat_natCast]) (by omega) (by omega) ⟨by omega, by omega⟩ (by rw [hPz51]; exact wfE_mono (wfE_put (d := 1000000) hwk (by omega) (by omega) (by omega)) (by omega)) (fun j hj => by rw [hPz51, sPut_n (by omega)]; exact hkp j hj) (by rw [hPz51, sPut_n (by omega)]; exact hk7) (by rw [hPz51, sPut_n (by omega)]; exact hk8) (fun q hq => ((o50 (q) (by omega)).trans (hfr (q) (by omega)))) hM hf52 hn49 hf53 (lv_sub hl [6, 7, 1, 0] rfl)
            · skip
              refine lv_lload_n hx hb dX9_receives_134 rfl (lv_at hl 4 rfl) ?_
              refine lv_lload hx hb dX9_receives_135 (lv_at hl 0 rfl) ?_
              refine g_lmul hx hb dX9_receives_137 ?_
              refine g_ldc2 (z := 100) hx hb hown (hts _ u_1274) dX9_receives_138 (by decide) ?_
              refine g_ldiv hx hb dX9_receives_141 hm1.1 (by decide) (by decide) ?_
              refine lv_goto (tgt := 185) hx hb dX9_receives_142 (by decide) ?_
              refine lv_lstore (lv' := [(10, .long (zL (Int.tdiv (a * (Pk (53 + 3 * ri))) 100))), (8, .long (zL (Pk (53 + 3 * ri)))), (7, .int (zI (↑t0 : Int))), (6, .int (zI (Pk (51 + 3 * ri)))), (0, .ref h), (1, .long (zL a)), (3, .long (zL x1)), (5, .int (zI (↑ri : Int)))]) hx hb dX9_receives_185 hl (by decide) rfl (fun ls hl => ?_)
              refine lv_lload_n hx hb dX9_receives_187 rfl (lv_at hl 6 rfl) ?_
              refine lv_aload_n hx hb dX9_receives_188 rfl (lv_at hl 4 rfl) ?_
              refine lv_iload hx hb dX9_receives_189 (lv_at hl 2 rfl) ?_
              refine lv_lload_n hx hb dX9_receives_191 rfl (lv_at hl 6 rfl) ?_
              refine lv_lload hx hb dX9_receives_192 (lv_at hl 0 rfl) ?_
              refine g_lmin hx hb (hml.trans hl.1.symm) hown (hts _ u_1307) hts (Nat.le_of_ble_eq_true rfl) (Nat.le_of_ble_eq_true rfl) (Nat.zero_le _) (Nat.zero_le _) ⟨by omega, by omega⟩ ⟨by omega, by omega⟩ dX9_receives_194 ?_
              have hwant : min x1 (Int.tdiv (a * (Pk (53 + 3 * ri))) 100) = min x1 (sWant Pk ri a x1) := by
                refine congrArg (min x1) ?_
                unfold sWant
                simp only []
                first | rw [if_pos (by omega)] | rw [if_neg (by omega), if_pos (by omega)] | rw [if_neg (by omega), if_neg (by omega), if_pos (by omega)] | rw [if_neg (by omega), if_neg (by omega), if_neg (by omega), ht0, Int.toNat_natCast, if_pos (by omega)] | rw [if_neg (by omega), if_neg (by omega), if_neg (by omega), ht0, Int.toNat_natCast, if_neg (by omega)]
              rw [hwant]
              have hwn := want_in (P := Pk) (r := ri) (a := a) (x := x1) ⟨by omega, by omega⟩ har ⟨by omega, by omega⟩
              obtain ⟨⟨hz1, hz2⟩, ⟨hz3, hz4⟩, hz5⟩ := hwk.2 t0 (by omega)
              have hC54 := c_X9_put l g b0 n fL h Z M aa Pk t0 (min x1 (sWant Pk ri a x1)) hL0 hL1 hrg hat haa (by omega) ⟨by omega, by omega⟩ ⟨by omega, by omega⟩ ⟨by omega, by omega⟩
              refine g_callVl (ci := 11) (C := RX9) (T := TX9) (N := 24) (As := [.int (zI (↑t0 : Int)), .long (zL (min x1 (sWant Pk ri a x1)))]) (rest := [.long (zL x1)]) ⟨hx, hb, hml, hown, hts⟩ hK hM hC54 (cuV (n := 2) hts u_1300 u_1297 u_10 (by decide) u_1299 us_41 ⟨Nat.le_of_ble_eq_true rfl, Nat.le_of_ble_eq_true rfl⟩) ⟨by omega, by omega⟩ hL0 rfl rfl hl.1 rfl (Nat.le_of_ble_eq_true rfl) dX9_receives_197 ⟨Nat.zero_le _, Nat.zero_le _⟩ (fun r197 f55 H locs hM hp56 => ?_)
              obtain ⟨rfl, hn57, o58⟩ := hp56
              obtain ⟨Pz59, hPz59⟩ : ∃ Q : Nat → Int, Q = sPut Pk t0 (min x1 (sWant Pk ri a x1)) := ⟨_, rfl⟩
              rw [← hPz59] at hn57
              refine g_lsub hx hb dX9_receives_200 ?_
              refine lv_lstore_n (lv' := [(3, .long (zL (x1 - (sIs Pk t0 (min x1 (sWant Pk ri a x1)))))), (10, .long (zL (Int.tdiv (a * (Pk (53 + 3 * ri))) 100))), (8, .long (zL (Pk (53 + 3 * ri)))), (7, .int (zI (↑t0 : Int))), (6, .int (zI (Pk (51 + 3 * ri)))), (0, .ref h), (1, .long (zL a)), (5, .int (zI (↑ri : Int)))]) hx hb dX9_receives_201 rfl hl (by decide) rfl (fun ls hl => ?_)
              refine lv_iinc (v := zI ((↑ri : Int) + 1)) (lv' := [(5, .int (zI ((↑ri : Int) + 1))), (3, .long (zL (x1 - (sIs Pk t0 (min x1 (sWant Pk ri a x1)))))), (10, .long (zL (Int.tdiv (a * (Pk (53 + 3 * ri))) 100))), (8, .long (zL (Pk (53 + 3 * ri)))), (7, .int (zI (↑t0 : Int))), (6, .int (zI (Pk (51 + 3 * ri)))), (0, .ref h), (1, .long (zL a))]) hx hb dX9_receives_202 hl (k := 7) rfl (zI_add _ _) (by decide) rfl (fun ls hl => ?_)
              refine lv_goto (tgt := 5) hx hb dX9_receives_205 (by decide) ?_
              have hil := sIs_le (P := Pk) (e := t0) (a := min x1 (sWant Pk ri a x1)) (by omega)
              have hf60 : f55 (h) = .inr (11, [.int (zI (Z 0)), .ref (h + 1), .ref (h + 2), .ref (h + 3), .ref (h + 4), .ref (h + 5), .ref (h + 6), .ref (h + 7), .ref (h + 8), .int (zI (Z 9)), .int (zI (Z 10)), .int (zI (Z 11)), .int (zI (Z 12)), .int (zI (Z 13)), .int (zI (Z 14)), .int (zI (Z 15)), .int (zI (Z 16)), .ref (h + 9), .ref (h + 10), .ref (h + 11), .int (zI (Z 20)), .int (zI (Z 21)), .int (zI (Z 22)), .ref (h + 12)]) := (o58 (h) (by omega)).trans hL0
              have hf61 := hL2.kept (fun q h1 h2 => (o58 (q) (by omega)))
              exact ih5 (k9 + 1) (ri + 1) (x1 - (sIs Pk t0 (min x1 (sWant Pk ri a x1)))) Pz59 f55 _ _ _ (by omega) (by rw [sIt_succ, ← hst, hPz59]; simp only [sRecT]; rw [if_pos hrlt, if_neg hk4, ht0, Int.toNat_natCast]) (by omega) (by omega) ⟨by omega, by omega⟩ (by rw [hPz59]; exact wfE_mono (wfE_put (d := 1000000) hwk (by omega) (by omega) (by omega)) (by omega)) (fun j hj => by rw [hPz59, sPut_n (by omega)]; exact hkp j hj) (by rw [hPz59, sPut_n (by omega)]; exact hk7) (by rw [hPz59, sPut_n (by omega)]; exact hk8) (fun q hq => ((o58 (q) (by omega)).trans (hfr (q) (by omega)))) hM hf60 hn57 hf61 (lv_sub hl [6, 7, 1, 0] rfl)
          · skip
            refine lv_lload hx hb dX9_receives_123 (lv_at hl 0 rfl) ?_
            refine lv_goto (tgt := 185) hx hb dX9_receives_125 (by decide) ?_
            refine lv_lstore (lv' := [(10, .long (zL (Pk (53 + 3 * ri)))), (8, .long (zL (Pk (53 + 3 * ri)))), (7, .int (zI (↑t0 : Int))), (6, .int (zI (Pk (51 + 3 * ri)))), (0, .ref h), (1, .long (zL a)), (3, .long (zL x1)), (5, .int (zI (↑ri : Int)))]) hx hb dX9_receives_185 hl (by decide) rfl (fun ls hl => ?_)
            refine lv_lload_n hx hb dX9_receives_187 rfl (lv_at hl 6 rfl) ?_
            refine lv_aload_n hx hb dX9_receives_188 rfl (lv_at hl 4 rfl) ?_
            refine lv_iload hx hb dX9_receives_189 (lv_at hl 2 rfl) ?_
            refine lv_lload_n hx hb dX9_receives_191 rfl (lv_at hl 6 rfl) ?_
            refine lv_lload hx hb dX9_receives_192 (lv_at hl 0 rfl) ?_
            refine g_lmin hx hb (hml.trans hl.1.symm) hown (hts _ u_1307) hts (Nat.le_of_ble_eq_true rfl) (Nat.le_of_ble_eq_true rfl) (Nat.zero_le _) (Nat.zero_le _) ⟨by omega, by omega⟩ ⟨by omega, by omega⟩ dX9_receives_194 ?_
            have hwant : min x1 (Pk (53 + 3 * ri)) = min x1 (sWant Pk ri a x1) := by
              refine congrArg (min x1) ?_
              unfold sWant
              simp only []
              first | rw [if_pos (by omega)] | rw [if_neg (by omega), if_pos (by omega)] | rw [if_neg (by omega), if_neg (by omega), if_pos (by omega)] | rw [if_neg (by omega), if_neg (by omega), if_neg (by omega), ht0, Int.toNat_natCast, if_pos (by omega)] | rw [if_neg (by omega), if_neg (by omega), if_neg (by omega), ht0, Int.toNat_natCast, if_neg (by omega)]
            rw [hwant]
            have hwn := want_in (P := Pk) (r := ri) (a := a) (x := x1) ⟨by omega, by omega⟩ har ⟨by omega, by omega⟩
            obtain ⟨⟨hz1, hz2⟩, ⟨hz3, hz4⟩, hz5⟩ := hwk.2 t0 (by omega)
            have hC62 := c_X9_put l g b0 n fL h Z M aa Pk t0 (min x1 (sWant Pk ri a x1)) hL0 hL1 hrg hat haa (by omega) ⟨by omega, by omega⟩ ⟨by omega, by omega⟩ ⟨by omega, by omega⟩
            refine g_callVl (ci := 11) (C := RX9) (T := TX9) (N := 24) (As := [.int (zI (↑t0 : Int)), .long (zL (min x1 (sWant Pk ri a x1)))]) (rest := [.long (zL x1)]) ⟨hx, hb, hml, hown, hts⟩ hK hM hC62 (cuV (n := 2) hts u_1300 u_1297 u_10 (by decide) u_1299 us_41 ⟨Nat.le_of_ble_eq_true rfl, Nat.le_of_ble_eq_true rfl⟩) ⟨by omega, by omega⟩ hL0 rfl rfl hl.1 rfl (Nat.le_of_ble_eq_true rfl) dX9_receives_197 ⟨Nat.zero_le _, Nat.zero_le _⟩ (fun r197 f63 H locs hM hp64 => ?_)
            obtain ⟨rfl, hn65, o66⟩ := hp64
            obtain ⟨Pz67, hPz67⟩ : ∃ Q : Nat → Int, Q = sPut Pk t0 (min x1 (sWant Pk ri a x1)) := ⟨_, rfl⟩
            rw [← hPz67] at hn65
            refine g_lsub hx hb dX9_receives_200 ?_
            refine lv_lstore_n (lv' := [(3, .long (zL (x1 - (sIs Pk t0 (min x1 (sWant Pk ri a x1)))))), (10, .long (zL (Pk (53 + 3 * ri)))), (8, .long (zL (Pk (53 + 3 * ri)))), (7, .int (zI (↑t0 : Int))), (6, .int (zI (Pk (51 + 3 * ri)))), (0, .ref h), (1, .long (zL a)), (5, .int (zI (↑ri : Int)))]) hx hb dX9_receives_201 rfl hl (by decide) rfl (fun ls hl => ?_)
            refine lv_iinc (v := zI ((↑ri : Int) + 1)) (lv' := [(5, .int (zI ((↑ri : Int) + 1))), (3, .long (zL (x1 - (sIs Pk t0 (min x1 (sWant Pk ri a x1)))))), (10, .long (zL (Pk (53 + 3 * ri)))), (8, .long (zL (Pk (53 + 3 * ri)))), (7, .int (zI (↑t0 : Int))), (6, .int (zI (Pk (51 + 3 * ri)))), (0, .ref h), (1, .long (zL a))]) hx hb dX9_receives_202 hl (k := 7) rfl (zI_add _ _) (by decide) rfl (fun ls hl => ?_)
            refine lv_goto (tgt := 5) hx hb dX9_receives_205 (by decide) ?_
            have hil := sIs_le (P := Pk) (e := t0) (a := min x1 (sWant Pk ri a x1)) (by omega)
            have hf68 : f63 (h) = .inr (11, [.int (zI (Z 0)), .ref (h + 1), .ref (h + 2), .ref (h + 3), .ref (h + 4), .ref (h + 5), .ref (h + 6), .ref (h + 7), .ref (h + 8), .int (zI (Z 9)), .int (zI (Z 10)), .int (zI (Z 11)), .int (zI (Z 12)), .int (zI (Z 13)), .int (zI (Z 14)), .int (zI (Z 15)), .int (zI (Z 16)), .ref (h + 9), .ref (h + 10), .ref (h + 11), .int (zI (Z 20)), .int (zI (Z 21)), .int (zI (Z 22)), .ref (h + 12)]) := (o66 (h) (by omega)).trans hL0
            have hf69 := hL2.kept (fun q h1 h2 => (o66 (q) (by omega)))
            exact ih5 (k9 + 1) (ri + 1) (x1 - (sIs Pk t0 (min x1 (sWant Pk ri a x1)))) Pz67 f63 _ _ _ (by omega) (by rw [sIt_succ, ← hst, hPz67]; simp only [sRecT]; rw [if_pos hrlt, if_neg hk4, ht0, Int.toNat_natCast]) (by omega) (by omega) ⟨by omega, by omega⟩ (by rw [hPz67]; exact wfE_mono (wfE_put (d := 1000000) hwk (by omega) (by omega) (by omega)) (by omega)) (fun j hj => by rw [hPz67, sPut_n (by omega)]; exact hkp j hj) (by rw [hPz67, sPut_n (by omega)]; exact hk7) (by rw [hPz67, sPut_n (by omega)]; exact hk8) (fun q hq => ((o66 (q) (by omega)).trans (hfr (q) (by omega)))) hM hf68 hn65 hf69 (lv_sub hl [6, 7, 1, 0] rfl)
        · skip
          have hk4 : Pk (51 + 3 * ri) = 4 := by omega
          refine lv_iload hx hb dX9_receives_65 (lv_at hl 6 rfl) ?_
          refine lv_istore (lv' := [(10, .int (zI (↑ri : Int))), (8, .long (zL (Pk (53 + 3 * ri)))), (7, .int (zI (↑t0 : Int))), (6, .int (zI (Pk (51 + 3 * ri)))), (0, .ref h), (1, .long (zL a)), (3, .long (zL x1)), (5, .int (zI (↑ri : Int)))]) hx hb dX9_receives_67 hl (by decide) rfl (fun ls hl => ?_)
          have lp69 : ∀ (k2 : Nat), ∀ (i2 : Nat) (H : Heap) (locs : List Loc) (ls : Array Slot), (6 - i2 < k2) → (ri ≤ i2) → ((i2 : Int) ≤ Pk 8) → (∀ j : Nat, ri ≤ j → j < i2 → (j : Int) < Pk 8 ∧ Pk (51 + 3 * j) = 4) → gH g b0 n fL s.heap H locs → lv_has ls 12 [(0, .ref h), (1, .long (zL a)), (3, .long (zL x1)), (5, .int (zI (↑ri : Int))), (10, .int (zI (↑i2 : Int)))] → W p l e0 { frames := 4, cells := 0, slots := 0, locals := 141 } s m args below meth c H locs 0 0 (MQ below (va_Ql (po_X9_receives g f h Z M aa P a) (gB g b0 n) (gA b0)) args s 0 0 (gA b0)) (F0 m 69 ls []) := by
            intro k2
            induction k2 with
            | zero =>
              intro i2 H locs ls hk hi1 hi hkk hM hl
              exact absurd hk (Nat.not_lt_zero _)
            | succ k2 ih69 =>
              intro i2 H locs ls hk hi1 hi hkk hM hl
              refine lv_iload hx hb dX9_receives_69 (lv_at hl 4 rfl) ?_
              refine lv_aload_n hx hb dX9_receives_71 rfl (lv_at hl 0 rfl) ?_
              refine g_bipush hx hb dX9_receives_72 (by decide) ?_
              have hC70 := c_X9_n l g b0 n fL h Z M aa Pk 8 (8) hL0 hL1 hrg hat haa (by omega) (by omega)
              refine g_callVi (ci := 11) (C := RX9) (T := TX9) (N := 24) (As := [.int (zI 8)]) (rest := [.int (zI (↑i2 : Int))]) ⟨hx, hb, hml, hown, hts⟩ hK hM hC70 (cuV (n := 1) hts u_1249 u_1246 u_10 (by decide) u_1248 us_30 ⟨Nat.le_of_ble_eq_true rfl, Nat.le_of_ble_eq_true rfl⟩) ⟨by omega, by omega⟩ hL0 rfl rfl hl.1 rfl (Nat.le_of_ble_eq_true rfl) dX9_receives_74 ⟨Nat.zero_le _, Nat.zero_le _⟩ (fun r74 f71 H locs hM hp72 => ?_)
              obtain ⟨rfl, rfl⟩ := hp72
              refine g_icmp_ge (tgt := 101) hx hb dX9_receives_77 (by decide) ⟨by omega, by omega⟩ ⟨by omega, by omega⟩ (fun c77 => ?_) (fun c77 => ?_)
              · skip
                have hso := shOk_of hrk hrlt hk4
                have hb2 : i2 = ri + sRun Pk 6 ri := by
                  have := sRun_eq (P := Pk) (n := 6) (r := ri) (i := i2) (by omega) (by omega) hkk (by omega)
                  omega
                subst hb2
                have hso1 := hso.1.1
                have hso2 := hso.1.2.1
                have hso3 := hso.2
                have hsi := sShare_in hso.1 hwk (by omega : 0 ≤ x1) (by omega)
                have hsi1 := hsi.1.1
                have hsi2 := hsi.1.2
                refine lv_aload_n hx hb dX9_receives_101 rfl (lv_at hl 0 rfl) ?_
                refine lv_iload hx hb dX9_receives_102 (lv_at hl 3 rfl) ?_
                refine lv_iload hx hb dX9_receives_104 (lv_at hl 4 rfl) ?_
                refine lv_lload_n hx hb dX9_receives_106 rfl (lv_at hl 2 rfl) ?_
                have hC73 := c_X9_shares l g b0 n fL h Z M aa Pk ri (sRun Pk 6 ri) x1 hL0 hL1 hrg hat haa hL2 (wfE_mono hwk (by omega)) hso.1 ⟨by omega, by omega⟩
                refine g_callVl (ci := 11) (C := RX9) (T := TX9) (N := 24) (As := [.int (zI (↑ri : Int)), .int (zI (↑(ri + sRun Pk 6 ri) : Int)), .long (zL x1)]) (rest := []) ⟨hx, hb, hml, hown, hts⟩ hK hM hC73 (cuV (n := 3) hts u_1296 u_1293 u_10 (by decide) u_1295 us_40 ⟨Nat.le_of_ble_eq_true rfl, Nat.le_of_ble_eq_true rfl⟩) ⟨by omega, by omega⟩ hL0 rfl rfl hl.1 rfl (Nat.le_of_ble_eq_true rfl) dX9_receives_107 ⟨Nat.zero_le _, Nat.zero_le _⟩ (fun r107 f74 H locs hM hp75 => ?_)
                obtain ⟨rfl, hn76, hs78, o77⟩ := hp75
                obtain ⟨Pz79, hPz79⟩ : ∃ Q : Nat → Int, Q = (sShare Pk ri (sRun Pk 6 ri) x1).2 := ⟨_, rfl⟩
                rw [← hPz79] at hn76
                refine lv_lstore_n (lv' := [(3, .long (zL (x1 - (sShare Pk ri (sRun Pk 6 ri) x1).1))), (0, .ref h), (1, .long (zL a)), (5, .int (zI (↑ri : Int))), (10, .int (zI (↑(ri + sRun Pk 6 ri) : Int)))]) hx hb dX9_receives_110 rfl hl (by decide) rfl (fun ls hl => ?_)
                refine lv_iload hx hb dX9_receives_111 (lv_at hl 4 rfl) ?_
                refine lv_istore (lv' := [(5, .int (zI (↑(ri + sRun Pk 6 ri) : Int))), (3, .long (zL (x1 - (sShare Pk ri (sRun Pk 6 ri) x1).1))), (0, .ref h), (1, .long (zL a)), (10, .int (zI (↑(ri + sRun Pk 6 ri) : Int)))]) hx hb dX9_receives_113 hl (by decide) rfl (fun ls hl => ?_)
                refine lv_goto (tgt := 5) hx hb dX9_receives_115 (by decide) ?_
                have hf80 : f74 (h) = .inr (11, [.int (zI (Z 0)), .ref (h + 1), .ref (h + 2), .ref (h + 3), .ref (h + 4), .ref (h + 5), .ref (h + 6), .ref (h + 7), .ref (h + 8), .int (zI (Z 9)), .int (zI (Z 10)), .int (zI (Z 11)), .int (zI (Z 12)), .int (zI (Z 13)), .int (zI (Z 14)), .int (zI (Z 15)), .int (zI (Z 16)), .ref (h + 9), .ref (h + 10), .ref (h + 11), .int (zI (Z 20)), .int (zI (Z 21)), .int (zI (Z 22)), .ref (h + 12)]) := (o77 (h) (by omega)).trans hL0
                exact ih5 (k9 + 1) (ri + sRun Pk 6 ri) (x1 - (sShare Pk ri (sRun Pk 6 ri) x1).1) Pz79 f74 _ _ _ (by omega) (by rw [sIt_succ, ← hst, hPz79]; simp only [sRecT]; rw [if_pos hrlt, if_pos hk4]) (by omega) (by omega) ⟨by omega, by omega⟩ (by rw [hPz79]; exact wfE_mono hsi.2.1 (by omega)) (fun j hj => by rw [hPz79, hsi.2.2 j (by omega)]; exact hkp j hj) (by rw [hPz79, hsi.2.2 7 (by omega)]; exact hk7) (by rw [hPz79, hsi.2.2 8 (by omega)]; exact hk8) (fun q hq => ((o77 (q) (by omega)).trans (hfr (q) (by omega)))) hM hf80 hn76 hs78 (lv_sub hl [2, 3, 1, 0] rfl)
              · skip
                have hq51 : rI (Pk (51 + 3 * i2)) := by have := hrk.2 i2 (by omega); exact ⟨by omega, by omega⟩
                refine lv_aload_n hx hb dX9_receives_80 rfl (lv_at hl 0 rfl) ?_
                refine g_bipush hx hb dX9_receives_81 (by decide) ?_
                refine g_iconst hx hb dX9_receives_83 ?_
                refine lv_iload hx hb dX9_receives_84 (lv_at hl 4 rfl) ?_
                refine g_imul hx hb dX9_receives_86 ?_
                refine g_iadd hx hb dX9_receives_87 ?_
                have hC81 := c_X9_n l g b0 n fL h Z M aa Pk (51 + (3 * (↑i2 : Int))) (51 + 3 * i2) hL0 hL1 hrg hat haa (by omega) (by omega)
                refine g_callVi (ci := 11) (C := RX9) (T := TX9) (N := 24) (As := [.int (zI (51 + (3 * (↑i2 : Int))))]) (rest := []) ⟨hx, hb, hml, hown, hts⟩ hK hM hC81 (cuV (n := 1) hts u_1249 u_1246 u_10 (by decide) u_1248 us_30 ⟨Nat.le_of_ble_eq_true rfl, Nat.le_of_ble_eq_true rfl⟩) ⟨by omega, by omega⟩ hL0 rfl rfl hl.1 rfl (Nat.le_of_ble_eq_true rfl) dX9_receives_88 ⟨Nat.zero_le _, Nat.zero_le _⟩ (fun r88 f82 H locs hM hp83 => ?_)
                obtain ⟨rfl, rfl⟩ := hp83
                refine g_iconst hx hb dX9_receives_91 ?_
                refine g_icmp_ne (tgt := 101) hx hb dX9_receives_92 (by decide) hq51 (by decide) (fun c92 => ?_) (fun c92 => ?_)
                · skip
                  have hso := shOk_of hrk hrlt hk4
                  have hb2 : i2 = ri + sRun Pk 6 ri := by
                    have := sRun_eq (P := Pk) (n := 6) (r := ri) (i := i2) (by omega) (by omega) hkk (by omega)
                    omega
                  subst hb2
                  have hso1 := hso.1.1
                  have hso2 := hso.1.2.1
                  have hso3 := hso.2
                  have hsi := sShare_in hso.1 hwk (by omega : 0 ≤ x1) (by omega)
                  have hsi1 := hsi.1.1
                  have hsi2 := hsi.1.2
                  refine lv_aload_n hx hb dX9_receives_101 rfl (lv_at hl 0 rfl) ?_
                  refine lv_iload hx hb dX9_receives_102 (lv_at hl 3 rfl) ?_
                  refine lv_iload hx hb dX9_receives_104 (lv_at hl 4 rfl) ?_
                  refine lv_lload_n hx hb dX9_receives_106 rfl (lv_at hl 2 rfl) ?_
                  have hC84 := c_X9_shares l g b0 n fL h Z M aa Pk ri (sRun Pk 6 ri) x1 hL0 hL1 hrg hat haa hL2 (wfE_mono hwk (by omega)) hso.1 ⟨by omega, by omega⟩
                  refine g_callVl (ci := 11) (C := RX9) (T := TX9) (N := 24) (As := [.int (zI (↑ri : Int)), .int (zI (↑(ri + sRun Pk 6 ri) : Int)), .long (zL x1)]) (rest := []) ⟨hx, hb, hml, hown, hts⟩ hK hM hC84 (cuV (n := 3) hts u_1296 u_1293 u_10 (by decide) u_1295 us_40 ⟨Nat.le_of_ble_eq_true rfl, Nat.le_of_ble_eq_true rfl⟩) ⟨by omega, by omega⟩ hL0 rfl rfl hl.1 rfl (Nat.le_of_ble_eq_true rfl) dX9_receives_107 ⟨Nat.zero_le _, Nat.zero_le _⟩ (fun r107 f85 H locs hM hp86 => ?_)
                  obtain ⟨rfl, hn87, hs89, o88⟩ := hp86
                  obtain ⟨Pz90, hPz90⟩ : ∃ Q : Nat → Int, Q = (sShare Pk ri (sRun Pk 6 ri) x1).2 := ⟨_, rfl⟩
                  rw [← hPz90] at hn87
                  refine lv_lstore_n (lv' := [(3, .long (zL (x1 - (sShare Pk ri (sRun Pk 6 ri) x1).1))), (0, .ref h), (1, .long (zL a)), (5, .int (zI (↑ri : Int))), (10, .int (zI (↑(ri + sRun Pk 6 ri) : Int)))]) hx hb dX9_receives_110 rfl hl (by decide) rfl (fun ls hl => ?_)
                  refine lv_iload hx hb dX9_receives_111 (lv_at hl 4 rfl) ?_
                  refine lv_istore (lv' := [(5, .int (zI (↑(ri + sRun Pk 6 ri) : Int))), (3, .long (zL (x1 - (sShare Pk ri (sRun Pk 6 ri) x1).1))), (0, .ref h), (1, .long (zL a)), (10, .int (zI (↑(ri + sRun Pk 6 ri) : Int)))]) hx hb dX9_receives_113 hl (by decide) rfl (fun ls hl => ?_)
                  refine lv_goto (tgt := 5) hx hb dX9_receives_115 (by decide) ?_
                  have hf91 : f85 (h) = .inr (11, [.int (zI (Z 0)), .ref (h + 1), .ref (h + 2), .ref (h + 3), .ref (h + 4), .ref (h + 5), .ref (h + 6), .ref (h + 7), .ref (h + 8), .int (zI (Z 9)), .int (zI (Z 10)), .int (zI (Z 11)), .int (zI (Z 12)), .int (zI (Z 13)), .int (zI (Z 14)), .int (zI (Z 15)), .int (zI (Z 16)), .ref (h + 9), .ref (h + 10), .ref (h + 11), .int (zI (Z 20)), .int (zI (Z 21)), .int (zI (Z 22)), .ref (h + 12)]) := (o88 (h) (by omega)).trans hL0
                  exact ih5 (k9 + 1) (ri + sRun Pk 6 ri) (x1 - (sShare Pk ri (sRun Pk 6 ri) x1).1) Pz90 f85 _ _ _ (by omega) (by rw [sIt_succ, ← hst, hPz90]; simp only [sRecT]; rw [if_pos hrlt, if_pos hk4]) (by omega) (by omega) ⟨by omega, by omega⟩ (by rw [hPz90]; exact wfE_mono hsi.2.1 (by omega)) (fun j hj => by rw [hPz90, hsi.2.2 j (by omega)]; exact hkp j hj) (by rw [hPz90, hsi.2.2 7 (by omega)]; exact hk7) (by rw [hPz90, hsi.2.2 8 (by omega)]; exact hk8) (fun q hq => ((o88 (q) (by omega)).trans (hfr (q) (by omega)))) hM hf91 hn87 hs89 (lv_sub hl [2, 3, 1, 0] rfl)
                · skip
                  refine lv_iinc (v := zI ((↑i2 : Int) + 1)) (lv' := [(10, .int (zI ((↑i2 : Int) + 1))), (0, .ref h), (1, .long (zL a)), (3, .long (zL x1)), (5, .int (zI (↑ri : Int)))]) hx hb dX9_receives_95 hl (k := 4) rfl (zI_add _ _) (by decide) rfl (fun ls hl => ?_)
                  refine lv_goto (tgt := 69) hx hb dX9_receives_98 (by decide) ?_
                  exact ih69 (i2 + 1) _ _ _ (by omega) (by omega) (by omega) (fun j a b => (Nat.lt_or_ge j i2).elim (fun q => hkk j a q) (fun q => by rw [show j = i2 by omega]; exact ⟨by omega, by omega⟩)) hM (lv_sub hl [1, 2, 3, 4, 0] rfl)
          exact lp69 (7) ri _ _ _ (by omega) (by omega) (by omega) (fun j a b => absurd b (by omega)) hM (lv_sub hl [4, 5, 6, 7, 0] rfl)
  exact lp5 (7) 0 0 a P f _ _ _ (by omega) rfl (by omega) (by omega) ⟨by omega, by omega⟩ (wfE_mono hwe (by omega)) (fun j hj => rfl) rfl rfl (fun q hq => rfl) hM hO hP hsc (lv_sub hl [2, 3, 1, 0] rfl)

def po_X9_maySpend (g : gE) (f : gF) (h : Nat) (Z M : Nat → Int) (aa : Nat) (P : Nat → Int) (e : Nat) (a : Int) : Int32 → gF → Prop := fun r f1 => r = bI (a ≤ P (11 + 4 * e) + P 0) ∧ f = f1
set_option maxRecDepth 100000 in
set_option maxHeartbeats 1000000 in
/-- maySpend -/
theorem c_X9_maySpend (l : Launch) (g : gE) (b0 n : Nat) (f : gF) (h : Nat) (Z M : Nat → Int) (aa : Nat) (P : Nat → Int) (e : Nat) (a : Int) (hO : mdO f h Z) (hP : mpAt g f h M aa P) (hrg : b0 ≤ h ∧ h + 13 ≤ b0 + n) (hat : Z 11 = ↑aa) (haa : aa + 147 ≤ 2058) (he : e < 10) (hbr : 0 ≤ P (11 + 4 * e) ∧ P (11 + 4 * e) ≤ 1000000000000000000) (hpl : 0 ≤ P 0 ∧ P 0 ≤ 1000000000000000000) (har : 0 ≤ a ∧ a ≤ 1000000) : cI l yX9_maySpend cX9_maySpend 4 (some .boolean) 1 21 [.ref h, .int (zI (↑e : Int)), .long (zL a)] g b0 n f (po_X9_maySpend g f h Z M aa P e a) := by
  refine gs_i (cc := cX9_maySpend) (maxL := 4) (ret := (some .boolean)) (by decide) (Nat.le_of_ble_eq_true rfl) ?_
  intro p e0 s m args below meth c ls hx hb hr hml hown hts hlk hK hM hl
  have hl : lv_has ls 4 [(0, .ref h), (1, .int (zI (↑e : Int))), (2, .long (zL a))] := hl
  have hbr1 := hbr.1
  have hbr2 := hbr.2
  have hpl1 := hpl.1
  have hpl2 := hpl.2
  have har1 := har.1
  have har2 := har.2
  refine lv_aload_n hx hb dX9_maySpend_0 rfl (lv_at hl 0 rfl) ?_
  refine g_bipush hx hb dX9_maySpend_1 (by decide) ?_
  refine g_iconst hx hb dX9_maySpend_3 ?_
  refine lv_iload_n hx hb dX9_maySpend_4 rfl (lv_at hl 1 rfl) ?_
  refine g_imul hx hb dX9_maySpend_5 ?_
  refine g_iadd hx hb dX9_maySpend_6 ?_
  have hC1 := c_X9_p l g b0 n f h Z M aa P (11 + (4 * (↑e : Int))) (11 + 4 * e) hO hP hrg hat haa (by omega) (by omega)
  refine g_callVl (ci := 11) (C := RX9) (T := TX9) (N := 24) (As := [.int (zI (11 + (4 * (↑e : Int))))]) (rest := []) ⟨hx, hb, hml, hown, hts⟩ hK hM hC1 (cuV (n := 1) hts u_1283 u_1280 u_10 (by decide) u_1282 us_37 ⟨Nat.le_of_ble_eq_true rfl, Nat.le_of_ble_eq_true rfl⟩) ⟨by omega, by omega⟩ hO rfl rfl hl.1 rfl (Nat.le_of_ble_eq_true rfl) dX9_maySpend_7 ⟨Nat.zero_le _, Nat.zero_le _⟩ (fun r7 f2 H locs hM hp3 => ?_)
  obtain ⟨rfl, rfl⟩ := hp3
  refine lv_aload_n hx hb dX9_maySpend_10 rfl (lv_at hl 0 rfl) ?_
  refine g_iconst hx hb dX9_maySpend_11 ?_
  have hC4 := c_X9_p l g b0 n f h Z M aa P 0 (0) hO hP hrg hat haa (by omega) (by omega)
  refine g_callVl (ci := 11) (C := RX9) (T := TX9) (N := 24) (As := [.int (zI 0)]) (rest := [.long (zL (P (11 + 4 * e)))]) ⟨hx, hb, hml, hown, hts⟩ hK hM hC4 (cuV (n := 1) hts u_1283 u_1280 u_10 (by decide) u_1282 us_37 ⟨Nat.le_of_ble_eq_true rfl, Nat.le_of_ble_eq_true rfl⟩) ⟨by omega, by omega⟩ hO rfl rfl hl.1 rfl (Nat.le_of_ble_eq_true rfl) dX9_maySpend_12 ⟨Nat.zero_le _, Nat.zero_le _⟩ (fun r12 f5 H locs hM hp6 => ?_)
  obtain ⟨rfl, rfl⟩ := hp6
  refine g_ladd hx hb dX9_maySpend_15 ?_
  refine lv_lload_n hx hb dX9_maySpend_16 rfl (lv_at hl 2 rfl) ?_
  refine g_lcmp_lt (tgt := 25) hx hb dX9_maySpend_17 dX9_maySpend_18 (by decide) ⟨by omega, by omega⟩ ⟨by omega, by omega⟩ (fun c17 => ?_) (fun c17 => ?_)
  · skip
    refine g_iconst hx hb dX9_maySpend_25 ?_
    refine g_zret hx hb hr hlk hK hM dX9_maySpend_26 rfl ?_
    refine ⟨?_, rfl⟩
    show zI 0 = _
    first | exact (bI_t (by omega)).symm | exact (bI_f (by omega)).symm
  · skip
    refine g_iconst hx hb dX9_maySpend_21 ?_
    refine lv_goto (tgt := 26) hx hb dX9_maySpend_22 (by decide) ?_
    refine g_zret hx hb hr hlk hK hM dX9_maySpend_26 rfl ?_
    refine ⟨?_, rfl⟩
    show zI 1 = _
    first | exact (bI_t (by omega)).symm | exact (bI_f (by omega)).symm

def po_X9_spends (g : gE) (f : gF) (h : Nat) (Z M : Nat → Int) (aa : Nat) (P : Nat → Int) (e : Nat) (a : Int) : Int64 → gF → Prop := fun r f1 => r = zL (a - min (P (11 + 4 * e)) a) ∧ mpAt g f1 h M aa (sPay P e a) ∧ ∀ q, q ≠ h + 1 → f1 q = f q
set_option maxRecDepth 100000 in
set_option maxHeartbeats 1000000 in
/-- spends -/
theorem c_X9_spends (l : Launch) (g : gE) (b0 n : Nat) (f : gF) (h : Nat) (Z M : Nat → Int) (aa : Nat) (P : Nat → Int) (e : Nat) (a : Int) (hO : mdO f h Z) (hP : mpAt g f h M aa P) (hrg : b0 ≤ h ∧ h + 13 ≤ b0 + n) (hat : Z 11 = ↑aa) (haa : aa + 147 ≤ 2058) (he : e < 10) (hbr : 0 ≤ P (11 + 4 * e) ∧ P (11 + 4 * e) ≤ 1000000000000000000) (hpl : 0 ≤ P 0 ∧ P 0 ≤ 1000000000000000000) (har : 0 ≤ a ∧ a ≤ 1000000) : cL l yX9_spends cX9_spends 6 (some .long) 1 60 [.ref h, .int (zI (↑e : Int)), .long (zL a)] g b0 n f (po_X9_spends g f h Z M aa P e a) := by
  refine gs_l (cc := cX9_spends) (maxL := 6) (ret := (some .long)) (by decide) (Nat.le_of_ble_eq_true rfl) ?_
  intro p e0 s m args below meth c ls hx hb hr hml hown hts hlk hK hM hl
  have hl : lv_has ls 6 [(0, .ref h), (1, .int (zI (↑e : Int))), (2, .long (zL a))] := hl
  have hbr1 := hbr.1
  have hbr2 := hbr.2
  have hpl1 := hpl.1
  have hpl2 := hpl.2
  have har1 := har.1
  have har2 := har.2
  refine lv_lload_n hx hb dX9_spends_0 rfl (lv_at hl 2 rfl) ?_
  refine lv_aload_n hx hb dX9_spends_1 rfl (lv_at hl 0 rfl) ?_
  refine g_bipush hx hb dX9_spends_2 (by decide) ?_
  refine g_iconst hx hb dX9_spends_4 ?_
  refine lv_iload_n hx hb dX9_spends_5 rfl (lv_at hl 1 rfl) ?_
  refine g_imul hx hb dX9_spends_6 ?_
  refine g_iadd hx hb dX9_spends_7 ?_
  have hC1 := c_X9_p l g b0 n f h Z M aa P (11 + (4 * (↑e : Int))) (11 + 4 * e) hO hP hrg hat haa (by omega) (by omega)
  refine g_callVl (ci := 11) (C := RX9) (T := TX9) (N := 24) (As := [.int (zI (11 + (4 * (↑e : Int))))]) (rest := [.long (zL a)]) ⟨hx, hb, hml, hown, hts⟩ hK hM hC1 (cuV (n := 1) hts u_1283 u_1280 u_10 (by decide) u_1282 us_37 ⟨Nat.le_of_ble_eq_true rfl, Nat.le_of_ble_eq_true rfl⟩) ⟨by omega, by omega⟩ hO rfl rfl hl.1 rfl (Nat.le_of_ble_eq_true rfl) dX9_spends_8 ⟨Nat.zero_le _, Nat.zero_le _⟩ (fun r8 f2 H locs hM hp3 => ?_)
  obtain ⟨rfl, rfl⟩ := hp3
  refine g_lmin hx hb (hml.trans hl.1.symm) hown (hts _ u_1307) hts (Nat.le_of_ble_eq_true rfl) (Nat.le_of_ble_eq_true rfl) (Nat.zero_le _) (Nat.zero_le _) ⟨by omega, by omega⟩ ⟨by omega, by omega⟩ dX9_spends_11 ?_
  refine lv_lstore (lv' := [(4, .long (zL (min a (P (11 + 4 * e))))), (0, .ref h), (1, .int (zI (↑e : Int))), (2, .long (zL a))]) hx hb dX9_spends_14 hl (by decide) rfl (fun ls hl => ?_)
  refine lv_aload_n hx hb dX9_spends_16 rfl (lv_at hl 1 rfl) ?_
  refine g_bipush hx hb dX9_spends_17 (by decide) ?_
  refine g_iconst hx hb dX9_spends_19 ?_
  refine lv_iload_n hx hb dX9_spends_20 rfl (lv_at hl 2 rfl) ?_
  refine g_imul hx hb dX9_spends_21 ?_
  refine g_iadd hx hb dX9_spends_22 ?_
  refine lv_lload hx hb dX9_spends_23 (lv_at hl 0 rfl) ?_
  refine g_lneg hx hb dX9_spends_25 ?_
  have hC4 := c_X9_adds l g b0 n f h Z M aa P (11 + (4 * (↑e : Int))) (11 + 4 * e) (-(min a (P (11 + 4 * e)))) hO hP hrg hat haa (by omega) (by omega)
  refine g_callVv (ci := 11) (C := RX9) (T := TX9) (N := 24) (As := [.int (zI (11 + (4 * (↑e : Int)))), .long (zL (-(min a (P (11 + 4 * e)))))]) (rest := []) ⟨hx, hb, hml, hown, hts⟩ hK hM hC4 (cuV (n := 2) hts u_1261 u_1258 u_10 (by decide) u_1260 us_33 ⟨Nat.le_of_ble_eq_true rfl, Nat.le_of_ble_eq_true rfl⟩) ⟨by omega, by omega⟩ hO rfl rfl hl.1 rfl (Nat.le_of_ble_eq_true rfl) dX9_spends_26 ⟨Nat.zero_le _, Nat.zero_le _⟩ (fun f5 H locs hM hp6 => ?_)
  obtain ⟨hn7, o8⟩ := hp6
  obtain ⟨Pz9, hPz9⟩ : ∃ Q : Nat → Int, Q = pu P (11 + 4 * e) (P (11 + 4 * e) + (-(min a (P (11 + 4 * e))))) := ⟨_, rfl⟩
  rw [← hPz9] at hn7
  refine lv_aload_n hx hb dX9_spends_29 rfl (lv_at hl 1 rfl) ?_
  refine g_bipush hx hb dX9_spends_30 (by decide) ?_
  refine g_iconst hx hb dX9_spends_32 ?_
  refine lv_iload_n hx hb dX9_spends_33 rfl (lv_at hl 2 rfl) ?_
  refine g_imul hx hb dX9_spends_34 ?_
  refine g_iadd hx hb dX9_spends_35 ?_
  refine g_iconst hx hb dX9_spends_36 ?_
  refine g_iadd hx hb dX9_spends_37 ?_
  refine lv_lload hx hb dX9_spends_38 (lv_at hl 0 rfl) ?_
  have hf10 : f5 (h) = .inr (11, [.int (zI (Z 0)), .ref (h + 1), .ref (h + 2), .ref (h + 3), .ref (h + 4), .ref (h + 5), .ref (h + 6), .ref (h + 7), .ref (h + 8), .int (zI (Z 9)), .int (zI (Z 10)), .int (zI (Z 11)), .int (zI (Z 12)), .int (zI (Z 13)), .int (zI (Z 14)), .int (zI (Z 15)), .int (zI (Z 16)), .ref (h + 9), .ref (h + 10), .ref (h + 11), .int (zI (Z 20)), .int (zI (Z 21)), .int (zI (Z 22)), .ref (h + 12)]) := (o8 (h) (by omega)).trans hO
  have hC11 := c_X9_adds l g b0 n f5 h Z M aa Pz9 ((11 + (4 * (↑e : Int))) + 3) (14 + 4 * e) (min a (P (11 + 4 * e))) hf10 hn7 hrg hat haa (by omega) (by omega)
  refine g_callVv (ci := 11) (C := RX9) (T := TX9) (N := 24) (As := [.int (zI ((11 + (4 * (↑e : Int))) + 3)), .long (zL (min a (P (11 + 4 * e))))]) (rest := []) ⟨hx, hb, hml, hown, hts⟩ hK hM hC11 (cuV (n := 2) hts u_1261 u_1258 u_10 (by decide) u_1260 us_33 ⟨Nat.le_of_ble_eq_true rfl, Nat.le_of_ble_eq_true rfl⟩) ⟨by omega, by omega⟩ hf10 rfl rfl hl.1 rfl (Nat.le_of_ble_eq_true rfl) dX9_spends_40 ⟨Nat.zero_le _, Nat.zero_le _⟩ (fun f12 H locs hM hp13 => ?_)
  obtain ⟨hn14, o15⟩ := hp13
  obtain ⟨Pz16, hPz16⟩ : ∃ Q : Nat → Int, Q = pu Pz9 (14 + 4 * e) (Pz9 (14 + 4 * e) + (min a (P (11 + 4 * e)))) := ⟨_, rfl⟩
  rw [← hPz16] at hn14
  refine lv_aload_n hx hb dX9_spends_43 rfl (lv_at hl 1 rfl) ?_
  refine g_iconst hx hb dX9_spends_44 ?_
  refine lv_lload hx hb dX9_spends_45 (lv_at hl 0 rfl) ?_
  refine lv_lload_n hx hb dX9_spends_47 rfl (lv_at hl 3 rfl) ?_
  refine g_lsub hx hb dX9_spends_48 ?_
  have hf17 : f12 (h) = .inr (11, [.int (zI (Z 0)), .ref (h + 1), .ref (h + 2), .ref (h + 3), .ref (h + 4), .ref (h + 5), .ref (h + 6), .ref (h + 7), .ref (h + 8), .int (zI (Z 9)), .int (zI (Z 10)), .int (zI (Z 11)), .int (zI (Z 12)), .int (zI (Z 13)), .int (zI (Z 14)), .int (zI (Z 15)), .int (zI (Z 16)), .ref (h + 9), .ref (h + 10), .ref (h + 11), .int (zI (Z 20)), .int (zI (Z 21)), .int (zI (Z 22)), .ref (h + 12)]) := (o15 (h) (by omega)).trans hf10
  have hC18 := c_X9_adds l g b0 n f12 h Z M aa Pz16 0 (0) ((min a (P (11 + 4 * e))) - a) hf17 hn14 hrg hat haa (by omega) (by omega)
  refine g_callVv (ci := 11) (C := RX9) (T := TX9) (N := 24) (As := [.int (zI 0), .long (zL ((min a (P (11 + 4 * e))) - a))]) (rest := []) ⟨hx, hb, hml, hown, hts⟩ hK hM hC18 (cuV (n := 2) hts u_1261 u_1258 u_10 (by decide) u_1260 us_33 ⟨Nat.le_of_ble_eq_true rfl, Nat.le_of_ble_eq_true rfl⟩) ⟨by omega, by omega⟩ hf17 rfl rfl hl.1 rfl (Nat.le_of_ble_eq_true rfl) dX9_spends_49 ⟨Nat.zero_le _, Nat.zero_le _⟩ (fun f19 H locs hM hp20 => ?_)
  obtain ⟨hn21, o22⟩ := hp20
  obtain ⟨Pz23, hPz23⟩ : ∃ Q : Nat → Int, Q = pu Pz16 (0) (Pz16 (0) + ((min a (P (11 + 4 * e))) - a)) := ⟨_, rfl⟩
  rw [← hPz23] at hn21
  refine lv_aload_n hx hb dX9_spends_52 rfl (lv_at hl 1 rfl) ?_
  refine g_iconst hx hb dX9_spends_53 ?_
  refine lv_lload_n hx hb dX9_spends_54 rfl (lv_at hl 3 rfl) ?_
  have hf24 : f19 (h) = .inr (11, [.int (zI (Z 0)), .ref (h + 1), .ref (h + 2), .ref (h + 3), .ref (h + 4), .ref (h + 5), .ref (h + 6), .ref (h + 7), .ref (h + 8), .int (zI (Z 9)), .int (zI (Z 10)), .int (zI (Z 11)), .int (zI (Z 12)), .int (zI (Z 13)), .int (zI (Z 14)), .int (zI (Z 15)), .int (zI (Z 16)), .ref (h + 9), .ref (h + 10), .ref (h + 11), .int (zI (Z 20)), .int (zI (Z 21)), .int (zI (Z 22)), .ref (h + 12)]) := (o22 (h) (by omega)).trans hf17
  have hC25 := c_X9_adds l g b0 n f19 h Z M aa Pz23 3 (3) a hf24 hn21 hrg hat haa (by omega) (by omega)
  refine g_callVv (ci := 11) (C := RX9) (T := TX9) (N := 24) (As := [.int (zI 3), .long (zL a)]) (rest := []) ⟨hx, hb, hml, hown, hts⟩ hK hM hC25 (cuV (n := 2) hts u_1261 u_1258 u_10 (by decide) u_1260 us_33 ⟨Nat.le_of_ble_eq_true rfl, Nat.le_of_ble_eq_true rfl⟩) ⟨by omega, by omega⟩ hf24 rfl rfl hl.1 rfl (Nat.le_of_ble_eq_true rfl) dX9_spends_55 ⟨Nat.zero_le _, Nat.zero_le _⟩ (fun f26 H locs hM hp27 => ?_)
  obtain ⟨hn28, o29⟩ := hp27
  obtain ⟨Pz30, hPz30⟩ : ∃ Q : Nat → Int, Q = pu Pz23 (3) (Pz23 (3) + a) := ⟨_, rfl⟩
  rw [← hPz30] at hn28
  refine lv_lload_n hx hb dX9_spends_58 rfl (lv_at hl 3 rfl) ?_
  refine lv_lload hx hb dX9_spends_59 (lv_at hl 0 rfl) ?_
  refine g_lsub hx hb dX9_spends_61 ?_
  refine g_lret hx hb hr hlk hK hM dX9_spends_62 ?_
  have hmc : min a (P (11 + 4 * e)) = min (P (11 + 4 * e)) a := by omega
  refine ⟨by rw [hmc], hn28.cong (fun i hi => ?_), (fun q hq => ((o29 (q) (by omega)).trans ((o22 (q) (by omega)).trans ((o15 (q) (by omega)).trans (o8 (q) (by omega))))))⟩
  rw [hPz30, hPz23, hPz16, hPz9]
  simp only [sPay, sDrain, pu, hmc]
  (repeat' split) <;> first | rfl | omega

def po_X9_settles (g : gE) (f : gF) (h : Nat) (Z M : Nat → Int) (aa : Nat) (P : Nat → Int) : gF → Prop := fun f1 => mpAt g f1 h M aa (sSet P) ∧ scrAt g f1 h ∧ ∀ q, (q < h + 1 ∨ (h + 2 ≤ q ∧ q < h + 9) ∨ h + 11 ≤ q) → f1 q = f q
set_option maxRecDepth 100000 in
set_option maxHeartbeats 1000000 in
/-- settles() -/
theorem c_X9_settles (l : Launch) (g : gE) (b0 n : Nat) (f : gF) (h : Nat) (Z M : Nat → Int) (aa : Nat) (P : Nat → Int) (hO : mdO f h Z) (hP : mpAt g f h M aa P) (hrg : b0 ≤ h ∧ h + 13 ≤ b0 + n) (hat : Z 11 = ↑aa) (haa : aa + 147 ≤ 2058) (hsc : scrAt g f h) (hws : wfS P 1000000000000000) (hlo : lkOk P) : cV l yX9_settles cX9_settles 9 none 3 108 [.ref h] g b0 n f (po_X9_settles g f h Z M aa P) := by
  refine gs_v (cc := cX9_settles) (maxL := 9) (ret := none) (by decide) (Nat.le_of_ble_eq_true rfl) ?_
  intro p e0 s m args below meth c ls hx hb hr hml hown hts hlk hK hM hl
  have hl : lv_has ls 9 [(0, .ref h)] := hl
  obtain ⟨⟨A, hA⟩, U, hU⟩ := hsc
  have hcn7 := hws.1
  refine g_iconst hx hb dX9_settles_0 ?_
  refine lv_istore_n (lv' := [(1, .int (zI 0)), (0, .ref h)]) hx hb dX9_settles_1 rfl hl (by decide) rfl (fun ls hl => ?_)
  have lp2 : ∀ (k : Nat), ∀ (i : Nat) (U2 : Nat → Int) (fL : gF) (H : Heap) (locs : List Loc) (ls : Array Slot), (6 - i < k) → (i ≤ 6) → (∀ k, k < i → U2 k = 0) → (∀ q, (q < h + 1 ∨ (h + 2 ≤ q ∧ q < h + 9) ∨ h + 11 ≤ q) → fL q = f q) → gH g b0 n fL s.heap H locs → (mdO fL h Z) → (mpAt g fL h M aa P) → (arZ g fL (h + 10) 6 U2) → (arJ g fL (h + 9) 6 A) → lv_has ls 9 [(0, .ref h), (1, .int (zI (↑i : Int)))] → W p l e0 { frames := 3, cells := 0, slots := 0, locals := 108 } s m args below meth c H locs 0 0 (MQ below (va_Qv (po_X9_settles g f h Z M aa P) (gB g b0 n) (gA b0)) args s 0 0 (gA b0)) (F0 m 2 ls []) := by
    intro k
    induction k with
    | zero =>
      intro i U2 fL H locs ls hk hi hU2 hfr hM hL0 hL1 hL3 hL4 hl
      exact absurd hk (Nat.not_lt_zero _)
    | succ k ih2 =>
      intro i U2 fL H locs ls hk hi hU2 hfr hM hL0 hL1 hL3 hL4 hl
      refine lv_iload_n hx hb dX9_settles_2 rfl (lv_at hl 1 rfl) ?_
      refine g_bipush hx hb dX9_settles_3 (by decide) ?_
      refine g_icmp_ge (tgt := 21) hx hb dX9_settles_5 (by decide) ⟨by omega, by omega⟩ (by decide) (fun c5 => ?_) (fun c5 => ?_)
      · skip
        have hi6 : i = 6 := by omega
        refine g_iconst hx hb dX9_settles_21 ?_
        refine lv_istore_n (lv' := [(1, .int (zI 1)), (0, .ref h)]) hx hb dX9_settles_22 rfl hl (by decide) rfl (fun ls hl => ?_)
        have lp23 : ∀ (kk : Nat), ∀ (rd : Nat) (m0 : Nat) (st : Bool) (bv : Int) (Pa : Nat → Int) (Ua : Nat → Int) (fL : gF) (H : Heap) (locs : List Loc) (ls : Array Slot), (8 - rd < kk) → (rd ≤ 7) → ((m0, st, Pa) = sIt sSetT (0, false, P) rd) → (bv = if st = true then 0 else 1) → (m0 < 64) → (wfS Pa 1000000000000000) → (lkOk Pa) → (∀ k, k < 6 → Ua k = if Nat.testBit m0 k = true then 1 else 0) → (st = false → rd ≤ pcn m0) → (∀ q, (q < h + 1 ∨ (h + 2 ≤ q ∧ q < h + 9) ∨ h + 11 ≤ q) → fL q = f q) → gH g b0 n fL s.heap H locs → (mdO fL h Z) → (mpAt g fL h M aa Pa) → (arZ g fL (h + 10) 6 Ua) → (arJ g fL (h + 9) 6 A) → lv_has ls 9 [(0, .ref h), (1, .int (zI bv))] → W p l e0 { frames := 3, cells := 0, slots := 0, locals := 108 } s m args below meth c H locs 0 0 (MQ below (va_Qv (po_X9_settles g f h Z M aa P) (gB g b0 n) (gA b0)) args s 0 0 (gA b0)) (F0 m 23 ls []) := by
          intro kk
          induction kk with
          | zero =>
            intro rd m0 st bv Pa Ua fL H locs ls hk hrd hso hbv hm0 hwa hla hUa hpc0 hfr hM hL0 hL1 hL3 hL4 hl
            exact absurd hk (Nat.not_lt_zero _)
          | succ kk ih23 =>
            intro rd m0 st bv Pa Ua fL H locs ls hk hrd hso hbv hm0 hwa hla hUa hpc0 hfr hM hL0 hL1 hL3 hL4 hl
            have hbr : rI bv := by rw [hbv]; split <;> decide
            refine lv_iload_n hx hb dX9_settles_23 rfl (lv_at hl 1 rfl) ?_
            refine g_if_eq (tgt := 175) hx hb dX9_settles_24 (by decide) hbr (fun c24 => ?_) (fun c24 => ?_)
            · skip
              have hstt : st = true := by
                cases st
                · simp at hbv; omega
                · rfl
              refine g_vret hx hb hr hlk hK hM dX9_settles_175 ?_
              have h7 : sIt sSetT (0, false, P) 7 = (m0, true, Pa) := by
                have := sIt_stab (d := 7 - rd) (k := rd) (s := (m0, true, Pa)) (step := sSetT) (s0 := (0, false, P)) (fun k => by simp only [sSetT]; rfl) (by rw [← hso, hstt])
                rwa [show rd + (7 - rd) = 7 by omega] at this
              have hS : sSet P = Pa := by unfold sSet; rw [h7]
              refine ⟨?_, ⟨⟨_, hL4⟩, _, hL3⟩, (fun q hq => (hfr (q) (by omega)))⟩
              rw [hS]
              exact hL1
            · skip
              have hstf : st = false := by
                cases st
                · rfl
                · simp at hbv; omega
              have h91 := hla.1.1
              have h92 := hla.1.2
              have hp6 := pcn_in m0 hm0
              have hrp := hpc0 hstf
              refine g_iconst hx hb dX9_settles_27 ?_
              refine lv_istore_n (lv' := [(1, .int (zI 0)), (0, .ref h)]) hx hb dX9_settles_28 rfl hl (by decide) rfl (fun ls hl => ?_)
              refine g_iconst hx hb dX9_settles_29 ?_
              refine lv_istore_n (lv' := [(2, .int (zI 0)), (1, .int (zI 0)), (0, .ref h)]) hx hb dX9_settles_30 rfl hl (by decide) rfl (fun ls hl => ?_)
              have lp31 : ∀ (k2 : Nat), ∀ (i : Nat) (mk : Nat) (an : Bool) (q3 : Int) (Pb : Nat → Int) (U3 : Nat → Int) (fL : gF) (H : Heap) (locs : List Loc) (ls : Array Slot), (6 - i < k2) → ((i : Int) ≤ Pa 9) → ((mk, an, Pb) = sIt sLkT (m0, false, Pa) i) → (q3 = if an = true then 1 else 0) → (mk < 64) → (wfS Pb 1000000000000000) → (lkOk Pb) → (Pb 9 = Pa 9) → (bS Pb = bS Pa) → (∀ k, k < 6 → U3 k = if Nat.testBit mk k = true then 1 else 0) → (pcn m0 + (if an = true then 1 else 0) ≤ pcn mk) → (∀ q, (q < h + 1 ∨ (h + 2 ≤ q ∧ q < h + 9) ∨ h + 11 ≤ q) → fL q = f q) → gH g b0 n fL s.heap H locs → (mdO fL h Z) → (mpAt g fL h M aa Pb) → (arZ g fL (h + 10) 6 U3) → (arJ g fL (h + 9) 6 A) → lv_has ls 9 [(0, .ref h), (1, .int (zI q3)), (2, .int (zI (↑i : Int)))] → W p l e0 { frames := 3, cells := 0, slots := 0, locals := 108 } s m args below meth c H locs 0 0 (MQ below (va_Qv (po_X9_settles g f h Z M aa P) (gB g b0 n) (gA b0)) args s 0 0 (gA b0)) (F0 m 31 ls []) := by
                intro k2
                induction k2 with
                | zero =>
                  intro i mk an q3 Pb U3 fL H locs ls hk hi hst hq3 hmk hwk hlkb hk9 hbs hU3 hpm hfr hM hL0 hL1 hL3 hL4 hl
                  exact absurd hk (Nat.not_lt_zero _)
                | succ k2 ih31 =>
                  intro i mk an q3 Pb U3 fL H locs ls hk hi hst hq3 hmk hwk hlkb hk9 hbs hU3 hpm hfr hM hL0 hL1 hL3 hL4 hl
                  have h91 := hla.1.1
                  have h92 := hla.1.2
                  have h91b := hlkb.1.1
                  have h92b := hlkb.1.2
                  refine lv_iload_n hx hb dX9_settles_31 rfl (lv_at hl 2 rfl) ?_
                  refine lv_aload_n hx hb dX9_settles_32 rfl (lv_at hl 0 rfl) ?_
                  refine g_bipush hx hb dX9_settles_33 (by decide) ?_
                  have hC1 := c_X9_n l g b0 n fL h Z M aa Pb 9 (9) hL0 hL1 hrg hat haa (by omega) (by omega)
                  refine g_callVi (ci := 11) (C := RX9) (T := TX9) (N := 24) (As := [.int (zI 9)]) (rest := [.int (zI (↑i : Int))]) ⟨hx, hb, hml, hown, hts⟩ hK hM hC1 (cuV (n := 1) hts u_1249 u_1246 u_10 (by decide) u_1248 us_30 ⟨Nat.le_of_ble_eq_true rfl, Nat.le_of_ble_eq_true rfl⟩) ⟨by omega, by omega⟩ hL0 rfl rfl hl.1 rfl (Nat.le_of_ble_eq_true rfl) dX9_settles_35 ⟨Nat.zero_le _, Nat.zero_le _⟩ (fun r35 f2 H locs hM hp3 => ?_)
                  obtain ⟨rfl, rfl⟩ := hp3
                  refine g_icmp_ge (tgt := 172) hx hb dX9_settles_38 (by decide) ⟨by omega, by omega⟩ ⟨by omega, by omega⟩ (fun c38 => ?_) (fun c38 => ?_)
                  · skip
                    have hin : i = (Pa 9).toNat := by omega
                    have hrr : sRnd m0 Pa = (mk, an, Pb) := by unfold sRnd; rw [← hin, ← hst]
                    have hrnd : sIt sSetT (0, false, P) (rd + 1) = (mk, !an, Pb) := by rw [sIt_succ, ← hso, hstf]; simp only [sSetT, hrr]; rfl
                    refine lv_goto (tgt := 23) hx hb dX9_settles_172 (by decide) ?_
                    exact ih23 (rd + 1) mk (!an) q3 Pb U3 fL _ _ _ (by omega) (by omega) hrnd.symm (by rw [hq3]; cases an <;> rfl) hmk hwk hlkb hU3 (fun han => by have h9 : an = true := (by cases an; exact absurd han (by decide); rfl); rw [h9] at hpm; simp only [if_true] at hpm; have := hpc0 hstf; omega) (fun q hq => (hfr (q) (by omega))) hM hL0 hL1 hL3 hL4 (lv_sub hl [0, 1] rfl)
                  · skip
                    have hi9 : (i : Int) < Pb 9 := by omega
                    obtain ⟨l1, l2, l3, l4, l5, l6, l7, l8, l9⟩ := hlkb.2 i hi9
                    have hw7 := hwk.1
                    obtain ⟨s0, hs0⟩ : ∃ q : Nat, Pb (69 + 5 * i) = q := ⟨(Pb (69 + 5 * i)).toNat, by omega⟩
                    obtain ⟨t0, ht0⟩ : ∃ q : Nat, Pb (70 + 5 * i) = q := ⟨(Pb (70 + 5 * i)).toNat, by omega⟩
                    obtain ⟨⟨hb1, hb2⟩, ⟨hb3, hb4⟩, hb5⟩ := hwk.E.2 s0 (by omega)
                    obtain ⟨uv, huv⟩ : ∃ q : Int, U3 i = q := ⟨_, rfl⟩
                    have huw : uv = if Nat.testBit mk i = true then 1 else 0 := by rw [← huv]; exact hU3 i (by omega)
                    have hur : uv = 0 ∨ uv = 1 := by rw [huw]; split; exact Or.inr rfl; exact Or.inl rfl
                    refine g_bipush hx hb dX9_settles_41 (by decide) ?_
                    refine g_iconst hx hb dX9_settles_43 ?_
                    refine lv_iload_n hx hb dX9_settles_44 rfl (lv_at hl 2 rfl) ?_
                    refine g_imul hx hb dX9_settles_45 ?_
                    refine g_iadd hx hb dX9_settles_46 ?_
                    refine lv_istore_n (lv' := [(3, .int (zI (69 + (5 * (↑i : Int))))), (0, .ref h), (1, .int (zI q3)), (2, .int (zI (↑i : Int)))]) hx hb dX9_settles_47 rfl hl (by decide) rfl (fun ls hl => ?_)
                    refine g_bipush hx hb dX9_settles_48 (by decide) ?_
                    refine g_iconst hx hb dX9_settles_50 ?_
                    refine lv_aload_n hx hb dX9_settles_51 rfl (lv_at hl 1 rfl) ?_
                    refine lv_iload_n hx hb dX9_settles_52 rfl (lv_at hl 0 rfl) ?_
                    have hC4 := c_X9_n l g b0 n fL h Z M aa Pb (69 + (5 * (↑i : Int))) (69 + 5 * i) hL0 hL1 hrg hat haa (by omega) (by omega)
                    refine g_callVi (ci := 11) (C := RX9) (T := TX9) (N := 24) (As := [.int (zI (69 + (5 * (↑i : Int))))]) (rest := [.int (zI 4), .int (zI 11)]) ⟨hx, hb, hml, hown, hts⟩ hK hM hC4 (cuV (n := 1) hts u_1249 u_1246 u_10 (by decide) u_1248 us_30 ⟨Nat.le_of_ble_eq_true rfl, Nat.le_of_ble_eq_true rfl⟩) ⟨by omega, by omega⟩ hL0 rfl rfl hl.1 rfl (Nat.le_of_ble_eq_true rfl) dX9_settles_53 ⟨Nat.zero_le _, Nat.zero_le _⟩ (fun r53 f5 H locs hM hp6 => ?_)
                    obtain ⟨rfl, rfl⟩ := hp6
                    rw [hs0]
                    refine g_imul hx hb dX9_settles_56 ?_
                    refine g_iadd hx hb dX9_settles_57 ?_
                    refine lv_istore (lv' := [(4, .int (zI (11 + (4 * (↑s0 : Int))))), (3, .int (zI (69 + (5 * (↑i : Int))))), (0, .ref h), (1, .int (zI q3)), (2, .int (zI (↑i : Int)))]) hx hb dX9_settles_58 hl (by decide) rfl (fun ls hl => ?_)
                    refine lv_aload_n hx hb dX9_settles_60 rfl (lv_at hl 2 rfl) ?_
                    refine lv_iload hx hb dX9_settles_61 (lv_at hl 0 rfl) ?_
                    have hC7 := c_X9_p l g b0 n fL h Z M aa Pb (11 + (4 * (↑s0 : Int))) (11 + 4 * s0) hL0 hL1 hrg hat haa (by omega) (by omega)
                    refine g_callVl (ci := 11) (C := RX9) (T := TX9) (N := 24) (As := [.int (zI (11 + (4 * (↑s0 : Int))))]) (rest := []) ⟨hx, hb, hml, hown, hts⟩ hK hM hC7 (cuV (n := 1) hts u_1283 u_1280 u_10 (by decide) u_1282 us_37 ⟨Nat.le_of_ble_eq_true rfl, Nat.le_of_ble_eq_true rfl⟩) ⟨by omega, by omega⟩ hL0 rfl rfl hl.1 rfl (Nat.le_of_ble_eq_true rfl) dX9_settles_63 ⟨Nat.zero_le _, Nat.zero_le _⟩ (fun r63 f8 H locs hM hp9 => ?_)
                    obtain ⟨rfl, rfl⟩ := hp9
                    refine lv_aload_n hx hb dX9_settles_66 rfl (lv_at hl 2 rfl) ?_
                    refine lv_iload_n hx hb dX9_settles_67 rfl (lv_at hl 1 rfl) ?_
                    refine g_iconst hx hb dX9_settles_68 ?_
                    refine g_iadd hx hb dX9_settles_69 ?_
                    have hC10 := c_X9_p l g b0 n fL h Z M aa Pb ((69 + (5 * (↑i : Int))) + 2) (71 + 5 * i) hL0 hL1 hrg hat haa (by omega) (by omega)
                    refine g_callVl (ci := 11) (C := RX9) (T := TX9) (N := 24) (As := [.int (zI ((69 + (5 * (↑i : Int))) + 2))]) (rest := [.long (zL (Pb (11 + 4 * s0)))]) ⟨hx, hb, hml, hown, hts⟩ hK hM hC10 (cuV (n := 1) hts u_1283 u_1280 u_10 (by decide) u_1282 us_37 ⟨Nat.le_of_ble_eq_true rfl, Nat.le_of_ble_eq_true rfl⟩) ⟨by omega, by omega⟩ hL0 rfl rfl hl.1 rfl (Nat.le_of_ble_eq_true rfl) dX9_settles_70 ⟨Nat.zero_le _, Nat.zero_le _⟩ (fun r70 f11 H locs hM hp12 => ?_)
                    obtain ⟨rfl, rfl⟩ := hp12
                    refine g_lsub hx hb dX9_settles_73 ?_
                    have hov : Pb (11 + 4 * s0) - Pb (71 + 5 * i) = sOver Pb i := by unfold sOver; rw [hs0]; rfl
                    rw [hov]
                    have hpc := pct_ok (o := if 0 < sOver Pb i then sOver Pb i else 0) (q := Pb (72 + 5 * i)) (by split <;> omega) (by split <;> omega) (by omega) (by omega)
                    refine lv_lstore (lv' := [(5, .long (zL (sOver Pb i))), (4, .int (zI (11 + (4 * (↑s0 : Int))))), (3, .int (zI (69 + (5 * (↑i : Int))))), (0, .ref h), (1, .int (zI q3)), (2, .int (zI (↑i : Int)))]) hx hb dX9_settles_74 hl (by decide) rfl (fun ls hl => ?_)
                    refine lv_aload_n hx hb dX9_settles_76 rfl (lv_at hl 3 rfl) ?_
                    refine g_get (ci := 11) (v := .ref (h + 10)) (C := RX9) (T := TX9) (N := 24) hx hb hts iU_X9 hown hK hM ⟨by omega, by omega⟩ hL0 rfl 18 (by decide) (hts _ u_1162) (fun _ h9 => h9) rfl dX9_settles_77 ?_
                    refine lv_iload_n hx hb dX9_settles_80 rfl (lv_at hl 5 rfl) ?_
                    refine g_zald hx hb hK hM ⟨by omega, by omega⟩ hL3 (by omega) (by omega) (by decide) dX9_settles_81 ?_
                    show W _ _ _ _ _ _ _ _ _ _ _ _ _ _ _ (F0 _ _ _ (.int (zI (U3 i)) :: _))
                    rw [huv]
                    refine g_if_ne (tgt := 166) hx hb dX9_settles_82 (by decide) ⟨by omega, by omega⟩ (fun c82 => ?_) (fun c82 => ?_)
                    · skip
                      have hbit : Nat.testBit mk i = true := by
                        cases hq9 : Nat.testBit mk i
                        · rw [hq9] at huw; simp at huw; omega
                        · rfl
                      refine lv_iinc (v := zI ((↑i : Int) + 1)) (lv' := [(2, .int (zI ((↑i : Int) + 1))), (5, .long (zL (sOver Pb i))), (4, .int (zI (11 + (4 * (↑s0 : Int))))), (3, .int (zI (69 + (5 * (↑i : Int))))), (0, .ref h), (1, .int (zI q3))]) hx hb dX9_settles_166 hl (k := 5) rfl (zI_add _ _) (by decide) rfl (fun ls hl => ?_)
                      refine lv_goto (tgt := 31) hx hb dX9_settles_169 (by decide) ?_
                      exact ih31 (i + 1) mk an q3 Pb U3 fL _ _ _ (by omega) (by omega) (by rw [sIt_succ, ← hst]; simp only [sLkT]; rw [if_neg (fun hh => by rw [hbit] at hh; exact absurd hh.1 (by decide))]) hq3 hmk hwk hlkb hk9 hbs hU3 hpm (fun q hq => (hfr (q) (by omega))) hM hL0 hL1 hL3 hL4 (lv_sub hl [4, 5, 0] rfl)
                    · skip
                      have hbit : Nat.testBit mk i = false := by
                        cases hq9 : Nat.testBit mk i
                        · rfl
                        · rw [hq9] at huw; simp at huw; omega
                      refine lv_lload hx hb dX9_settles_85 (lv_at hl 0 rfl) ?_
                      refine g_lconst (z := 0) hx hb dX9_settles_87 (by decide) ?_
                      refine g_lcmp_gt (tgt := 95) hx hb dX9_settles_88 dX9_settles_89 (by decide) ⟨by omega, by omega⟩ (by decide) (fun c88 => ?_) (fun c88 => ?_)
                      · skip
                        rw [if_pos (show 0 < sOver Pb i by omega)] at hpc
                        have hpc1 := hpc.2.1
                        have hpc2 := hpc.2.2
                        have hbt := hwk.E.2 t0 (by omega)
                        obtain ⟨⟨ht1, ht2⟩, ⟨ht3, ht4⟩, ht5⟩ := hbt
                        refine lv_aload_n hx hb dX9_settles_95 rfl (lv_at hl 3 rfl) ?_
                        refine lv_aload_n hx hb dX9_settles_96 rfl (lv_at hl 3 rfl) ?_
                        refine lv_iload_n hx hb dX9_settles_97 rfl (lv_at hl 2 rfl) ?_
                        refine g_iconst hx hb dX9_settles_98 ?_
                        refine g_iadd hx hb dX9_settles_99 ?_
                        have hC13 := c_X9_n l g b0 n fL h Z M aa Pb ((69 + (5 * (↑i : Int))) + 1) (70 + 5 * i) hL0 hL1 hrg hat haa (by omega) (by omega)
                        refine g_callVi (ci := 11) (C := RX9) (T := TX9) (N := 24) (As := [.int (zI ((69 + (5 * (↑i : Int))) + 1))]) (rest := [.ref h]) ⟨hx, hb, hml, hown, hts⟩ hK hM hC13 (cuV (n := 1) hts u_1249 u_1246 u_10 (by decide) u_1248 us_30 ⟨Nat.le_of_ble_eq_true rfl, Nat.le_of_ble_eq_true rfl⟩) ⟨by omega, by omega⟩ hL0 rfl rfl hl.1 rfl (Nat.le_of_ble_eq_true rfl) dX9_settles_100 ⟨Nat.zero_le _, Nat.zero_le _⟩ (fun r100 f14 H locs hM hp15 => ?_)
                        obtain ⟨rfl, rfl⟩ := hp15
                        rw [ht0]
                        refine lv_lload hx hb dX9_settles_103 (lv_at hl 0 rfl) ?_
                        refine lv_aload_n hx hb dX9_settles_105 rfl (lv_at hl 3 rfl) ?_
                        refine lv_iload_n hx hb dX9_settles_106 rfl (lv_at hl 2 rfl) ?_
                        refine g_iconst hx hb dX9_settles_107 ?_
                        refine g_iadd hx hb dX9_settles_108 ?_
                        have hC16 := c_X9_p l g b0 n fL h Z M aa Pb ((69 + (5 * (↑i : Int))) + 3) (72 + 5 * i) hL0 hL1 hrg hat haa (by omega) (by omega)
                        refine g_callVl (ci := 11) (C := RX9) (T := TX9) (N := 24) (As := [.int (zI ((69 + (5 * (↑i : Int))) + 3))]) (rest := [.long (zL (sOver Pb i)), .int (zI (↑t0 : Int)), .ref h]) ⟨hx, hb, hml, hown, hts⟩ hK hM hC16 (cuV (n := 1) hts u_1283 u_1280 u_10 (by decide) u_1282 us_37 ⟨Nat.le_of_ble_eq_true rfl, Nat.le_of_ble_eq_true rfl⟩) ⟨by omega, by omega⟩ hL0 rfl rfl hl.1 rfl (Nat.le_of_ble_eq_true rfl) dX9_settles_109 ⟨Nat.zero_le _, Nat.zero_le _⟩ (fun r109 f17 H locs hM hp18 => ?_)
                        obtain ⟨rfl, rfl⟩ := hp18
                        refine g_lmul hx hb dX9_settles_112 ?_
                        refine g_ldc2 (z := 100) hx hb hown (hts _ u_1274) dX9_settles_113 (by decide) ?_
                        refine g_ldiv hx hb dX9_settles_116 hpc.1 (by decide) (by decide) ?_
                        have hC19 := c_X9_put l g b0 n fL h Z M aa Pb t0 (Int.tdiv ((sOver Pb i) * (Pb (72 + 5 * i))) 100) hL0 hL1 hrg hat haa (by omega) ⟨by omega, by omega⟩ ⟨by omega, by omega⟩ ⟨by omega, by omega⟩
                        refine g_callVl (ci := 11) (C := RX9) (T := TX9) (N := 24) (As := [.int (zI (↑t0 : Int)), .long (zL (Int.tdiv ((sOver Pb i) * (Pb (72 + 5 * i))) 100))]) (rest := []) ⟨hx, hb, hml, hown, hts⟩ hK hM hC19 (cuV (n := 2) hts u_1300 u_1297 u_10 (by decide) u_1299 us_41 ⟨Nat.le_of_ble_eq_true rfl, Nat.le_of_ble_eq_true rfl⟩) ⟨by omega, by omega⟩ hL0 rfl rfl hl.1 rfl (Nat.le_of_ble_eq_true rfl) dX9_settles_117 ⟨Nat.zero_le _, Nat.zero_le _⟩ (fun r117 f20 H locs hM hp21 => ?_)
                        obtain ⟨rfl, hn22, o23⟩ := hp21
                        obtain ⟨Pz24, hPz24⟩ : ∃ Q : Nat → Int, Q = sPut Pb t0 (Int.tdiv ((sOver Pb i) * (Pb (72 + 5 * i))) 100) := ⟨_, rfl⟩
                        rw [← hPz24] at hn22
                        have hps : sIs Pb t0 (Int.tdiv (sOver Pb i * Pb (72 + 5 * i)) 100) = sPass Pb i := by unfold sPass; rw [ht0]; rfl
                        rw [hps]
                        have hsl := sLnk_inv hwk hlkb (by omega) hi9 (show 0 < sOver Pb i by omega)
                        have hsp := hsl.2.2.1
                        have hsp2 : sPass Pb i ≤ 1000000000000000 := by rw [← hps]; have := (sIs_le (P := Pb) (e := t0) hpc1).2; omega
                        refine lv_lstore (lv' := [(7, .long (zL (sPass Pb i))), (5, .long (zL (sOver Pb i))), (4, .int (zI (11 + (4 * (↑s0 : Int))))), (3, .int (zI (69 + (5 * (↑i : Int))))), (0, .ref h), (1, .int (zI q3)), (2, .int (zI (↑i : Int)))]) hx hb dX9_settles_120 hl (by decide) rfl (fun ls hl => ?_)
                        refine lv_lload hx hb dX9_settles_122 (lv_at hl 0 rfl) ?_
                        refine g_lconst (z := 0) hx hb dX9_settles_124 (by decide) ?_
                        refine g_lcmp_ne (tgt := 132) hx hb dX9_settles_125 dX9_settles_126 (by decide) ⟨by omega, by omega⟩ (by decide) (fun c125 => ?_) (fun c125 => ?_)
                        · skip
                          refine lv_aload_n hx hb dX9_settles_132 rfl (lv_at hl 4 rfl) ?_
                          refine lv_iload hx hb dX9_settles_133 (lv_at hl 2 rfl) ?_
                          refine lv_lload hx hb dX9_settles_135 (lv_at hl 0 rfl) ?_
                          refine g_lneg hx hb dX9_settles_137 ?_
                          have hf25 : f20 (h) = .inr (11, [.int (zI (Z 0)), .ref (h + 1), .ref (h + 2), .ref (h + 3), .ref (h + 4), .ref (h + 5), .ref (h + 6), .ref (h + 7), .ref (h + 8), .int (zI (Z 9)), .int (zI (Z 10)), .int (zI (Z 11)), .int (zI (Z 12)), .int (zI (Z 13)), .int (zI (Z 14)), .int (zI (Z 15)), .int (zI (Z 16)), .ref (h + 9), .ref (h + 10), .ref (h + 11), .int (zI (Z 20)), .int (zI (Z 21)), .int (zI (Z 22)), .ref (h + 12)]) := (o23 (h) (by omega)).trans hL0
                          have hC26 := c_X9_adds l g b0 n f20 h Z M aa Pz24 (11 + (4 * (↑s0 : Int))) (11 + 4 * s0) (-(sPass Pb i)) hf25 hn22 hrg hat haa (by omega) (by omega)
                          refine g_callVv (ci := 11) (C := RX9) (T := TX9) (N := 24) (As := [.int (zI (11 + (4 * (↑s0 : Int)))), .long (zL (-(sPass Pb i)))]) (rest := []) ⟨hx, hb, hml, hown, hts⟩ hK hM hC26 (cuV (n := 2) hts u_1261 u_1258 u_10 (by decide) u_1260 us_33 ⟨Nat.le_of_ble_eq_true rfl, Nat.le_of_ble_eq_true rfl⟩) ⟨by omega, by omega⟩ hf25 rfl rfl hl.1 rfl (Nat.le_of_ble_eq_true rfl) dX9_settles_138 ⟨Nat.zero_le _, Nat.zero_le _⟩ (fun f27 H locs hM hp28 => ?_)
                          obtain ⟨hn29, o30⟩ := hp28
                          obtain ⟨Pz31, hPz31⟩ : ∃ Q : Nat → Int, Q = pu Pz24 (11 + 4 * s0) (Pz24 (11 + 4 * s0) + (-(sPass Pb i))) := ⟨_, rfl⟩
                          rw [← hPz31] at hn29
                          refine lv_aload_n hx hb dX9_settles_141 rfl (lv_at hl 4 rfl) ?_
                          refine lv_iload_n hx hb dX9_settles_142 rfl (lv_at hl 3 rfl) ?_
                          refine g_iconst hx hb dX9_settles_143 ?_
                          refine g_iadd hx hb dX9_settles_144 ?_
                          refine lv_lload hx hb dX9_settles_145 (lv_at hl 0 rfl) ?_
                          have hf32 : f27 (h) = .inr (11, [.int (zI (Z 0)), .ref (h + 1), .ref (h + 2), .ref (h + 3), .ref (h + 4), .ref (h + 5), .ref (h + 6), .ref (h + 7), .ref (h + 8), .int (zI (Z 9)), .int (zI (Z 10)), .int (zI (Z 11)), .int (zI (Z 12)), .int (zI (Z 13)), .int (zI (Z 14)), .int (zI (Z 15)), .int (zI (Z 16)), .ref (h + 9), .ref (h + 10), .ref (h + 11), .int (zI (Z 20)), .int (zI (Z 21)), .int (zI (Z 22)), .ref (h + 12)]) := (o30 (h) (by omega)).trans hf25
                          have hC33 := c_X9_adds l g b0 n f27 h Z M aa Pz31 ((69 + (5 * (↑i : Int))) + 4) (73 + 5 * i) (sPass Pb i) hf32 hn29 hrg hat haa (by omega) (by omega)
                          refine g_callVv (ci := 11) (C := RX9) (T := TX9) (N := 24) (As := [.int (zI ((69 + (5 * (↑i : Int))) + 4)), .long (zL (sPass Pb i))]) (rest := []) ⟨hx, hb, hml, hown, hts⟩ hK hM hC33 (cuV (n := 2) hts u_1261 u_1258 u_10 (by decide) u_1260 us_33 ⟨Nat.le_of_ble_eq_true rfl, Nat.le_of_ble_eq_true rfl⟩) ⟨by omega, by omega⟩ hf32 rfl rfl hl.1 rfl (Nat.le_of_ble_eq_true rfl) dX9_settles_147 ⟨Nat.zero_le _, Nat.zero_le _⟩ (fun f34 H locs hM hp35 => ?_)
                          obtain ⟨hn36, o37⟩ := hp35
                          obtain ⟨Pz38, hPz38⟩ : ∃ Q : Nat → Int, Q = pu Pz31 (73 + 5 * i) (Pz31 (73 + 5 * i) + (sPass Pb i)) := ⟨_, rfl⟩
                          rw [← hPz38] at hn36
                          refine lv_aload_n hx hb dX9_settles_150 rfl (lv_at hl 4 rfl) ?_
                          refine g_iconst hx hb dX9_settles_151 ?_
                          refine lv_lload hx hb dX9_settles_152 (lv_at hl 0 rfl) ?_
                          have hf39 : f34 (h) = .inr (11, [.int (zI (Z 0)), .ref (h + 1), .ref (h + 2), .ref (h + 3), .ref (h + 4), .ref (h + 5), .ref (h + 6), .ref (h + 7), .ref (h + 8), .int (zI (Z 9)), .int (zI (Z 10)), .int (zI (Z 11)), .int (zI (Z 12)), .int (zI (Z 13)), .int (zI (Z 14)), .int (zI (Z 15)), .int (zI (Z 16)), .ref (h + 9), .ref (h + 10), .ref (h + 11), .int (zI (Z 20)), .int (zI (Z 21)), .int (zI (Z 22)), .ref (h + 12)]) := (o37 (h) (by omega)).trans hf32
                          have hC40 := c_X9_adds l g b0 n f34 h Z M aa Pz38 5 (5) (sPass Pb i) hf39 hn36 hrg hat haa (by omega) (by omega)
                          refine g_callVv (ci := 11) (C := RX9) (T := TX9) (N := 24) (As := [.int (zI 5), .long (zL (sPass Pb i))]) (rest := []) ⟨hx, hb, hml, hown, hts⟩ hK hM hC40 (cuV (n := 2) hts u_1261 u_1258 u_10 (by decide) u_1260 us_33 ⟨Nat.le_of_ble_eq_true rfl, Nat.le_of_ble_eq_true rfl⟩) ⟨by omega, by omega⟩ hf39 rfl rfl hl.1 rfl (Nat.le_of_ble_eq_true rfl) dX9_settles_154 ⟨Nat.zero_le _, Nat.zero_le _⟩ (fun f41 H locs hM hp42 => ?_)
                          obtain ⟨hn43, o44⟩ := hp42
                          obtain ⟨Pz45, hPz45⟩ : ∃ Q : Nat → Int, Q = pu Pz38 (5) (Pz38 (5) + (sPass Pb i)) := ⟨_, rfl⟩
                          rw [← hPz45] at hn43
                          have hPQ : Pz45 = sLnk Pb i := by
                            rw [hPz45, hPz38, pu_n (j := 5) (by omega), hPz31, hPz24]
                            simp only [sLnk, hs0, ht0, Int.toNat_natCast, Int.sub_eq_add_neg]
                          have hp46 := hn43
                          rw [hPQ] at hp46
                          refine lv_aload_n hx hb dX9_settles_157 rfl (lv_at hl 4 rfl) ?_
                          have hf47 : f41 (h) = .inr (11, [.int (zI (Z 0)), .ref (h + 1), .ref (h + 2), .ref (h + 3), .ref (h + 4), .ref (h + 5), .ref (h + 6), .ref (h + 7), .ref (h + 8), .int (zI (Z 9)), .int (zI (Z 10)), .int (zI (Z 11)), .int (zI (Z 12)), .int (zI (Z 13)), .int (zI (Z 14)), .int (zI (Z 15)), .int (zI (Z 16)), .ref (h + 9), .ref (h + 10), .ref (h + 11), .int (zI (Z 20)), .int (zI (Z 21)), .int (zI (Z 22)), .ref (h + 12)]) := (o44 (h) (by omega)).trans hf39
                          refine g_get (ci := 11) (v := .ref (h + 10)) (C := RX9) (T := TX9) (N := 24) hx hb hts iU_X9 hown hK hM ⟨by omega, by omega⟩ hf47 rfl 18 (by decide) (hts _ u_1162) (fun _ h9 => h9) rfl dX9_settles_158 ?_
                          refine lv_iload_n hx hb dX9_settles_161 rfl (lv_at hl 6 rfl) ?_
                          refine g_iconst hx hb dX9_settles_162 ?_
                          have hf48 := hL3.kept ((o44 (h + 10) (by omega)).trans ((o37 (h + 10) (by omega)).trans ((o30 (h + 10) (by omega)).trans (o23 (h + 10) (by omega)))))
                          refine g_zast hx hb hK hM ⟨by omega, by omega⟩ hf48 (by decide) (by omega) (by omega) (by decide) dX9_settles_163 (fun f49 H locs hM ha51 o50 => ?_)
                          refine g_iconst hx hb dX9_settles_164 ?_
                          refine lv_istore_n (lv' := [(1, .int (zI 1)), (7, .long (zL (sPass Pb i))), (5, .long (zL (sOver Pb i))), (4, .int (zI (11 + (4 * (↑s0 : Int))))), (3, .int (zI (69 + (5 * (↑i : Int))))), (0, .ref h), (2, .int (zI (↑i : Int)))]) hx hb dX9_settles_165 rfl hl (by decide) rfl (fun ls hl => ?_)
                          refine lv_iinc (v := zI ((↑i : Int) + 1)) (lv' := [(2, .int (zI ((↑i : Int) + 1))), (1, .int (zI 1)), (7, .long (zL (sPass Pb i))), (5, .long (zL (sOver Pb i))), (4, .int (zI (11 + (4 * (↑s0 : Int))))), (3, .int (zI (69 + (5 * (↑i : Int))))), (0, .ref h)]) hx hb dX9_settles_166 hl (k := 6) rfl (zI_add _ _) (by decide) rfl (fun ls hl => ?_)
                          refine lv_goto (tgt := 31) hx hb dX9_settles_169 (by decide) ?_
                          have hf52 : f49 (h) = .inr (11, [.int (zI (Z 0)), .ref (h + 1), .ref (h + 2), .ref (h + 3), .ref (h + 4), .ref (h + 5), .ref (h + 6), .ref (h + 7), .ref (h + 8), .int (zI (Z 9)), .int (zI (Z 10)), .int (zI (Z 11)), .int (zI (Z 12)), .int (zI (Z 13)), .int (zI (Z 14)), .int (zI (Z 15)), .int (zI (Z 16)), .ref (h + 9), .ref (h + 10), .ref (h + 11), .int (zI (Z 20)), .int (zI (Z 21)), .int (zI (Z 22)), .ref (h + 12)]) := (o50 (h) (by omega)).trans hf47
                          have hf53 := hp46.kept (fun q h1 h2 => (o50 (q) (by omega)))
                          have hf54 := hL4.kept ((o50 (h + 9) (by omega)).trans ((o44 (h + 9) (by omega)).trans ((o37 (h + 9) (by omega)).trans ((o30 (h + 9) (by omega)).trans (o23 (h + 9) (by omega))))))
                          exact ih31 (i + 1) (mk ||| 2 ^ i) true 1 (sLnk Pb i) (pu U3 i 1) f49 _ _ _ (by omega) (by omega) (by rw [sIt_succ, ← hst]; simp only [sLkT]; rw [if_pos ⟨hbit, by omega, by omega⟩]) rfl (Nat.or_lt_two_pow (n := 6) hmk (Nat.pow_lt_pow_right (by omega) (by omega))) hsl.1 hsl.2.1 (by rw [sLnk_at (by omega)]; exact hk9) (by rw [hsl.2.2.2]; exact hbs) (fun k hk => by rw [bs_t mk hmk i (by omega) k hk]; exact (Classical.em (k = i)).elim (fun hz => by subst hz; rw [pu_s]; simp) (fun hz => by rw [pu_n hz, hU3 k hk]; simp [hz])) (by rw [pcn_up mk hmk i (by omega) hbit, if_pos rfl]; have : (if an = true then 1 else 0) ≤ 1 := (by split <;> omega); omega) (fun q hq => ((o50 (q) (by omega)).trans ((o44 (q) (by omega)).trans ((o37 (q) (by omega)).trans ((o30 (q) (by omega)).trans ((o23 (q) (by omega)).trans (hfr (q) (by omega)))))))) hM hf52 hf53 ha51 hf54 (lv_sub hl [6, 1, 0] rfl)
                        · skip
                          have hPQ : Pz24 = Pb := by
                            have hz9 : sIs Pb t0 (Int.tdiv (sOver Pb i * Pb (72 + 5 * i)) 100) = 0 := by rw [hps]; omega
                            rw [hPz24]; unfold sPut; rw [hz9, Int.add_zero]; exact pu_id _ _
                          have hp55 := hn22
                          rw [hPQ] at hp55
                          refine lv_goto (tgt := 166) hx hb dX9_settles_129 (by decide) ?_
                          refine lv_iinc (v := zI ((↑i : Int) + 1)) (lv' := [(2, .int (zI ((↑i : Int) + 1))), (7, .long (zL (sPass Pb i))), (5, .long (zL (sOver Pb i))), (4, .int (zI (11 + (4 * (↑s0 : Int))))), (3, .int (zI (69 + (5 * (↑i : Int))))), (0, .ref h), (1, .int (zI q3))]) hx hb dX9_settles_166 hl (k := 6) rfl (zI_add _ _) (by decide) rfl (fun ls hl => ?_)
                          refine lv_goto (tgt := 31) hx hb dX9_settles_169 (by decide) ?_
                          have hf56 : f20 (h) = .inr (11, [.int (zI (Z 0)), .ref (h + 1), .ref (h + 2), .ref (h + 3), .ref (h + 4), .ref (h + 5), .ref (h + 6), .ref (h + 7), .ref (h + 8), .int (zI (Z 9)), .int (zI (Z 10)), .int (zI (Z 11)), .int (zI (Z 12)), .int (zI (Z 13)), .int (zI (Z 14)), .int (zI (Z 15)), .int (zI (Z 16)), .ref (h + 9), .ref (h + 10), .ref (h + 11), .int (zI (Z 20)), .int (zI (Z 21)), .int (zI (Z 22)), .ref (h + 12)]) := (o23 (h) (by omega)).trans hL0
                          have hf57 := hL3.kept (o23 (h + 10) (by omega))
                          have hf58 := hL4.kept (o23 (h + 9) (by omega))
                          exact ih31 (i + 1) mk an q3 Pb U3 f20 _ _ _ (by omega) (by omega) (by rw [sIt_succ, ← hst]; simp only [sLkT]; rw [if_neg (fun hh => by have := hh.2.2; omega)]) hq3 hmk hwk hlkb hk9 hbs hU3 hpm (fun q hq => ((o23 (q) (by omega)).trans (hfr (q) (by omega)))) hM hf56 hp55 hf57 hf58 (lv_sub hl [5, 6, 0] rfl)
                      · skip
                        refine lv_goto (tgt := 166) hx hb dX9_settles_92 (by decide) ?_
                        refine lv_iinc (v := zI ((↑i : Int) + 1)) (lv' := [(2, .int (zI ((↑i : Int) + 1))), (5, .long (zL (sOver Pb i))), (4, .int (zI (11 + (4 * (↑s0 : Int))))), (3, .int (zI (69 + (5 * (↑i : Int))))), (0, .ref h), (1, .int (zI q3))]) hx hb dX9_settles_166 hl (k := 5) rfl (zI_add _ _) (by decide) rfl (fun ls hl => ?_)
                        refine lv_goto (tgt := 31) hx hb dX9_settles_169 (by decide) ?_
                        exact ih31 (i + 1) mk an q3 Pb U3 fL _ _ _ (by omega) (by omega) (by rw [sIt_succ, ← hst]; simp only [sLkT]; rw [if_neg (fun hh => by have := hh.2.1; omega)]) hq3 hmk hwk hlkb hk9 hbs hU3 hpm (fun q hq => (hfr (q) (by omega))) hM hL0 hL1 hL3 hL4 (lv_sub hl [4, 5, 0] rfl)
              exact lp31 (7) 0 m0 false 0 Pa Ua fL _ _ _ (by omega) (by omega) rfl rfl hm0 hwa hla rfl rfl hUa (by show pcn m0 + 0 ≤ pcn m0; omega) (fun q hq => (hfr (q) (by omega))) hM hL0 hL1 hL3 hL4 (lv_sub hl [2, 1, 0] rfl)
        exact lp23 (9) 0 0 false 1 P U2 fL _ _ _ (by omega) (by omega) rfl rfl (by omega) hws hlo (fun k hk => by rw [hU2 k (by omega)]; simp) (fun _ => Nat.zero_le _) (fun q hq => (hfr (q) (by omega))) hM hL0 hL1 hL3 hL4 (lv_sub hl [1, 0] rfl)
      · skip
        refine lv_aload_n hx hb dX9_settles_8 rfl (lv_at hl 0 rfl) ?_
        refine g_get (ci := 11) (v := .ref (h + 10)) (C := RX9) (T := TX9) (N := 24) hx hb hts iU_X9 hown hK hM ⟨by omega, by omega⟩ hL0 rfl 18 (by decide) (hts _ u_1162) (fun _ h9 => h9) rfl dX9_settles_9 ?_
        refine lv_iload_n hx hb dX9_settles_12 rfl (lv_at hl 1 rfl) ?_
        refine g_iconst hx hb dX9_settles_13 ?_
        refine g_zast hx hb hK hM ⟨by omega, by omega⟩ hL3 (by decide) (by omega) (by omega) (by decide) dX9_settles_14 (fun f59 H locs hM ha61 o60 => ?_)
        refine lv_iinc (v := zI ((↑i : Int) + 1)) (lv' := [(1, .int (zI ((↑i : Int) + 1))), (0, .ref h)]) hx hb dX9_settles_15 hl (k := 1) rfl (zI_add _ _) (by decide) rfl (fun ls hl => ?_)
        refine lv_goto (tgt := 2) hx hb dX9_settles_18 (by decide) ?_
        have hf62 : f59 (h) = .inr (11, [.int (zI (Z 0)), .ref (h + 1), .ref (h + 2), .ref (h + 3), .ref (h + 4), .ref (h + 5), .ref (h + 6), .ref (h + 7), .ref (h + 8), .int (zI (Z 9)), .int (zI (Z 10)), .int (zI (Z 11)), .int (zI (Z 12)), .int (zI (Z 13)), .int (zI (Z 14)), .int (zI (Z 15)), .int (zI (Z 16)), .ref (h + 9), .ref (h + 10), .ref (h + 11), .int (zI (Z 20)), .int (zI (Z 21)), .int (zI (Z 22)), .ref (h + 12)]) := (o60 (h) (by omega)).trans hL0
        have hf63 := hL1.kept (fun q h1 h2 => (o60 (q) (by omega)))
        have hf64 := hL4.kept (o60 (h + 9) (by omega))
        exact ih2 (i + 1) (pu U2 i 0) f59 _ _ _ (by omega) (by omega) (fun k hk9 => (Classical.em (k = i)).elim (fun hz => by subst hz; exact pu_s _ _ _) (fun hz => by rw [pu_n hz]; exact hU2 k (by omega))) (fun q hq => ((o60 (q) (by omega)).trans (hfr (q) (by omega)))) hM hf62 hf63 ha61 hf64 (lv_sub hl [1, 0] rfl)
  exact lp2 (7) 0 U f _ _ _ (by omega) (by omega) (fun k hk9 => absurd hk9 (Nat.not_lt_zero _)) (fun q hq => rfl) hM hO hP hU hA (lv_sub hl [1, 0] rfl)
