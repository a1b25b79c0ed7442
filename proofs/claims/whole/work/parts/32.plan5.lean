def po_X7_endOfShares (g : gE) (f : gF) (h : Nat) (P : Nat → Int) (r : Nat) : Int32 → gF → Prop := fun r1 f1 => r1 = zI ((r + sRun P 6 r : Nat) : Int) ∧ f = f1
set_option maxRecDepth 100000 in
set_option maxHeartbeats 1000000 in
/-- endOfShares(r) -/
theorem c_X7_endOfShares (l : Launch) (g : gE) (b0 n : Nat) (f : gF) (h : Nat) (P : Nat → Int) (r : Nat) (hE : ruleAt g f h P) (hrg : b0 ≤ h ∧ h + 4 ≤ b0 + n) (hcn : 0 ≤ P 8 ∧ P 8 ≤ 6) (hr6 : (r : Int) < P 8) (hkd : ∀ j : Nat, (j : Int) < P 8 → rI (P (51 + 3 * j))) : cI l yX7_endOfShares cX7_endOfShares 3 (some .int) 0 0 [.ref h, .int (zI (↑r : Int))] g b0 n f (po_X7_endOfShares g f h P r) := by
  refine gs_i (cc := cX7_endOfShares) (maxL := 3) (ret := (some .int)) (by decide) (Nat.le_of_ble_eq_true rfl) ?_
  intro p e0 s m args below meth c ls hx hb hr hml hown hts hlk hK hM hl
  have hl : lv_has ls 3 [(0, .ref h), (1, .int (zI (↑r : Int)))] := hl
  have hzn := hcn.1
  have hzm := hcn.2
  refine lv_iload_n hx hb dX7_endOfShares_0 rfl (lv_at hl 1 rfl) ?_
  refine lv_istore_n (lv' := [(2, .int (zI (↑r : Int))), (0, .ref h), (1, .int (zI (↑r : Int)))]) hx hb dX7_endOfShares_1 rfl hl (by decide) rfl (fun ls hl => ?_)
  have lp2 : ∀ (k : Nat), ∀ (i : Nat) (ls : Array Slot), (6 - i < k) → (r ≤ i) → ((i : Int) ≤ P 8) → (∀ j : Nat, r ≤ j → j < i → (j : Int) < P 8 ∧ P (51 + 3 * j) = 4) → lv_has ls 3 [(0, .ref h), (1, .int (zI (↑r : Int))), (2, .int (zI (↑i : Int)))] → W p l e0 { frames := 0, cells := 0, slots := 0, locals := 0 } s m args below meth c s.heap [] 0 0 (MQ below (va_Qi (po_X7_endOfShares g f h P r) (gB g b0 n) (gA b0)) args s 0 0 (gA b0)) (F0 m 2 ls []) := by
    intro k
    induction k with
    | zero =>
      intro i ls hk hi1 hi hkk hl
      exact absurd hk (Nat.not_lt_zero _)
    | succ k ih =>
      intro i ls hk hi1 hi hkk hl
      refine lv_iload_n hx hb dX7_endOfShares_2 rfl (lv_at hl 2 rfl) ?_
      refine g_if_lt (tgt := 36) hx hb dX7_endOfShares_3 (by decide) ⟨by omega, by omega⟩ (fun c3 => ?_) (fun c3 => ?_)
      · skip
        refine lv_iload_n hx hb dX7_endOfShares_36 rfl (lv_at hl 2 rfl) ?_
        refine g_iret hx hb hr hlk hK hM dX7_endOfShares_37 ?_
        refine ⟨?_, rfl⟩
        rw [sRun_eq (i := i) (by omega) (by omega) hkk (by omega)]
        exact congrArg zI (by omega)
      · skip
        refine lv_iload_n hx hb dX7_endOfShares_6 rfl (lv_at hl 2 rfl) ?_
        refine lv_aload_n hx hb dX7_endOfShares_7 rfl (lv_at hl 0 rfl) ?_
        obtain ⟨ho1, ho2, ho3, ho4⟩ := id hE
        refine g_get (ci := 9) (v := .int (zI (P 8))) (C := RX7) (T := TX7) (N := 4) hx hb hts iU_X7 hown hK hM ⟨by omega, by omega⟩ ho1 rfl 3 (by decide) (hts _ u_87) (fun _ h9 => h9) rfl dX7_endOfShares_8 ?_
        refine g_icmp_ge (tgt := 36) hx hb dX7_endOfShares_11 (by decide) ⟨by omega, by omega⟩ ⟨by omega, by omega⟩ (fun c11 => ?_) (fun c11 => ?_)
        · skip
          refine lv_iload_n hx hb dX7_endOfShares_36 rfl (lv_at hl 2 rfl) ?_
          refine g_iret hx hb hr hlk hK hM dX7_endOfShares_37 ?_
          refine ⟨?_, rfl⟩
          rw [sRun_eq (i := i) (by omega) (by omega) hkk (by omega)]
          exact congrArg zI (by omega)
        · skip
          refine lv_iload_n hx hb dX7_endOfShares_14 rfl (lv_at hl 2 rfl) ?_
          refine g_bipush hx hb dX7_endOfShares_15 (by decide) ?_
          refine g_icmp_ge (tgt := 36) hx hb dX7_endOfShares_17 (by decide) ⟨by omega, by omega⟩ (by decide) (fun c17 => ?_) (fun c17 => ?_)
          · skip
            refine lv_iload_n hx hb dX7_endOfShares_36 rfl (lv_at hl 2 rfl) ?_
            refine g_iret hx hb hr hlk hK hM dX7_endOfShares_37 ?_
            refine ⟨?_, rfl⟩
            rw [sRun_eq (i := i) (by omega) (by omega) hkk (by omega)]
            exact congrArg zI (by omega)
          · skip
            refine lv_aload_n hx hb dX7_endOfShares_20 rfl (lv_at hl 0 rfl) ?_
            refine g_get (ci := 9) (v := .ref (h + 1)) (C := RX7) (T := TX7) (N := 4) hx hb hts iU_X7 hown hK hM ⟨by omega, by omega⟩ ho1 rfl 0 (by decide) (hts _ u_81) (fun _ h9 => h9) rfl dX7_endOfShares_21 ?_
            refine lv_iload_n hx hb dX7_endOfShares_24 rfl (lv_at hl 2 rfl) ?_
            refine g_iald hx hb hK hM ⟨by omega, by omega⟩ ho2 (by omega) (by omega) (by decide) dX7_endOfShares_25 ?_
            show W _ _ _ _ _ _ _ _ _ _ _ _ _ _ _ (F0 _ _ _ (.int (zI (P (51 + 3 * i))) :: _))
            refine g_iconst hx hb dX7_endOfShares_26 ?_
            refine g_icmp_ne (tgt := 36) hx hb dX7_endOfShares_27 (by decide) (hkd i (by omega)) (by decide) (fun c27 => ?_) (fun c27 => ?_)
            · skip
              refine lv_iload_n hx hb dX7_endOfShares_36 rfl (lv_at hl 2 rfl) ?_
              refine g_iret hx hb hr hlk hK hM dX7_endOfShares_37 ?_
              refine ⟨?_, rfl⟩
              rw [sRun_eq (i := i) (by omega) (by omega) hkk (by omega)]
              exact congrArg zI (by omega)
            · skip
              refine lv_iinc (v := zI ((↑i : Int) + 1)) (lv' := [(2, .int (zI ((↑i : Int) + 1))), (0, .ref h), (1, .int (zI (↑r : Int)))]) hx hb dX7_endOfShares_30 hl (k := 2) rfl (zI_add _ _) (by decide) rfl (fun ls hl => ?_)
              refine lv_goto (tgt := 2) hx hb dX7_endOfShares_33 (by decide) ?_
              exact ih (i + 1) _ (by omega) (by omega) (by omega) (fun j a b => (Nat.lt_or_ge j i).elim (fun q => hkk j a q) (fun q => by rw [show j = i by omega]; exact ⟨by omega, by omega⟩)) (lv_sub hl [1, 2, 0] rfl)
  exact lp2 (7) r _ (by omega) (by omega) (by omega) (fun j a b => absurd b (by omega)) (lv_sub hl [1, 2, 0] rfl)

def po_X5_shareOut (g : gE) (f : gF) (h : Nat) (P : Nat → Int) (r0 mm : Nat) (x : Int) : Int64 → gF → Prop := fun r1 f1 => r1 = zL (sShare P r0 mm x).1 ∧ planAt g f1 h (sShare P r0 mm x).2 ∧ ∀ q, (q < h ∨ h + 23 ≤ q) → f1 q = f q
set_option maxRecDepth 100000 in
set_option maxHeartbeats 1000000 in
/-- shareOut(first, end, left) -/
theorem c_X5_shareOut (l : Launch) (g : gE) (b0 n : Nat) (f : gF) (h : Nat) (P : Nat → Int) (r0 mm : Nat) (x : Int) (hE : planAt g f h P) (hrg : b0 ≤ h ∧ h + 23 ≤ b0 + n) (hwe : wfE P 1000000000000000) (hsh : shOk P r0 mm) (hlr : 0 ≤ x ∧ x ≤ 1000000) : cL l yX5_shareOut cX5_shareOut 14 (some .long) 1 25 [.ref h, .int (zI (↑r0 : Int)), .int (zI (↑(r0 + mm) : Int)), .long (zL x)] g b0 n f (po_X5_shareOut g f h P r0 mm x) := by
  refine gs_l (cc := cX5_shareOut) (maxL := 14) (ret := (some .long)) (by decide) (Nat.le_of_ble_eq_true rfl) ?_
  intro p e0 s m args below meth c ls hx hb hr hml hown hts hlk hK hM hl
  have hl : lv_has ls 14 [(0, .ref h), (1, .int (zI (↑r0 : Int))), (2, .int (zI (↑(r0 + mm) : Int))), (3, .long (zL x))] := hl
  have hcn7 := hwe.1
  have hzn7 := hcn7.1
  have hzm7 := hcn7.2
  have hsh1 := hsh.1
  have hsh2 := hsh.2.1
  have hlr1 := hlr.1
  have hlr2 := hlr.2
  refine lv_iload_n hx hb dX5_shareOut_0 rfl (lv_at hl 1 rfl) ?_
  refine g_if_ge (tgt := 6) hx hb dX5_shareOut_1 (by decide) ⟨by omega, by omega⟩ (fun c1 => ?_) (fun c1 => ?_)
  · skip
    refine g_lconst (z := 0) hx hb dX5_shareOut_6 (by decide) ?_
    refine lv_lstore (lv' := [(5, .long (zL 0)), (0, .ref h), (1, .int (zI (↑r0 : Int))), (2, .int (zI (↑(r0 + mm) : Int))), (3, .long (zL x))]) hx hb dX5_shareOut_7 hl (by decide) rfl (fun ls hl => ?_)
    refine lv_iload_n hx hb dX5_shareOut_9 rfl (lv_at hl 2 rfl) ?_
    refine lv_istore (lv' := [(7, .int (zI (↑r0 : Int))), (5, .long (zL 0)), (0, .ref h), (1, .int (zI (↑r0 : Int))), (2, .int (zI (↑(r0 + mm) : Int))), (3, .long (zL x))]) hx hb dX5_shareOut_10 hl (by decide) rfl (fun ls hl => ?_)
    have lp12 : ∀ (k : Nat), ∀ (i : Nat) (ls : Array Slot), (mm - i < k) → (i ≤ mm) → lv_has ls 14 [(0, .ref h), (1, .int (zI (↑r0 : Int))), (2, .int (zI (↑(r0 + mm) : Int))), (3, .long (zL x)), (5, .long (zL (sSum (fun k => P (53 + 3 * (r0 + k))) i))), (7, .int (zI (↑(r0 + i) : Int)))] → W p l e0 { frames := 1, cells := 0, slots := 0, locals := 25 } s m args below meth c s.heap [] 0 0 (MQ below (va_Ql (po_X5_shareOut g f h P r0 mm x) (gB g b0 n) (gA b0)) args s 0 0 (gA b0)) (F0 m 12 ls []) := by
      intro k
      induction k with
      | zero =>
        intro i ls hk hi hl
        exact absurd hk (Nat.not_lt_zero _)
      | succ k ih =>
        intro i ls hk hi hl
        refine lv_iload hx hb dX5_shareOut_12 (lv_at hl 5 rfl) ?_
        refine lv_iload_n hx hb dX5_shareOut_14 rfl (lv_at hl 2 rfl) ?_
        refine g_icmp_ge (tgt := 47) hx hb dX5_shareOut_15 (by decide) ⟨by omega, by omega⟩ ⟨by omega, by omega⟩ (fun c15 => ?_) (fun c15 => ?_)
        · skip
          have him : i = mm := by omega
          obtain ⟨w, hw⟩ : ∃ w : Int, (sSum (fun k => P (53 + 3 * (r0 + k))) i) = w := ⟨_, rfl⟩
          rw [hw] at hl
          have hwv : w = sWt P r0 mm := by rw [← hw, him]; rfl
          have hwp := sWt_in hsh mm (Nat.le_refl mm)
          rw [← hwv] at hwp
          have hw1 : 1 ≤ w := by omega
          clear hw
          refine lv_lload hx hb dX5_shareOut_47 (lv_at hl 4 rfl) ?_
          refine g_lconst (z := 0) hx hb dX5_shareOut_49 (by decide) ?_
          refine g_lcmp_gt (tgt := 56) hx hb dX5_shareOut_50 dX5_shareOut_51 (by decide) ⟨by omega, by omega⟩ (by decide) (fun c50 => ?_) (fun c50 => ?_)
          · skip
            refine lv_lload_n hx hb dX5_shareOut_56 rfl (lv_at hl 3 rfl) ?_
            refine lv_lstore (lv' := [(7, .long (zL x)), (0, .ref h), (1, .int (zI (↑r0 : Int))), (2, .int (zI (↑(r0 + mm) : Int))), (3, .long (zL x)), (5, .long (zL w))]) hx hb dX5_shareOut_57 hl (by decide) rfl (fun ls hl => ?_)
            refine lv_iload_n hx hb dX5_shareOut_59 rfl (lv_at hl 2 rfl) ?_
            refine lv_istore (lv' := [(9, .int (zI (↑r0 : Int))), (7, .long (zL x)), (0, .ref h), (1, .int (zI (↑r0 : Int))), (2, .int (zI (↑(r0 + mm) : Int))), (3, .long (zL x)), (5, .long (zL w))]) hx hb dX5_shareOut_60 hl (by decide) rfl (fun ls hl => ?_)
            have lp62 : ∀ (k2 : Nat), ∀ (i2 : Nat) (cv : Int) (ls : Array Slot), (mm - i2 < k2) → (i2 ≤ mm) → (cv = x - sSum (fun k => sPt P x w (r0 + k)) i2) → lv_has ls 14 [(0, .ref h), (1, .int (zI (↑r0 : Int))), (2, .int (zI (↑(r0 + mm) : Int))), (3, .long (zL x)), (5, .long (zL w)), (7, .long (zL cv)), (9, .int (zI (↑(r0 + i2) : Int)))] → W p l e0 { frames := 1, cells := 0, slots := 0, locals := 25 } s m args below meth c s.heap [] 0 0 (MQ below (va_Ql (po_X5_shareOut g f h P r0 mm x) (gB g b0 n) (gA b0)) args s 0 0 (gA b0)) (F0 m 62 ls []) := by
              intro k2
              induction k2 with
              | zero =>
                intro i2 cv ls hk hi2 hcv hl
                exact absurd hk (Nat.not_lt_zero _)
              | succ k2 ih =>
                intro i2 cv ls hk hi2 hcv hl
                refine lv_iload hx hb dX5_shareOut_62 (lv_at hl 6 rfl) ?_
                refine lv_iload_n hx hb dX5_shareOut_64 rfl (lv_at hl 2 rfl) ?_
                refine g_icmp_ge (tgt := 102) hx hb dX5_shareOut_65 (by decide) ⟨by omega, by omega⟩ ⟨by omega, by omega⟩ (fun c65 => ?_) (fun c65 => ?_)
                · skip
                  have him2 : i2 = mm := by omega
                  have hpi := sPts_in hsh hlr1 hlr2 hw1 i2 (by omega)
                  have hcvb : -600000000 ≤ cv ∧ cv ≤ 1000000 := by omega
                  refine g_lconst (z := 0) hx hb dX5_shareOut_102 (by decide) ?_
                  refine lv_lstore (lv' := [(9, .long (zL 0)), (0, .ref h), (1, .int (zI (↑r0 : Int))), (2, .int (zI (↑(r0 + mm) : Int))), (3, .long (zL x)), (5, .long (zL w)), (7, .long (zL cv))]) hx hb dX5_shareOut_103 hl (by decide) rfl (fun ls hl => ?_)
                  refine lv_iload_n hx hb dX5_shareOut_105 rfl (lv_at hl 2 rfl) ?_
                  refine lv_istore (lv' := [(11, .int (zI (↑r0 : Int))), (9, .long (zL 0)), (0, .ref h), (1, .int (zI (↑r0 : Int))), (2, .int (zI (↑(r0 + mm) : Int))), (3, .long (zL x)), (5, .long (zL w)), (7, .long (zL cv))]) hx hb dX5_shareOut_106 hl (by decide) rfl (fun ls hl => ?_)
                  have lp108 : ∀ (k3 : Nat), ∀ (i : Nat) (rs : Int) (tk : Int) (Pk : Nat → Int) (fL : gF) (H : Heap) (locs : List Loc) (ls : Array Slot), (mm - i < k3) → (i ≤ mm) → ((rs, tk, Pk) = sIt (sShT P x w r0) (cv, 0, P) i) → (wfE Pk (1000000000000000 + i * 1000000000)) → (∀ j, 51 ≤ j → Pk j = P j) → (Pk 7 = P 7) → (cv - i ≤ rs ∧ rs ≤ cv) → (∀ q, (q < h ∨ h + 23 ≤ q) → fL q = f q) → gH g b0 n fL s.heap H locs → (planAt g fL h Pk) → lv_has ls 14 [(0, .ref h), (1, .int (zI (↑r0 : Int))), (2, .int (zI (↑(r0 + mm) : Int))), (3, .long (zL x)), (5, .long (zL w)), (7, .long (zL rs)), (9, .long (zL tk)), (11, .int (zI (↑(r0 + i) : Int)))] → W p l e0 { frames := 1, cells := 0, slots := 0, locals := 25 } s m args below meth c H locs 0 0 (MQ below (va_Ql (po_X5_shareOut g f h P r0 mm x) (gB g b0 n) (gA b0)) args s 0 0 (gA b0)) (F0 m 108 ls []) := by
                    intro k3
                    induction k3 with
                    | zero =>
                      intro i rs tk Pk fL H locs ls hk hi3 hst hwk hkp hwk7 hrs hfr hM hL hl
                      exact absurd hk (Nat.not_lt_zero _)
                    | succ k3 ih =>
                      intro i rs tk Pk fL H locs ls hk hi3 hst hwk hkp hwk7 hrs hfr hM hL hl
                      refine lv_iload hx hb dX5_shareOut_108 (lv_at hl 7 rfl) ?_
                      refine lv_iload_n hx hb dX5_shareOut_110 rfl (lv_at hl 2 rfl) ?_
                      refine g_icmp_ge (tgt := 188) hx hb dX5_shareOut_111 (by decide) ⟨by omega, by omega⟩ ⟨by omega, by omega⟩ (fun c111 => ?_) (fun c111 => ?_)
                      · skip
                        refine lv_lload hx hb dX5_shareOut_188 (lv_at hl 6 rfl) ?_
                        refine g_lret hx hb hr hlk hK hM dX5_shareOut_190 ?_
                        have him3 : i = mm := by omega
                        have hS : sShare P r0 mm x = (tk, Pk) := by
                          have hcv2 : x - sSum (fun k => sPt P x w (r0 + k)) mm = cv := by rw [hcv, him2]
                          unfold sShare
                          simp only [← hwv, hcv2]
                          rw [← him3, ← hst]
                        refine ⟨by rw [hS], ?_, (fun q hq => (hfr (q) (by omega)))⟩
                        rw [hS]
                        exact hL
                      · skip
                        obtain ⟨hn1, hn2, hn3, hn4⟩ := hsh.2.2 i (by omega)
                        have hpx := shp_ok hlr1 hlr2 hn3 hn4 hw1
                        obtain ⟨t0, ht0⟩ : ∃ q : Nat, P (52 + 3 * (r0 + i)) = q := ⟨(P (52 + 3 * (r0 + i))).toNat, by omega⟩
                        obtain ⟨⟨hz1, hz2⟩, ⟨hz3, hz4⟩, hz5⟩ := hwk.2 t0 (by omega)
                        have hk53 : Pk (53 + 3 * (r0 + i)) = P (53 + 3 * (r0 + i)) := hkp _ (by omega)
                        have hk52 : Pk (52 + 3 * (r0 + i)) = (t0 : Int) := (hkp _ (by omega)).trans ht0
                        have hpx1 := hpx.2.1
                        have hpx2 := hpx.2.2
                        refine lv_iload hx hb dX5_shareOut_114 (lv_at hl 7 rfl) ?_
                        refine g_bipush hx hb dX5_shareOut_116 (by decide) ?_
                        refine g_icmp_ge (tgt := 188) hx hb dX5_shareOut_118 (by decide) ⟨by omega, by omega⟩ (by decide) (fun c118 => ?_) (fun c118 => ?_)
                        · skip
                          refine lv_lload hx hb dX5_shareOut_188 (lv_at hl 6 rfl) ?_
                          refine g_lret hx hb hr hlk hK hM dX5_shareOut_190 ?_
                          have him3 : i = mm := by omega
                          have hS : sShare P r0 mm x = (tk, Pk) := by
                            have hcv2 : x - sSum (fun k => sPt P x w (r0 + k)) mm = cv := by rw [hcv, him2]
                            unfold sShare
                            simp only [← hwv, hcv2]
                            rw [← him3, ← hst]
                          refine ⟨by rw [hS], ?_, (fun q hq => (hfr (q) (by omega)))⟩
                          rw [hS]
                          exact hL
                        · skip
                          refine lv_lload_n hx hb dX5_shareOut_121 rfl (lv_at hl 3 rfl) ?_
                          refine lv_aload_n hx hb dX5_shareOut_122 rfl (lv_at hl 0 rfl) ?_
                          obtain ⟨ho1, ho2, ho3, ho4, ho5⟩ := id hL
                          refine g_get (ci := 7) (v := .ref (h + 6)) (C := RX5) (T := TX5) (N := 11) hx hb hts iU_X5 hown hK hM ⟨by omega, by omega⟩ ho1 rfl 1 (by decide) (hts _ u_166) (fun _ h9 => h9) rfl dX5_shareOut_123 ?_
                          obtain ⟨ho6, ho7, ho8, ho9⟩ := id ho3
                          refine g_getN (ci := 9) (v := .ref (h + 6 + 3)) (C := RX7) (T := TX7) (N := 4) hx hb hts iU_X7 hown hK hM ⟨by omega, by omega⟩ ho6 rfl 2 (by decide) (hts _ u_86) (fun _ h9 => h9) rfl dX5_shareOut_126 ?_
                          refine lv_iload hx hb dX5_shareOut_129 (lv_at hl 7 rfl) ?_
                          refine g_iald hx hb hK hM ⟨by omega, by omega⟩ ho9 (by omega) (by omega) (by decide) dX5_shareOut_131 ?_
                          show W _ _ _ _ _ _ _ _ _ _ _ _ _ _ _ (F0 _ _ _ (.int (zI (Pk (53 + 3 * (r0 + i)))) :: _))
                          rw [hk53]
                          refine g_i2l hx hb dX5_shareOut_132 ⟨by omega, by omega⟩ ?_
                          refine g_lmul hx hb dX5_shareOut_133 ?_
                          refine lv_lload hx hb dX5_shareOut_134 (lv_at hl 4 rfl) ?_
                          refine g_ldiv hx hb dX5_shareOut_136 hpx.1 ⟨by omega, by omega⟩ (by omega) ?_
                          refine lv_lstore (lv' := [(12, .long (zL (Int.tdiv (x * (P (53 + 3 * (r0 + i)))) w))), (0, .ref h), (1, .int (zI (↑r0 : Int))), (2, .int (zI (↑(r0 + mm) : Int))), (3, .long (zL x)), (5, .long (zL w)), (7, .long (zL rs)), (9, .long (zL tk)), (11, .int (zI (↑(r0 + i) : Int)))]) hx hb dX5_shareOut_137 hl (by decide) rfl (fun ls hl => ?_)
                          refine lv_lload hx hb dX5_shareOut_139 (lv_at hl 6 rfl) ?_
                          refine g_lconst (z := 0) hx hb dX5_shareOut_141 (by decide) ?_
                          refine g_lcmp_le (tgt := 158) hx hb dX5_shareOut_142 dX5_shareOut_143 (by decide) ⟨by omega, by omega⟩ (by decide) (fun c142 => ?_) (fun c142 => ?_)
                          · skip
                            refine lv_lload hx hb dX5_shareOut_158 (lv_at hl 7 rfl) ?_
                            refine lv_aload_n hx hb dX5_shareOut_160 rfl (lv_at hl 1 rfl) ?_
                            refine g_get (ci := 7) (v := .ref (h + 1)) (C := RX5) (T := TX5) (N := 11) hx hb hts iU_X5 hown hK hM ⟨by omega, by omega⟩ ho1 rfl 0 (by decide) (hts _ u_164) (fun _ h9 => h9) rfl dX5_shareOut_161 ?_
                            refine lv_aload_n hx hb dX5_shareOut_164 rfl (lv_at hl 1 rfl) ?_
                            refine g_get (ci := 7) (v := .ref (h + 6)) (C := RX5) (T := TX5) (N := 11) hx hb hts iU_X5 hown hK hM ⟨by omega, by omega⟩ ho1 rfl 1 (by decide) (hts _ u_166) (fun _ h9 => h9) rfl dX5_shareOut_165 ?_
                            refine g_getN (ci := 9) (v := .ref (h + 6 + 2)) (C := RX7) (T := TX7) (N := 4) hx hb hts iU_X7 hown hK hM ⟨by omega, by omega⟩ ho6 rfl 1 (by decide) (hts _ u_84) (fun _ h9 => h9) rfl dX5_shareOut_168 ?_
                            refine lv_iload hx hb dX5_shareOut_171 (lv_at hl 8 rfl) ?_
                            refine g_iald hx hb hK hM ⟨by omega, by omega⟩ ho8 (by omega) (by omega) (by decide) dX5_shareOut_173 ?_
                            show W _ _ _ _ _ _ _ _ _ _ _ _ _ _ _ (F0 _ _ _ (.int (zI (Pk (52 + 3 * (r0 + i)))) :: _))
                            rw [hk52]
                            refine lv_lload hx hb dX5_shareOut_174 (lv_at hl 0 rfl) ?_
                            have hax : 0 ≤ (Int.tdiv (x * (P (53 + 3 * (r0 + i)))) w) ∧ (Int.tdiv (x * (P (53 + 3 * (r0 + i)))) w) ≤ 1000000000 := by omega
                            have hC12 := c_X2_putWhatFits l g b0 n fL (h + 1) Pk t0 (Int.tdiv (x * (P (53 + 3 * (r0 + i)))) w) ho2 ⟨by omega, by omega⟩ hwk.1 (by rw [hwk7]; omega) ⟨by omega, by omega⟩ ⟨by omega, by omega⟩ ⟨by omega, by omega⟩
                            obtain ⟨ho15, ho16, ho17, ho18, ho19⟩ := id ho2
                            refine g_callVl (ci := 4) (C := RX2) (T := TX2) (N := 5) (As := [.int (zI (↑t0 : Int)), .long (zL (Int.tdiv (x * (P (53 + 3 * (r0 + i)))) w))]) (rest := [.long (zL tk)]) ⟨hx, hb, hml, hown, hts⟩ hK hM hC12 (cuV (n := 2) hts u_495 u_492 u_5 (by decide) u_493 u_494 ⟨Nat.le_of_ble_eq_true rfl, Nat.le_of_ble_eq_true rfl⟩) ⟨by omega, by omega⟩ ho15 rfl rfl hl.1 rfl (Nat.le_of_ble_eq_true rfl) dX5_shareOut_176 ⟨Nat.zero_le _, Nat.zero_le _⟩ (fun r176 f13 H locs hM hp14 => ?_)
                            obtain ⟨rfl, hn11, o10⟩ := hp14
                            obtain ⟨P1, hP1⟩ : ∃ Q : Nat → Int, Q = sPut Pk t0 (Int.tdiv (x * (P (53 + 3 * (r0 + i)))) w) := ⟨_, rfl⟩
                            rw [← hP1] at hn11
                            have hp20 := planAt.env (P' := P1) hL hn11 o10 (fun i hi => by rw [hP1]; unfold sPut; (repeat (first | rw [pu_s] | rw [pu_n (by omega)] | rw [Int.toNat_natCast])))
                            refine g_ladd hx hb dX5_shareOut_179 ?_
                            refine lv_lstore (lv' := [(9, .long (zL (tk + (sIs Pk t0 (Int.tdiv (x * (P (53 + 3 * (r0 + i)))) w))))), (12, .long (zL (Int.tdiv (x * (P (53 + 3 * (r0 + i)))) w))), (0, .ref h), (1, .int (zI (↑r0 : Int))), (2, .int (zI (↑(r0 + mm) : Int))), (3, .long (zL x)), (5, .long (zL w)), (7, .long (zL rs)), (11, .int (zI (↑(r0 + i) : Int)))]) hx hb dX5_shareOut_180 hl (by decide) rfl (fun ls hl => ?_)
                            refine lv_iinc (v := zI ((↑(r0 + i) : Int) + 1)) (lv' := [(11, .int (zI ((↑(r0 + i) : Int) + 1))), (9, .long (zL (tk + (sIs Pk t0 (Int.tdiv (x * (P (53 + 3 * (r0 + i)))) w))))), (12, .long (zL (Int.tdiv (x * (P (53 + 3 * (r0 + i)))) w))), (0, .ref h), (1, .int (zI (↑r0 : Int))), (2, .int (zI (↑(r0 + mm) : Int))), (3, .long (zL x)), (5, .long (zL w)), (7, .long (zL rs))]) hx hb dX5_shareOut_182 hl (k := 8) rfl (zI_add _ _) (by decide) rfl (fun ls hl => ?_)
                            refine lv_goto (tgt := 108) hx hb dX5_shareOut_185 (by decide) ?_
                            obtain ⟨ho21, ho22, ho23, ho24, ho25⟩ := id hp20
                            exact ih (i + 1) rs (tk + (sIs Pk t0 (Int.tdiv (x * (P (53 + 3 * (r0 + i)))) w))) P1 f13 _ _ _ (by omega) (by omega) (by rw [sIt_succ, ← hst, hP1]; simp only [sShT, sPt, ht0, Int.toNat_natCast, if_neg (show ¬ 0 < rs by omega), Int.add_zero, Int.sub_zero]) (by rw [hP1]; exact wfE_mono (wfE_put hwk hax.1 hax.2 (by omega)) (by omega)) (fun j hj => by rw [hP1, sPut_n (by omega)]; exact hkp j hj) (by rw [hP1, sPut_n (by omega)]; exact hwk7) (by omega) (fun q hq => ((o10 (q) (by omega)).trans (hfr (q) (by omega)))) hM hp20 (lv_sub hl [3, 4, 5, 6, 7, 8, 1, 0] rfl)
                          · skip
                            refine lv_lload hx hb dX5_shareOut_146 (lv_at hl 0 rfl) ?_
                            refine g_lconst (z := 1) hx hb dX5_shareOut_148 (by decide) ?_
                            refine g_ladd hx hb dX5_shareOut_149 ?_
                            refine lv_lstore (lv' := [(12, .long (zL ((Int.tdiv (x * (P (53 + 3 * (r0 + i)))) w) + 1))), (0, .ref h), (1, .int (zI (↑r0 : Int))), (2, .int (zI (↑(r0 + mm) : Int))), (3, .long (zL x)), (5, .long (zL w)), (7, .long (zL rs)), (9, .long (zL tk)), (11, .int (zI (↑(r0 + i) : Int)))]) hx hb dX5_shareOut_150 hl (by decide) rfl (fun ls hl => ?_)
                            refine lv_lload hx hb dX5_shareOut_152 (lv_at hl 6 rfl) ?_
                            refine g_lconst (z := 1) hx hb dX5_shareOut_154 (by decide) ?_
                            refine g_lsub hx hb dX5_shareOut_155 ?_
                            refine lv_lstore (lv' := [(7, .long (zL (rs - 1))), (12, .long (zL ((Int.tdiv (x * (P (53 + 3 * (r0 + i)))) w) + 1))), (0, .ref h), (1, .int (zI (↑r0 : Int))), (2, .int (zI (↑(r0 + mm) : Int))), (3, .long (zL x)), (5, .long (zL w)), (9, .long (zL tk)), (11, .int (zI (↑(r0 + i) : Int)))]) hx hb dX5_shareOut_156 hl (by decide) rfl (fun ls hl => ?_)
                            refine lv_lload hx hb dX5_shareOut_158 (lv_at hl 7 rfl) ?_
                            refine lv_aload_n hx hb dX5_shareOut_160 rfl (lv_at hl 2 rfl) ?_
                            refine g_get (ci := 7) (v := .ref (h + 1)) (C := RX5) (T := TX5) (N := 11) hx hb hts iU_X5 hown hK hM ⟨by omega, by omega⟩ ho1 rfl 0 (by decide) (hts _ u_164) (fun _ h9 => h9) rfl dX5_shareOut_161 ?_
                            refine lv_aload_n hx hb dX5_shareOut_164 rfl (lv_at hl 2 rfl) ?_
                            refine g_get (ci := 7) (v := .ref (h + 6)) (C := RX5) (T := TX5) (N := 11) hx hb hts iU_X5 hown hK hM ⟨by omega, by omega⟩ ho1 rfl 1 (by decide) (hts _ u_166) (fun _ h9 => h9) rfl dX5_shareOut_165 ?_
                            refine g_getN (ci := 9) (v := .ref (h + 6 + 2)) (C := RX7) (T := TX7) (N := 4) hx hb hts iU_X7 hown hK hM ⟨by omega, by omega⟩ ho6 rfl 1 (by decide) (hts _ u_84) (fun _ h9 => h9) rfl dX5_shareOut_168 ?_
                            refine lv_iload hx hb dX5_shareOut_171 (lv_at hl 8 rfl) ?_
                            refine g_iald hx hb hK hM ⟨by omega, by omega⟩ ho8 (by omega) (by omega) (by decide) dX5_shareOut_173 ?_
                            show W _ _ _ _ _ _ _ _ _ _ _ _ _ _ _ (F0 _ _ _ (.int (zI (Pk (52 + 3 * (r0 + i)))) :: _))
                            rw [hk52]
                            refine lv_lload hx hb dX5_shareOut_174 (lv_at hl 1 rfl) ?_
                            have hax : 0 ≤ ((Int.tdiv (x * (P (53 + 3 * (r0 + i)))) w) + 1) ∧ ((Int.tdiv (x * (P (53 + 3 * (r0 + i)))) w) + 1) ≤ 1000000000 := by omega
                            have hC28 := c_X2_putWhatFits l g b0 n fL (h + 1) Pk t0 ((Int.tdiv (x * (P (53 + 3 * (r0 + i)))) w) + 1) ho2 ⟨by omega, by omega⟩ hwk.1 (by rw [hwk7]; omega) ⟨by omega, by omega⟩ ⟨by omega, by omega⟩ ⟨by omega, by omega⟩
                            obtain ⟨ho31, ho32, ho33, ho34, ho35⟩ := id ho2
                            refine g_callVl (ci := 4) (C := RX2) (T := TX2) (N := 5) (As := [.int (zI (↑t0 : Int)), .long (zL ((Int.tdiv (x * (P (53 + 3 * (r0 + i)))) w) + 1))]) (rest := [.long (zL tk)]) ⟨hx, hb, hml, hown, hts⟩ hK hM hC28 (cuV (n := 2) hts u_495 u_492 u_5 (by decide) u_493 u_494 ⟨Nat.le_of_ble_eq_true rfl, Nat.le_of_ble_eq_true rfl⟩) ⟨by omega, by omega⟩ ho31 rfl rfl hl.1 rfl (Nat.le_of_ble_eq_true rfl) dX5_shareOut_176 ⟨Nat.zero_le _, Nat.zero_le _⟩ (fun r176 f29 H locs hM hp30 => ?_)
                            obtain ⟨rfl, hn27, o26⟩ := hp30
                            obtain ⟨P1, hP1⟩ : ∃ Q : Nat → Int, Q = sPut Pk t0 ((Int.tdiv (x * (P (53 + 3 * (r0 + i)))) w) + 1) := ⟨_, rfl⟩
                            rw [← hP1] at hn27
                            have hp36 := planAt.env (P' := P1) hL hn27 o26 (fun i hi => by rw [hP1]; unfold sPut; (repeat (first | rw [pu_s] | rw [pu_n (by omega)] | rw [Int.toNat_natCast])))
                            refine g_ladd hx hb dX5_shareOut_179 ?_
                            refine lv_lstore (lv' := [(9, .long (zL (tk + (sIs Pk t0 ((Int.tdiv (x * (P (53 + 3 * (r0 + i)))) w) + 1))))), (7, .long (zL (rs - 1))), (12, .long (zL ((Int.tdiv (x * (P (53 + 3 * (r0 + i)))) w) + 1))), (0, .ref h), (1, .int (zI (↑r0 : Int))), (2, .int (zI (↑(r0 + mm) : Int))), (3, .long (zL x)), (5, .long (zL w)), (11, .int (zI (↑(r0 + i) : Int)))]) hx hb dX5_shareOut_180 hl (by decide) rfl (fun ls hl => ?_)
                            refine lv_iinc (v := zI ((↑(r0 + i) : Int) + 1)) (lv' := [(11, .int (zI ((↑(r0 + i) : Int) + 1))), (9, .long (zL (tk + (sIs Pk t0 ((Int.tdiv (x * (P (53 + 3 * (r0 + i)))) w) + 1))))), (7, .long (zL (rs - 1))), (12, .long (zL ((Int.tdiv (x * (P (53 + 3 * (r0 + i)))) w) + 1))), (0, .ref h), (1, .int (zI (↑r0 : Int))), (2, .int (zI (↑(r0 + mm) : Int))), (3, .long (zL x)), (5, .long (zL w))]) hx hb dX5_shareOut_182 hl (k := 8) rfl (zI_add _ _) (by decide) rfl (fun ls hl => ?_)
                            refine lv_goto (tgt := 108) hx hb dX5_shareOut_185 (by decide) ?_
                            obtain ⟨ho37, ho38, ho39, ho40, ho41⟩ := id hp36
                            exact ih (i + 1) (rs - 1) (tk + (sIs Pk t0 ((Int.tdiv (x * (P (53 + 3 * (r0 + i)))) w) + 1))) P1 f29 _ _ _ (by omega) (by omega) (by rw [sIt_succ, ← hst, hP1]; simp only [sShT, sPt, ht0, Int.toNat_natCast, if_pos (show 0 < rs by omega)]) (by rw [hP1]; exact wfE_mono (wfE_put hwk hax.1 hax.2 (by omega)) (by omega)) (fun j hj => by rw [hP1, sPut_n (by omega)]; exact hkp j hj) (by rw [hP1, sPut_n (by omega)]; exact hwk7) (by omega) (fun q hq => ((o26 (q) (by omega)).trans (hfr (q) (by omega)))) hM hp36 (lv_sub hl [4, 5, 6, 7, 8, 2, 1, 0] rfl)
                  obtain ⟨ho42, ho43, ho44, ho45, ho46⟩ := id hE
                  exact lp108 ((mm + 1)) 0 cv 0 P f _ _ _ (by omega) (by omega) rfl (wfE_mono hwe (by omega)) (fun j hj => rfl) rfl (by omega) (fun q hq => rfl) hM hE (lv_sub hl [2, 3, 4, 5, 6, 7, 1, 0] rfl)
                · skip
                  obtain ⟨hn1, hn2, hn3, hn4⟩ := hsh.2.2 i2 (by omega)
                  have hpx := shp_ok hlr1 hlr2 hn3 hn4 hw1
                  refine lv_iload hx hb dX5_shareOut_68 (lv_at hl 6 rfl) ?_
                  refine g_bipush hx hb dX5_shareOut_70 (by decide) ?_
                  refine g_icmp_ge (tgt := 102) hx hb dX5_shareOut_72 (by decide) ⟨by omega, by omega⟩ (by decide) (fun c72 => ?_) (fun c72 => ?_)
                  · skip
                    have him2 : i2 = mm := by omega
                    have hpi := sPts_in hsh hlr1 hlr2 hw1 i2 (by omega)
                    have hcvb : -600000000 ≤ cv ∧ cv ≤ 1000000 := by omega
                    refine g_lconst (z := 0) hx hb dX5_shareOut_102 (by decide) ?_
                    refine lv_lstore (lv' := [(9, .long (zL 0)), (0, .ref h), (1, .int (zI (↑r0 : Int))), (2, .int (zI (↑(r0 + mm) : Int))), (3, .long (zL x)), (5, .long (zL w)), (7, .long (zL cv))]) hx hb dX5_shareOut_103 hl (by decide) rfl (fun ls hl => ?_)
                    refine lv_iload_n hx hb dX5_shareOut_105 rfl (lv_at hl 2 rfl) ?_
                    refine lv_istore (lv' := [(11, .int (zI (↑r0 : Int))), (9, .long (zL 0)), (0, .ref h), (1, .int (zI (↑r0 : Int))), (2, .int (zI (↑(r0 + mm) : Int))), (3, .long (zL x)), (5, .long (zL w)), (7, .long (zL cv))]) hx hb dX5_shareOut_106 hl (by decide) rfl (fun ls hl => ?_)
                    have lp108 : ∀ (k3 : Nat), ∀ (i : Nat) (rs : Int) (tk : Int) (Pk : Nat → Int) (fL : gF) (H : Heap) (locs : List Loc) (ls : Array Slot), (mm - i < k3) → (i ≤ mm) → ((rs, tk, Pk) = sIt (sShT P x w r0) (cv, 0, P) i) → (wfE Pk (1000000000000000 + i * 1000000000)) → (∀ j, 51 ≤ j → Pk j = P j) → (Pk 7 = P 7) → (cv - i ≤ rs ∧ rs ≤ cv) → (∀ q, (q < h ∨ h + 23 ≤ q) → fL q = f q) → gH g b0 n fL s.heap H locs → (planAt g fL h Pk) → lv_has ls 14 [(0, .ref h), (1, .int (zI (↑r0 : Int))), (2, .int (zI (↑(r0 + mm) : Int))), (3, .long (zL x)), (5, .long (zL w)), (7, .long (zL rs)), (9, .long (zL tk)), (11, .int (zI (↑(r0 + i) : Int)))] → W p l e0 { frames := 1, cells := 0, slots := 0, locals := 25 } s m args below meth c H locs 0 0 (MQ below (va_Ql (po_X5_shareOut g f h P r0 mm x) (gB g b0 n) (gA b0)) args s 0 0 (gA b0)) (F0 m 108 ls []) := by
                      intro k3
                      induction k3 with
                      | zero =>
                        intro i rs tk Pk fL H locs ls hk hi3 hst hwk hkp hwk7 hrs hfr hM hL hl
                        exact absurd hk (Nat.not_lt_zero _)
                      | succ k3 ih =>
                        intro i rs tk Pk fL H locs ls hk hi3 hst hwk hkp hwk7 hrs hfr hM hL hl
                        refine lv_iload hx hb dX5_shareOut_108 (lv_at hl 7 rfl) ?_
                        refine lv_iload_n hx hb dX5_shareOut_110 rfl (lv_at hl 2 rfl) ?_
                        refine g_icmp_ge (tgt := 188) hx hb dX5_shareOut_111 (by decide) ⟨by omega, by omega⟩ ⟨by omega, by omega⟩ (fun c111 => ?_) (fun c111 => ?_)
                        · skip
                          refine lv_lload hx hb dX5_shareOut_188 (lv_at hl 6 rfl) ?_
                          refine g_lret hx hb hr hlk hK hM dX5_shareOut_190 ?_
                          have him3 : i = mm := by omega
                          have hS : sShare P r0 mm x = (tk, Pk) := by
                            have hcv2 : x - sSum (fun k => sPt P x w (r0 + k)) mm = cv := by rw [hcv, him2]
                            unfold sShare
                            simp only [← hwv, hcv2]
                            rw [← him3, ← hst]
                          refine ⟨by rw [hS], ?_, (fun q hq => (hfr (q) (by omega)))⟩
                          rw [hS]
                          exact hL
                        · skip
                          obtain ⟨hn1, hn2, hn3, hn4⟩ := hsh.2.2 i (by omega)
                          have hpx := shp_ok hlr1 hlr2 hn3 hn4 hw1
                          obtain ⟨t0, ht0⟩ : ∃ q : Nat, P (52 + 3 * (r0 + i)) = q := ⟨(P (52 + 3 * (r0 + i))).toNat, by omega⟩
                          obtain ⟨⟨hz1, hz2⟩, ⟨hz3, hz4⟩, hz5⟩ := hwk.2 t0 (by omega)
                          have hk53 : Pk (53 + 3 * (r0 + i)) = P (53 + 3 * (r0 + i)) := hkp _ (by omega)
                          have hk52 : Pk (52 + 3 * (r0 + i)) = (t0 : Int) := (hkp _ (by omega)).trans ht0
                          have hpx1 := hpx.2.1
                          have hpx2 := hpx.2.2
                          refine lv_iload hx hb dX5_shareOut_114 (lv_at hl 7 rfl) ?_
                          refine g_bipush hx hb dX5_shareOut_116 (by decide) ?_
                          refine g_icmp_ge (tgt := 188) hx hb dX5_shareOut_118 (by decide) ⟨by omega, by omega⟩ (by decide) (fun c118 => ?_) (fun c118 => ?_)
                          · skip
                            refine lv_lload hx hb dX5_shareOut_188 (lv_at hl 6 rfl) ?_
                            refine g_lret hx hb hr hlk hK hM dX5_shareOut_190 ?_
                            have him3 : i = mm := by omega
                            have hS : sShare P r0 mm x = (tk, Pk) := by
                              have hcv2 : x - sSum (fun k => sPt P x w (r0 + k)) mm = cv := by rw [hcv, him2]
                              unfold sShare
                              simp only [← hwv, hcv2]
                              rw [← him3, ← hst]
                            refine ⟨by rw [hS], ?_, (fun q hq => (hfr (q) (by omega)))⟩
                            rw [hS]
                            exact hL
                          · skip
                            refine lv_lload_n hx hb dX5_shareOut_121 rfl (lv_at hl 3 rfl) ?_
                            refine lv_aload_n hx hb dX5_shareOut_122 rfl (lv_at hl 0 rfl) ?_
                            obtain ⟨ho47, ho48, ho49, ho50, ho51⟩ := id hL
                            refine g_get (ci := 7) (v := .ref (h + 6)) (C := RX5) (T := TX5) (N := 11) hx hb hts iU_X5 hown hK hM ⟨by omega, by omega⟩ ho47 rfl 1 (by decide) (hts _ u_166) (fun _ h9 => h9) rfl dX5_shareOut_123 ?_
                            obtain ⟨ho52, ho53, ho54, ho55⟩ := id ho49
                            refine g_getN (ci := 9) (v := .ref (h + 6 + 3)) (C := RX7) (T := TX7) (N := 4) hx hb hts iU_X7 hown hK hM ⟨by omega, by omega⟩ ho52 rfl 2 (by decide) (hts _ u_86) (fun _ h9 => h9) rfl dX5_shareOut_126 ?_
                            refine lv_iload hx hb dX5_shareOut_129 (lv_at hl 7 rfl) ?_
                            refine g_iald hx hb hK hM ⟨by omega, by omega⟩ ho55 (by omega) (by omega) (by decide) dX5_shareOut_131 ?_
                            show W _ _ _ _ _ _ _ _ _ _ _ _ _ _ _ (F0 _ _ _ (.int (zI (Pk (53 + 3 * (r0 + i)))) :: _))
                            rw [hk53]
                            refine g_i2l hx hb dX5_shareOut_132 ⟨by omega, by omega⟩ ?_
                            refine g_lmul hx hb dX5_shareOut_133 ?_
                            refine lv_lload hx hb dX5_shareOut_134 (lv_at hl 4 rfl) ?_
                            refine g_ldiv hx hb dX5_shareOut_136 hpx.1 ⟨by omega, by omega⟩ (by omega) ?_
                            refine lv_lstore (lv' := [(12, .long (zL (Int.tdiv (x * (P (53 + 3 * (r0 + i)))) w))), (0, .ref h), (1, .int (zI (↑r0 : Int))), (2, .int (zI (↑(r0 + mm) : Int))), (3, .long (zL x)), (5, .long (zL w)), (7, .long (zL rs)), (9, .long (zL tk)), (11, .int (zI (↑(r0 + i) : Int)))]) hx hb dX5_shareOut_137 hl (by decide) rfl (fun ls hl => ?_)
                            refine lv_lload hx hb dX5_shareOut_139 (lv_at hl 6 rfl) ?_
                            refine g_lconst (z := 0) hx hb dX5_shareOut_141 (by decide) ?_
                            refine g_lcmp_le (tgt := 158) hx hb dX5_shareOut_142 dX5_shareOut_143 (by decide) ⟨by omega, by omega⟩ (by decide) (fun c142 => ?_) (fun c142 => ?_)
                            · skip
                              refine lv_lload hx hb dX5_shareOut_158 (lv_at hl 7 rfl) ?_
                              refine lv_aload_n hx hb dX5_shareOut_160 rfl (lv_at hl 1 rfl) ?_
                              refine g_get (ci := 7) (v := .ref (h + 1)) (C := RX5) (T := TX5) (N := 11) hx hb hts iU_X5 hown hK hM ⟨by omega, by omega⟩ ho47 rfl 0 (by decide) (hts _ u_164) (fun _ h9 => h9) rfl dX5_shareOut_161 ?_
                              refine lv_aload_n hx hb dX5_shareOut_164 rfl (lv_at hl 1 rfl) ?_
                              refine g_get (ci := 7) (v := .ref (h + 6)) (C := RX5) (T := TX5) (N := 11) hx hb hts iU_X5 hown hK hM ⟨by omega, by omega⟩ ho47 rfl 1 (by decide) (hts _ u_166) (fun _ h9 => h9) rfl dX5_shareOut_165 ?_
                              refine g_getN (ci := 9) (v := .ref (h + 6 + 2)) (C := RX7) (T := TX7) (N := 4) hx hb hts iU_X7 hown hK hM ⟨by omega, by omega⟩ ho52 rfl 1 (by decide) (hts _ u_84) (fun _ h9 => h9) rfl dX5_shareOut_168 ?_
                              refine lv_iload hx hb dX5_shareOut_171 (lv_at hl 8 rfl) ?_
                              refine g_iald hx hb hK hM ⟨by omega, by omega⟩ ho54 (by omega) (by omega) (by decide) dX5_shareOut_173 ?_
                              show W _ _ _ _ _ _ _ _ _ _ _ _ _ _ _ (F0 _ _ _ (.int (zI (Pk (52 + 3 * (r0 + i)))) :: _))
                              rw [hk52]
                              refine lv_lload hx hb dX5_shareOut_174 (lv_at hl 0 rfl) ?_
                              have hax : 0 ≤ (Int.tdiv (x * (P (53 + 3 * (r0 + i)))) w) ∧ (Int.tdiv (x * (P (53 + 3 * (r0 + i)))) w) ≤ 1000000000 := by omega
                              have hC58 := c_X2_putWhatFits l g b0 n fL (h + 1) Pk t0 (Int.tdiv (x * (P (53 + 3 * (r0 + i)))) w) ho48 ⟨by omega, by omega⟩ hwk.1 (by rw [hwk7]; omega) ⟨by omega, by omega⟩ ⟨by omega, by omega⟩ ⟨by omega, by omega⟩
                              obtain ⟨ho61, ho62, ho63, ho64, ho65⟩ := id ho48
                              refine g_callVl (ci := 4) (C := RX2) (T := TX2) (N := 5) (As := [.int (zI (↑t0 : Int)), .long (zL (Int.tdiv (x * (P (53 + 3 * (r0 + i)))) w))]) (rest := [.long (zL tk)]) ⟨hx, hb, hml, hown, hts⟩ hK hM hC58 (cuV (n := 2) hts u_495 u_492 u_5 (by decide) u_493 u_494 ⟨Nat.le_of_ble_eq_true rfl, Nat.le_of_ble_eq_true rfl⟩) ⟨by omega, by omega⟩ ho61 rfl rfl hl.1 rfl (Nat.le_of_ble_eq_true rfl) dX5_shareOut_176 ⟨Nat.zero_le _, Nat.zero_le _⟩ (fun r176 f59 H locs hM hp60 => ?_)
                              obtain ⟨rfl, hn57, o56⟩ := hp60
                              obtain ⟨P1, hP1⟩ : ∃ Q : Nat → Int, Q = sPut Pk t0 (Int.tdiv (x * (P (53 + 3 * (r0 + i)))) w) := ⟨_, rfl⟩
                              rw [← hP1] at hn57
                              have hp66 := planAt.env (P' := P1) hL hn57 o56 (fun i hi => by rw [hP1]; unfold sPut; (repeat (first | rw [pu_s] | rw [pu_n (by omega)] | rw [Int.toNat_natCast])))
                              refine g_ladd hx hb dX5_shareOut_179 ?_
                              refine lv_lstore (lv' := [(9, .long (zL (tk + (sIs Pk t0 (Int.tdiv (x * (P (53 + 3 * (r0 + i)))) w))))), (12, .long (zL (Int.tdiv (x * (P (53 + 3 * (r0 + i)))) w))), (0, .ref h), (1, .int (zI (↑r0 : Int))), (2, .int (zI (↑(r0 + mm) : Int))), (3, .long (zL x)), (5, .long (zL w)), (7, .long (zL rs)), (11, .int (zI (↑(r0 + i) : Int)))]) hx hb dX5_shareOut_180 hl (by decide) rfl (fun ls hl => ?_)
                              refine lv_iinc (v := zI ((↑(r0 + i) : Int) + 1)) (lv' := [(11, .int (zI ((↑(r0 + i) : Int) + 1))), (9, .long (zL (tk + (sIs Pk t0 (Int.tdiv (x * (P (53 + 3 * (r0 + i)))) w))))), (12, .long (zL (Int.tdiv (x * (P (53 + 3 * (r0 + i)))) w))), (0, .ref h), (1, .int (zI (↑r0 : Int))), (2, .int (zI (↑(r0 + mm) : Int))), (3, .long (zL x)), (5, .long (zL w)), (7, .long (zL rs))]) hx hb dX5_shareOut_182 hl (k := 8) rfl (zI_add _ _) (by decide) rfl (fun ls hl => ?_)
                              refine lv_goto (tgt := 108) hx hb dX5_shareOut_185 (by decide) ?_
                              obtain ⟨ho67, ho68, ho69, ho70, ho71⟩ := id hp66
                              exact ih (i + 1) rs (tk + (sIs Pk t0 (Int.tdiv (x * (P (53 + 3 * (r0 + i)))) w))) P1 f59 _ _ _ (by omega) (by omega) (by rw [sIt_succ, ← hst, hP1]; simp only [sShT, sPt, ht0, Int.toNat_natCast, if_neg (show ¬ 0 < rs by omega), Int.add_zero, Int.sub_zero]) (by rw [hP1]; exact wfE_mono (wfE_put hwk hax.1 hax.2 (by omega)) (by omega)) (fun j hj => by rw [hP1, sPut_n (by omega)]; exact hkp j hj) (by rw [hP1, sPut_n (by omega)]; exact hwk7) (by omega) (fun q hq => ((o56 (q) (by omega)).trans (hfr (q) (by omega)))) hM hp66 (lv_sub hl [3, 4, 5, 6, 7, 8, 1, 0] rfl)
                            · skip
                              refine lv_lload hx hb dX5_shareOut_146 (lv_at hl 0 rfl) ?_
                              refine g_lconst (z := 1) hx hb dX5_shareOut_148 (by decide) ?_
                              refine g_ladd hx hb dX5_shareOut_149 ?_
                              refine lv_lstore (lv' := [(12, .long (zL ((Int.tdiv (x * (P (53 + 3 * (r0 + i)))) w) + 1))), (0, .ref h), (1, .int (zI (↑r0 : Int))), (2, .int (zI (↑(r0 + mm) : Int))), (3, .long (zL x)), (5, .long (zL w)), (7, .long (zL rs)), (9, .long (zL tk)), (11, .int (zI (↑(r0 + i) : Int)))]) hx hb dX5_shareOut_150 hl (by decide) rfl (fun ls hl => ?_)
                              refine lv_lload hx hb dX5_shareOut_152 (lv_at hl 6 rfl) ?_
                              refine g_lconst (z := 1) hx hb dX5_shareOut_154 (by decide) ?_
                              refine g_lsub hx hb dX5_shareOut_155 ?_
                              refine lv_lstore (lv' := [(7, .long (zL (rs - 1))), (12, .long (zL ((Int.tdiv (x * (P (53 + 3 * (r0 + i)))) w) + 1))), (0, .ref h), (1, .int (zI (↑r0 : Int))), (2, .int (zI (↑(r0 + mm) : Int))), (3, .long (zL x)), (5, .long (zL w)), (9, .long (zL tk)), (11, .int (zI (↑(r0 + i) : Int)))]) hx hb dX5_shareOut_156 hl (by decide) rfl (fun ls hl => ?_)
                              refine lv_lload hx hb dX5_shareOut_158 (lv_at hl 7 rfl) ?_
                              refine lv_aload_n hx hb dX5_shareOut_160 rfl (lv_at hl 2 rfl) ?_
                              refine g_get (ci := 7) (v := .ref (h + 1)) (C := RX5) (T := TX5) (N := 11) hx hb hts iU_X5 hown hK hM ⟨by omega, by omega⟩ ho47 rfl 0 (by decide) (hts _ u_164) (fun _ h9 => h9) rfl dX5_shareOut_161 ?_
                              refine lv_aload_n hx hb dX5_shareOut_164 rfl (lv_at hl 2 rfl) ?_
                              refine g_get (ci := 7) (v := .ref (h + 6)) (C := RX5) (T := TX5) (N := 11) hx hb hts iU_X5 hown hK hM ⟨by omega, by omega⟩ ho47 rfl 1 (by decide) (hts _ u_166) (fun _ h9 => h9) rfl dX5_shareOut_165 ?_
                              refine g_getN (ci := 9) (v := .ref (h + 6 + 2)) (C := RX7) (T := TX7) (N := 4) hx hb hts iU_X7 hown hK hM ⟨by omega, by omega⟩ ho52 rfl 1 (by decide) (hts _ u_84) (fun _ h9 => h9) rfl dX5_shareOut_168 ?_
                              refine lv_iload hx hb dX5_shareOut_171 (lv_at hl 8 rfl) ?_
                              refine g_iald hx hb hK hM ⟨by omega, by omega⟩ ho54 (by omega) (by omega) (by decide) dX5_shareOut_173 ?_
                              show W _ _ _ _ _ _ _ _ _ _ _ _ _ _ _ (F0 _ _ _ (.int (zI (Pk (52 + 3 * (r0 + i)))) :: _))
                              rw [hk52]
                              refine lv_lload hx hb dX5_shareOut_174 (lv_at hl 1 rfl) ?_
                              have hax : 0 ≤ ((Int.tdiv (x * (P (53 + 3 * (r0 + i)))) w) + 1) ∧ ((Int.tdiv (x * (P (53 + 3 * (r0 + i)))) w) + 1) ≤ 1000000000 := by omega
                              have hC74 := c_X2_putWhatFits l g b0 n fL (h + 1) Pk t0 ((Int.tdiv (x * (P (53 + 3 * (r0 + i)))) w) + 1) ho48 ⟨by omega, by omega⟩ hwk.1 (by rw [hwk7]; omega) ⟨by omega, by omega⟩ ⟨by omega, by omega⟩ ⟨by omega, by omega⟩
                              obtain ⟨ho77, ho78, ho79, ho80, ho81⟩ := id ho48
                              refine g_callVl (ci := 4) (C := RX2) (T := TX2) (N := 5) (As := [.int (zI (↑t0 : Int)), .long (zL ((Int.tdiv (x * (P (53 + 3 * (r0 + i)))) w) + 1))]) (rest := [.long (zL tk)]) ⟨hx, hb, hml, hown, hts⟩ hK hM hC74 (cuV (n := 2) hts u_495 u_492 u_5 (by decide) u_493 u_494 ⟨Nat.le_of_ble_eq_true rfl, Nat.le_of_ble_eq_true rfl⟩) ⟨by omega, by omega⟩ ho77 rfl rfl hl.1 rfl (Nat.le_of_ble_eq_true rfl) dX5_shareOut_176 ⟨Nat.zero_le _, Nat.zero_le _⟩ (fun r176 f75 H locs hM hp76 => ?_)
                              obtain ⟨rfl, hn73, o72⟩ := hp76
                              obtain ⟨P1, hP1⟩ : ∃ Q : Nat → Int, Q = sPut Pk t0 ((Int.tdiv (x * (P (53 + 3 * (r0 + i)))) w) + 1) := ⟨_, rfl⟩
                              rw [← hP1] at hn73
                              have hp82 := planAt.env (P' := P1) hL hn73 o72 (fun i hi => by rw [hP1]; unfold sPut; (repeat (first | rw [pu_s] | rw [pu_n (by omega)] | rw [Int.toNat_natCast])))
                              refine g_ladd hx hb dX5_shareOut_179 ?_
                              refine lv_lstore (lv' := [(9, .long (zL (tk + (sIs Pk t0 ((Int.tdiv (x * (P (53 + 3 * (r0 + i)))) w) + 1))))), (7, .long (zL (rs - 1))), (12, .long (zL ((Int.tdiv (x * (P (53 + 3 * (r0 + i)))) w) + 1))), (0, .ref h), (1, .int (zI (↑r0 : Int))), (2, .int (zI (↑(r0 + mm) : Int))), (3, .long (zL x)), (5, .long (zL w)), (11, .int (zI (↑(r0 + i) : Int)))]) hx hb dX5_shareOut_180 hl (by decide) rfl (fun ls hl => ?_)
                              refine lv_iinc (v := zI ((↑(r0 + i) : Int) + 1)) (lv' := [(11, .int (zI ((↑(r0 + i) : Int) + 1))), (9, .long (zL (tk + (sIs Pk t0 ((Int.tdiv (x * (P (53 + 3 * (r0 + i)))) w) + 1))))), (7, .long (zL (rs - 1))), (12, .long (zL ((Int.tdiv (x * (P (53 + 3 * (r0 + i)))) w) + 1))), (0, .ref h), (1, .int (zI (↑r0 : Int))), (2, .int (zI (↑(r0 + mm) : Int))), (3, .long (zL x)), (5, .long (zL w))]) hx hb dX5_shareOut_182 hl (k := 8) rfl (zI_add _ _) (by decide) rfl (fun ls hl => ?_)
                              refine lv_goto (tgt := 108) hx hb dX5_shareOut_185 (by decide) ?_
                              obtain ⟨ho83, ho84, ho85, ho86, ho87⟩ := id hp82
                              exact ih (i + 1) (rs - 1) (tk + (sIs Pk t0 ((Int.tdiv (x * (P (53 + 3 * (r0 + i)))) w) + 1))) P1 f75 _ _ _ (by omega) (by omega) (by rw [sIt_succ, ← hst, hP1]; simp only [sShT, sPt, ht0, Int.toNat_natCast, if_pos (show 0 < rs by omega)]) (by rw [hP1]; exact wfE_mono (wfE_put hwk hax.1 hax.2 (by omega)) (by omega)) (fun j hj => by rw [hP1, sPut_n (by omega)]; exact hkp j hj) (by rw [hP1, sPut_n (by omega)]; exact hwk7) (by omega) (fun q hq => ((o72 (q) (by omega)).trans (hfr (q) (by omega)))) hM hp82 (lv_sub hl [4, 5, 6, 7, 8, 2, 1, 0] rfl)
                    obtain ⟨ho88, ho89, ho90, ho91, ho92⟩ := id hE
                    exact lp108 ((mm + 1)) 0 cv 0 P f _ _ _ (by omega) (by omega) rfl (wfE_mono hwe (by omega)) (fun j hj => rfl) rfl (by omega) (fun q hq => rfl) hM hE (lv_sub hl [2, 3, 4, 5, 6, 7, 1, 0] rfl)
                  · skip
                    refine lv_lload hx hb dX5_shareOut_75 (lv_at hl 5 rfl) ?_
                    refine lv_lload_n hx hb dX5_shareOut_77 rfl (lv_at hl 3 rfl) ?_
                    refine lv_aload_n hx hb dX5_shareOut_78 rfl (lv_at hl 0 rfl) ?_
                    obtain ⟨ho93, ho94, ho95, ho96, ho97⟩ := id hE
                    refine g_get (ci := 7) (v := .ref (h + 6)) (C := RX5) (T := TX5) (N := 11) hx hb hts iU_X5 hown hK hM ⟨by omega, by omega⟩ ho93 rfl 1 (by decide) (hts _ u_166) (fun _ h9 => h9) rfl dX5_shareOut_79 ?_
                    obtain ⟨ho98, ho99, ho100, ho101⟩ := id ho95
                    refine g_getN (ci := 9) (v := .ref (h + 6 + 3)) (C := RX7) (T := TX7) (N := 4) hx hb hts iU_X7 hown hK hM ⟨by omega, by omega⟩ ho98 rfl 2 (by decide) (hts _ u_86) (fun _ h9 => h9) rfl dX5_shareOut_82 ?_
                    refine lv_iload hx hb dX5_shareOut_85 (lv_at hl 6 rfl) ?_
                    refine g_iald hx hb hK hM ⟨by omega, by omega⟩ ho101 (by omega) (by omega) (by decide) dX5_shareOut_87 ?_
                    show W _ _ _ _ _ _ _ _ _ _ _ _ _ _ _ (F0 _ _ _ (.int (zI (P (53 + 3 * (r0 + i2)))) :: _))
                    refine g_i2l hx hb dX5_shareOut_88 ⟨by omega, by omega⟩ ?_
                    refine g_lmul hx hb dX5_shareOut_89 ?_
                    refine lv_lload hx hb dX5_shareOut_90 (lv_at hl 4 rfl) ?_
                    refine g_ldiv hx hb dX5_shareOut_92 hpx.1 ⟨by omega, by omega⟩ (by omega) ?_
                    refine g_lsub hx hb dX5_shareOut_93 ?_
                    refine lv_lstore (lv' := [(7, .long (zL (cv - (Int.tdiv (x * (P (53 + 3 * (r0 + i2)))) w)))), (0, .ref h), (1, .int (zI (↑r0 : Int))), (2, .int (zI (↑(r0 + mm) : Int))), (3, .long (zL x)), (5, .long (zL w)), (9, .int (zI (↑(r0 + i2) : Int)))]) hx hb dX5_shareOut_94 hl (by decide) rfl (fun ls hl => ?_)
                    refine lv_iinc (v := zI ((↑(r0 + i2) : Int) + 1)) (lv' := [(9, .int (zI ((↑(r0 + i2) : Int) + 1))), (7, .long (zL (cv - (Int.tdiv (x * (P (53 + 3 * (r0 + i2)))) w)))), (0, .ref h), (1, .int (zI (↑r0 : Int))), (2, .int (zI (↑(r0 + mm) : Int))), (3, .long (zL x)), (5, .long (zL w))]) hx hb dX5_shareOut_96 hl (k := 6) rfl (zI_add _ _) (by decide) rfl (fun ls hl => ?_)
                    refine lv_goto (tgt := 62) hx hb dX5_shareOut_99 (by decide) ?_
                    exact ih (i2 + 1) (cv - (Int.tdiv (x * (P (53 + 3 * (r0 + i2)))) w)) _ (by omega) (by omega) (by rw [hcv]; show _ = x - (sSum _ i2 + sPt P x w (r0 + i2)); unfold sPt; omega) (lv_sub hl [2, 3, 4, 5, 6, 1, 0] rfl)
            exact lp62 ((mm + 1)) 0 x _ (by omega) (by omega) (by show x = x - 0; omega) (lv_sub hl [2, 3, 4, 5, 6, 1, 0] rfl)
          · skip
            refine g_lconst (z := 0) hx hb dX5_shareOut_54 (by decide) ?_
            refine g_lret hx hb hr hlk hK hM dX5_shareOut_55 ?_
            exfalso; omega
        · skip
          have hj6 : r0 + i < 6 := by omega
          obtain ⟨hn1, hn2, hn3, hn4⟩ := hsh.2.2 i (by omega)
          refine lv_iload hx hb dX5_shareOut_18 (lv_at hl 5 rfl) ?_
          refine g_bipush hx hb dX5_shareOut_20 (by decide) ?_
          refine g_icmp_ge (tgt := 47) hx hb dX5_shareOut_22 (by decide) ⟨by omega, by omega⟩ (by decide) (fun c22 => ?_) (fun c22 => ?_)
          · skip
            have him : i = mm := by omega
            obtain ⟨w, hw⟩ : ∃ w : Int, (sSum (fun k => P (53 + 3 * (r0 + k))) i) = w := ⟨_, rfl⟩
            rw [hw] at hl
            have hwv : w = sWt P r0 mm := by rw [← hw, him]; rfl
            have hwp := sWt_in hsh mm (Nat.le_refl mm)
            rw [← hwv] at hwp
            have hw1 : 1 ≤ w := by omega
            clear hw
            refine lv_lload hx hb dX5_shareOut_47 (lv_at hl 4 rfl) ?_
            refine g_lconst (z := 0) hx hb dX5_shareOut_49 (by decide) ?_
            refine g_lcmp_gt (tgt := 56) hx hb dX5_shareOut_50 dX5_shareOut_51 (by decide) ⟨by omega, by omega⟩ (by decide) (fun c50 => ?_) (fun c50 => ?_)
            · skip
              refine lv_lload_n hx hb dX5_shareOut_56 rfl (lv_at hl 3 rfl) ?_
              refine lv_lstore (lv' := [(7, .long (zL x)), (0, .ref h), (1, .int (zI (↑r0 : Int))), (2, .int (zI (↑(r0 + mm) : Int))), (3, .long (zL x)), (5, .long (zL w))]) hx hb dX5_shareOut_57 hl (by decide) rfl (fun ls hl => ?_)
              refine lv_iload_n hx hb dX5_shareOut_59 rfl (lv_at hl 2 rfl) ?_
              refine lv_istore (lv' := [(9, .int (zI (↑r0 : Int))), (7, .long (zL x)), (0, .ref h), (1, .int (zI (↑r0 : Int))), (2, .int (zI (↑(r0 + mm) : Int))), (3, .long (zL x)), (5, .long (zL w))]) hx hb dX5_shareOut_60 hl (by decide) rfl (fun ls hl => ?_)
              have lp62 : ∀ (k2 : Nat), ∀ (i2 : Nat) (cv : Int) (ls : Array Slot), (mm - i2 < k2) → (i2 ≤ mm) → (cv = x - sSum (fun k => sPt P x w (r0 + k)) i2) → lv_has ls 14 [(0, .ref h), (1, .int (zI (↑r0 : Int))), (2, .int (zI (↑(r0 + mm) : Int))), (3, .long (zL x)), (5, .long (zL w)), (7, .long (zL cv)), (9, .int (zI (↑(r0 + i2) : Int)))] → W p l e0 { frames := 1, cells := 0, slots := 0, locals := 25 } s m args below meth c s.heap [] 0 0 (MQ below (va_Ql (po_X5_shareOut g f h P r0 mm x) (gB g b0 n) (gA b0)) args s 0 0 (gA b0)) (F0 m 62 ls []) := by
                intro k2
                induction k2 with
                | zero =>
                  intro i2 cv ls hk hi2 hcv hl
                  exact absurd hk (Nat.not_lt_zero _)
                | succ k2 ih =>
                  intro i2 cv ls hk hi2 hcv hl
                  refine lv_iload hx hb dX5_shareOut_62 (lv_at hl 6 rfl) ?_
                  refine lv_iload_n hx hb dX5_shareOut_64 rfl (lv_at hl 2 rfl) ?_
                  refine g_icmp_ge (tgt := 102) hx hb dX5_shareOut_65 (by decide) ⟨by omega, by omega⟩ ⟨by omega, by omega⟩ (fun c65 => ?_) (fun c65 => ?_)
                  · skip
                    have him2 : i2 = mm := by omega
                    have hpi := sPts_in hsh hlr1 hlr2 hw1 i2 (by omega)
                    have hcvb : -600000000 ≤ cv ∧ cv ≤ 1000000 := by omega
                    refine g_lconst (z := 0) hx hb dX5_shareOut_102 (by decide) ?_
                    refine lv_lstore (lv' := [(9, .long (zL 0)), (0, .ref h), (1, .int (zI (↑r0 : Int))), (2, .int (zI (↑(r0 + mm) : Int))), (3, .long (zL x)), (5, .long (zL w)), (7, .long (zL cv))]) hx hb dX5_shareOut_103 hl (by decide) rfl (fun ls hl => ?_)
                    refine lv_iload_n hx hb dX5_shareOut_105 rfl (lv_at hl 2 rfl) ?_
                    refine lv_istore (lv' := [(11, .int (zI (↑r0 : Int))), (9, .long (zL 0)), (0, .ref h), (1, .int (zI (↑r0 : Int))), (2, .int (zI (↑(r0 + mm) : Int))), (3, .long (zL x)), (5, .long (zL w)), (7, .long (zL cv))]) hx hb dX5_shareOut_106 hl (by decide) rfl (fun ls hl => ?_)
                    have lp108 : ∀ (k3 : Nat), ∀ (i : Nat) (rs : Int) (tk : Int) (Pk : Nat → Int) (fL : gF) (H : Heap) (locs : List Loc) (ls : Array Slot), (mm - i < k3) → (i ≤ mm) → ((rs, tk, Pk) = sIt (sShT P x w r0) (cv, 0, P) i) → (wfE Pk (1000000000000000 + i * 1000000000)) → (∀ j, 51 ≤ j → Pk j = P j) → (Pk 7 = P 7) → (cv - i ≤ rs ∧ rs ≤ cv) → (∀ q, (q < h ∨ h + 23 ≤ q) → fL q = f q) → gH g b0 n fL s.heap H locs → (planAt g fL h Pk) → lv_has ls 14 [(0, .ref h), (1, .int (zI (↑r0 : Int))), (2, .int (zI (↑(r0 + mm) : Int))), (3, .long (zL x)), (5, .long (zL w)), (7, .long (zL rs)), (9, .long (zL tk)), (11, .int (zI (↑(r0 + i) : Int)))] → W p l e0 { frames := 1, cells := 0, slots := 0, locals := 25 } s m args below meth c H locs 0 0 (MQ below (va_Ql (po_X5_shareOut g f h P r0 mm x) (gB g b0 n) (gA b0)) args s 0 0 (gA b0)) (F0 m 108 ls []) := by
                      intro k3
                      induction k3 with
                      | zero =>
                        intro i rs tk Pk fL H locs ls hk hi3 hst hwk hkp hwk7 hrs hfr hM hL hl
                        exact absurd hk (Nat.not_lt_zero _)
                      | succ k3 ih =>
                        intro i rs tk Pk fL H locs ls hk hi3 hst hwk hkp hwk7 hrs hfr hM hL hl
                        refine lv_iload hx hb dX5_shareOut_108 (lv_at hl 7 rfl) ?_
                        refine lv_iload_n hx hb dX5_shareOut_110 rfl (lv_at hl 2 rfl) ?_
                        refine g_icmp_ge (tgt := 188) hx hb dX5_shareOut_111 (by decide) ⟨by omega, by omega⟩ ⟨by omega, by omega⟩ (fun c111 => ?_) (fun c111 => ?_)
                        · skip
                          refine lv_lload hx hb dX5_shareOut_188 (lv_at hl 6 rfl) ?_
                          refine g_lret hx hb hr hlk hK hM dX5_shareOut_190 ?_
                          have him3 : i = mm := by omega
                          have hS : sShare P r0 mm x = (tk, Pk) := by
                            have hcv2 : x - sSum (fun k => sPt P x w (r0 + k)) mm = cv := by rw [hcv, him2]
                            unfold sShare
                            simp only [← hwv, hcv2]
                            rw [← him3, ← hst]
                          refine ⟨by rw [hS], ?_, (fun q hq => (hfr (q) (by omega)))⟩
                          rw [hS]
                          exact hL
                        · skip
                          obtain ⟨hn1, hn2, hn3, hn4⟩ := hsh.2.2 i (by omega)
                          have hpx := shp_ok hlr1 hlr2 hn3 hn4 hw1
                          obtain ⟨t0, ht0⟩ : ∃ q : Nat, P (52 + 3 * (r0 + i)) = q := ⟨(P (52 + 3 * (r0 + i))).toNat, by omega⟩
                          obtain ⟨⟨hz1, hz2⟩, ⟨hz3, hz4⟩, hz5⟩ := hwk.2 t0 (by omega)
                          have hk53 : Pk (53 + 3 * (r0 + i)) = P (53 + 3 * (r0 + i)) := hkp _ (by omega)
                          have hk52 : Pk (52 + 3 * (r0 + i)) = (t0 : Int) := (hkp _ (by omega)).trans ht0
                          have hpx1 := hpx.2.1
                          have hpx2 := hpx.2.2
                          refine lv_iload hx hb dX5_shareOut_114 (lv_at hl 7 rfl) ?_
                          refine g_bipush hx hb dX5_shareOut_116 (by decide) ?_
                          refine g_icmp_ge (tgt := 188) hx hb dX5_shareOut_118 (by decide) ⟨by omega, by omega⟩ (by decide) (fun c118 => ?_) (fun c118 => ?_)
                          · skip
                            refine lv_lload hx hb dX5_shareOut_188 (lv_at hl 6 rfl) ?_
                            refine g_lret hx hb hr hlk hK hM dX5_shareOut_190 ?_
                            have him3 : i = mm := by omega
                            have hS : sShare P r0 mm x = (tk, Pk) := by
                              have hcv2 : x - sSum (fun k => sPt P x w (r0 + k)) mm = cv := by rw [hcv, him2]
                              unfold sShare
                              simp only [← hwv, hcv2]
                              rw [← him3, ← hst]
                            refine ⟨by rw [hS], ?_, (fun q hq => (hfr (q) (by omega)))⟩
                            rw [hS]
                            exact hL
                          · skip
                            refine lv_lload_n hx hb dX5_shareOut_121 rfl (lv_at hl 3 rfl) ?_
                            refine lv_aload_n hx hb dX5_shareOut_122 rfl (lv_at hl 0 rfl) ?_
                            obtain ⟨ho102, ho103, ho104, ho105, ho106⟩ := id hL
                            refine g_get (ci := 7) (v := .ref (h + 6)) (C := RX5) (T := TX5) (N := 11) hx hb hts iU_X5 hown hK hM ⟨by omega, by omega⟩ ho102 rfl 1 (by decide) (hts _ u_166) (fun _ h9 => h9) rfl dX5_shareOut_123 ?_
                            obtain ⟨ho107, ho108, ho109, ho110⟩ := id ho104
                            refine g_getN (ci := 9) (v := .ref (h + 6 + 3)) (C := RX7) (T := TX7) (N := 4) hx hb hts iU_X7 hown hK hM ⟨by omega, by omega⟩ ho107 rfl 2 (by decide) (hts _ u_86) (fun _ h9 => h9) rfl dX5_shareOut_126 ?_
                            refine lv_iload hx hb dX5_shareOut_129 (lv_at hl 7 rfl) ?_
                            refine g_iald hx hb hK hM ⟨by omega, by omega⟩ ho110 (by omega) (by omega) (by decide) dX5_shareOut_131 ?_
                            show W _ _ _ _ _ _ _ _ _ _ _ _ _ _ _ (F0 _ _ _ (.int (zI (Pk (53 + 3 * (r0 + i)))) :: _))
                            rw [hk53]
                            refine g_i2l hx hb dX5_shareOut_132 ⟨by omega, by omega⟩ ?_
                            refine g_lmul hx hb dX5_shareOut_133 ?_
                            refine lv_lload hx hb dX5_shareOut_134 (lv_at hl 4 rfl) ?_
                            refine g_ldiv hx hb dX5_shareOut_136 hpx.1 ⟨by omega, by omega⟩ (by omega) ?_
                            refine lv_lstore (lv' := [(12, .long (zL (Int.tdiv (x * (P (53 + 3 * (r0 + i)))) w))), (0, .ref h), (1, .int (zI (↑r0 : Int))), (2, .int (zI (↑(r0 + mm) : Int))), (3, .long (zL x)), (5, .long (zL w)), (7, .long (zL rs)), (9, .long (zL tk)), (11, .int (zI (↑(r0 + i) : Int)))]) hx hb dX5_shareOut_137 hl (by decide) rfl (fun ls hl => ?_)
                            refine lv_lload hx hb dX5_shareOut_139 (lv_at hl 6 rfl) ?_
                            refine g_lconst (z := 0) hx hb dX5_shareOut_141 (by decide) ?_
                            refine g_lcmp_le (tgt := 158) hx hb dX5_shareOut_142 dX5_shareOut_143 (by decide) ⟨by omega, by omega⟩ (by decide) (fun c142 => ?_) (fun c142 => ?_)
                            · skip
                              refine lv_lload hx hb dX5_shareOut_158 (lv_at hl 7 rfl) ?_
                              refine lv_aload_n hx hb dX5_shareOut_160 rfl (lv_at hl 1 rfl) ?_
                              refine g_get (ci := 7) (v := .ref (h + 1)) (C := RX5) (T := TX5) (N := 11) hx hb hts iU_X5 hown hK hM ⟨by omega, by omega⟩ ho102 rfl 0 (by decide) (hts _ u_164) (fun _ h9 => h9) rfl dX5_shareOut_161 ?_
                              refine lv_aload_n hx hb dX5_shareOut_164 rfl (lv_at hl 1 rfl) ?_
                              refine g_get (ci := 7) (v := .ref (h + 6)) (C := RX5) (T := TX5) (N := 11) hx hb hts iU_X5 hown hK hM ⟨by omega, by omega⟩ ho102 rfl 1 (by decide) (hts _ u_166) (fun _ h9 => h9) rfl dX5_shareOut_165 ?_
                              refine g_getN (ci := 9) (v := .ref (h + 6 + 2)) (C := RX7) (T := TX7) (N := 4) hx hb hts iU_X7 hown hK hM ⟨by omega, by omega⟩ ho107 rfl 1 (by decide) (hts _ u_84) (fun _ h9 => h9) rfl dX5_shareOut_168 ?_
                              refine lv_iload hx hb dX5_shareOut_171 (lv_at hl 8 rfl) ?_
                              refine g_iald hx hb hK hM ⟨by omega, by omega⟩ ho109 (by omega) (by omega) (by decide) dX5_shareOut_173 ?_
                              show W _ _ _ _ _ _ _ _ _ _ _ _ _ _ _ (F0 _ _ _ (.int (zI (Pk (52 + 3 * (r0 + i)))) :: _))
                              rw [hk52]
                              refine lv_lload hx hb dX5_shareOut_174 (lv_at hl 0 rfl) ?_
                              have hax : 0 ≤ (Int.tdiv (x * (P (53 + 3 * (r0 + i)))) w) ∧ (Int.tdiv (x * (P (53 + 3 * (r0 + i)))) w) ≤ 1000000000 := by omega
                              have hC113 := c_X2_putWhatFits l g b0 n fL (h + 1) Pk t0 (Int.tdiv (x * (P (53 + 3 * (r0 + i)))) w) ho103 ⟨by omega, by omega⟩ hwk.1 (by rw [hwk7]; omega) ⟨by omega, by omega⟩ ⟨by omega, by omega⟩ ⟨by omega, by omega⟩
                              obtain ⟨ho116, ho117, ho118, ho119, ho120⟩ := id ho103
                              refine g_callVl (ci := 4) (C := RX2) (T := TX2) (N := 5) (As := [.int (zI (↑t0 : Int)), .long (zL (Int.tdiv (x * (P (53 + 3 * (r0 + i)))) w))]) (rest := [.long (zL tk)]) ⟨hx, hb, hml, hown, hts⟩ hK hM hC113 (cuV (n := 2) hts u_495 u_492 u_5 (by decide) u_493 u_494 ⟨Nat.le_of_ble_eq_true rfl, Nat.le_of_ble_eq_true rfl⟩) ⟨by omega, by omega⟩ ho116 rfl rfl hl.1 rfl (Nat.le_of_ble_eq_true rfl) dX5_shareOut_176 ⟨Nat.zero_le _, Nat.zero_le _⟩ (fun r176 f114 H locs hM hp115 => ?_)
                              obtain ⟨rfl, hn112, o111⟩ := hp115
                              obtain ⟨P1, hP1⟩ : ∃ Q : Nat → Int, Q = sPut Pk t0 (Int.tdiv (x * (P (53 + 3 * (r0 + i)))) w) := ⟨_, rfl⟩
                              rw [← hP1] at hn112
                              have hp121 := planAt.env (P' := P1) hL hn112 o111 (fun i hi => by rw [hP1]; unfold sPut; (repeat (first | rw [pu_s] | rw [pu_n (by omega)] | rw [Int.toNat_natCast])))
                              refine g_ladd hx hb dX5_shareOut_179 ?_
                              refine lv_lstore (lv' := [(9, .long (zL (tk + (sIs Pk t0 (Int.tdiv (x * (P (53 + 3 * (r0 + i)))) w))))), (12, .long (zL (Int.tdiv (x * (P (53 + 3 * (r0 + i)))) w))), (0, .ref h), (1, .int (zI (↑r0 : Int))), (2, .int (zI (↑(r0 + mm) : Int))), (3, .long (zL x)), (5, .long (zL w)), (7, .long (zL rs)), (11, .int (zI (↑(r0 + i) : Int)))]) hx hb dX5_shareOut_180 hl (by decide) rfl (fun ls hl => ?_)
                              refine lv_iinc (v := zI ((↑(r0 + i) : Int) + 1)) (lv' := [(11, .int (zI ((↑(r0 + i) : Int) + 1))), (9, .long (zL (tk + (sIs Pk t0 (Int.tdiv (x * (P (53 + 3 * (r0 + i)))) w))))), (12, .long (zL (Int.tdiv (x * (P (53 + 3 * (r0 + i)))) w))), (0, .ref h), (1, .int (zI (↑r0 : Int))), (2, .int (zI (↑(r0 + mm) : Int))), (3, .long (zL x)), (5, .long (zL w)), (7, .long (zL rs))]) hx hb dX5_shareOut_182 hl (k := 8) rfl (zI_add _ _) (by decide) rfl (fun ls hl => ?_)
                              refine lv_goto (tgt := 108) hx hb dX5_shareOut_185 (by decide) ?_
                              obtain ⟨ho122, ho123, ho124, ho125, ho126⟩ := id hp121
                              exact ih (i + 1) rs (tk + (sIs Pk t0 (Int.tdiv (x * (P (53 + 3 * (r0 + i)))) w))) P1 f114 _ _ _ (by omega) (by omega) (by rw [sIt_succ, ← hst, hP1]; simp only [sShT, sPt, ht0, Int.toNat_natCast, if_neg (show ¬ 0 < rs by omega), Int.add_zero, Int.sub_zero]) (by rw [hP1]; exact wfE_mono (wfE_put hwk hax.1 hax.2 (by omega)) (by omega)) (fun j hj => by rw [hP1, sPut_n (by omega)]; exact hkp j hj) (by rw [hP1, sPut_n (by omega)]; exact hwk7) (by omega) (fun q hq => ((o111 (q) (by omega)).trans (hfr (q) (by omega)))) hM hp121 (lv_sub hl [3, 4, 5, 6, 7, 8, 1, 0] rfl)
                            · skip
                              refine lv_lload hx hb dX5_shareOut_146 (lv_at hl 0 rfl) ?_
                              refine g_lconst (z := 1) hx hb dX5_shareOut_148 (by decide) ?_
                              refine g_ladd hx hb dX5_shareOut_149 ?_
                              refine lv_lstore (lv' := [(12, .long (zL ((Int.tdiv (x * (P (53 + 3 * (r0 + i)))) w) + 1))), (0, .ref h), (1, .int (zI (↑r0 : Int))), (2, .int (zI (↑(r0 + mm) : Int))), (3, .long (zL x)), (5, .long (zL w)), (7, .long (zL rs)), (9, .long (zL tk)), (11, .int (zI (↑(r0 + i) : Int)))]) hx hb dX5_shareOut_150 hl (by decide) rfl (fun ls hl => ?_)
                              refine lv_lload hx hb dX5_shareOut_152 (lv_at hl 6 rfl) ?_
                              refine g_lconst (z := 1) hx hb dX5_shareOut_154 (by decide) ?_
                              refine g_lsub hx hb dX5_shareOut_155 ?_
                              refine lv_lstore (lv' := [(7, .long (zL (rs - 1))), (12, .long (zL ((Int.tdiv (x * (P (53 + 3 * (r0 + i)))) w) + 1))), (0, .ref h), (1, .int (zI (↑r0 : Int))), (2, .int (zI (↑(r0 + mm) : Int))), (3, .long (zL x)), (5, .long (zL w)), (9, .long (zL tk)), (11, .int (zI (↑(r0 + i) : Int)))]) hx hb dX5_shareOut_156 hl (by decide) rfl (fun ls hl => ?_)
                              refine lv_lload hx hb dX5_shareOut_158 (lv_at hl 7 rfl) ?_
                              refine lv_aload_n hx hb dX5_shareOut_160 rfl (lv_at hl 2 rfl) ?_
                              refine g_get (ci := 7) (v := .ref (h + 1)) (C := RX5) (T := TX5) (N := 11) hx hb hts iU_X5 hown hK hM ⟨by omega, by omega⟩ ho102 rfl 0 (by decide) (hts _ u_164) (fun _ h9 => h9) rfl dX5_shareOut_161 ?_
                              refine lv_aload_n hx hb dX5_shareOut_164 rfl (lv_at hl 2 rfl) ?_
                              refine g_get (ci := 7) (v := .ref (h + 6)) (C := RX5) (T := TX5) (N := 11) hx hb hts iU_X5 hown hK hM ⟨by omega, by omega⟩ ho102 rfl 1 (by decide) (hts _ u_166) (fun _ h9 => h9) rfl dX5_shareOut_165 ?_
                              refine g_getN (ci := 9) (v := .ref (h + 6 + 2)) (C := RX7) (T := TX7) (N := 4) hx hb hts iU_X7 hown hK hM ⟨by omega, by omega⟩ ho107 rfl 1 (by decide) (hts _ u_84) (fun _ h9 => h9) rfl dX5_shareOut_168 ?_
                              refine lv_iload hx hb dX5_shareOut_171 (lv_at hl 8 rfl) ?_
                              refine g_iald hx hb hK hM ⟨by omega, by omega⟩ ho109 (by omega) (by omega) (by decide) dX5_shareOut_173 ?_
                              show W _ _ _ _ _ _ _ _ _ _ _ _ _ _ _ (F0 _ _ _ (.int (zI (Pk (52 + 3 * (r0 + i)))) :: _))
                              rw [hk52]
                              refine lv_lload hx hb dX5_shareOut_174 (lv_at hl 1 rfl) ?_
                              have hax : 0 ≤ ((Int.tdiv (x * (P (53 + 3 * (r0 + i)))) w) + 1) ∧ ((Int.tdiv (x * (P (53 + 3 * (r0 + i)))) w) + 1) ≤ 1000000000 := by omega
                              have hC129 := c_X2_putWhatFits l g b0 n fL (h + 1) Pk t0 ((Int.tdiv (x * (P (53 + 3 * (r0 + i)))) w) + 1) ho103 ⟨by omega, by omega⟩ hwk.1 (by rw [hwk7]; omega) ⟨by omega, by omega⟩ ⟨by omega, by omega⟩ ⟨by omega, by omega⟩
                              obtain ⟨ho132, ho133, ho134, ho135, ho136⟩ := id ho103
                              refine g_callVl (ci := 4) (C := RX2) (T := TX2) (N := 5) (As := [.int (zI (↑t0 : Int)), .long (zL ((Int.tdiv (x * (P (53 + 3 * (r0 + i)))) w) + 1))]) (rest := [.long (zL tk)]) ⟨hx, hb, hml, hown, hts⟩ hK hM hC129 (cuV (n := 2) hts u_495 u_492 u_5 (by decide) u_493 u_494 ⟨Nat.le_of_ble_eq_true rfl, Nat.le_of_ble_eq_true rfl⟩) ⟨by omega, by omega⟩ ho132 rfl rfl hl.1 rfl (Nat.le_of_ble_eq_true rfl) dX5_shareOut_176 ⟨Nat.zero_le _, Nat.zero_le _⟩ (fun r176 f130 H locs hM hp131 => ?_)
                              obtain ⟨rfl, hn128, o127⟩ := hp131
                              obtain ⟨P1, hP1⟩ : ∃ Q : Nat → Int, Q = sPut Pk t0 ((Int.tdiv (x * (P (53 + 3 * (r0 + i)))) w) + 1) := ⟨_, rfl⟩
                              rw [← hP1] at hn128
                              have hp137 := planAt.env (P' := P1) hL hn128 o127 (fun i hi => by rw [hP1]; unfold sPut; (repeat (first | rw [pu_s] | rw [pu_n (by omega)] | rw [Int.toNat_natCast])))
                              refine g_ladd hx hb dX5_shareOut_179 ?_
                              refine lv_lstore (lv' := [(9, .long (zL (tk + (sIs Pk t0 ((Int.tdiv (x * (P (53 + 3 * (r0 + i)))) w) + 1))))), (7, .long (zL (rs - 1))), (12, .long (zL ((Int.tdiv (x * (P (53 + 3 * (r0 + i)))) w) + 1))), (0, .ref h), (1, .int (zI (↑r0 : Int))), (2, .int (zI (↑(r0 + mm) : Int))), (3, .long (zL x)), (5, .long (zL w)), (11, .int (zI (↑(r0 + i) : Int)))]) hx hb dX5_shareOut_180 hl (by decide) rfl (fun ls hl => ?_)
                              refine lv_iinc (v := zI ((↑(r0 + i) : Int) + 1)) (lv' := [(11, .int (zI ((↑(r0 + i) : Int) + 1))), (9, .long (zL (tk + (sIs Pk t0 ((Int.tdiv (x * (P (53 + 3 * (r0 + i)))) w) + 1))))), (7, .long (zL (rs - 1))), (12, .long (zL ((Int.tdiv (x * (P (53 + 3 * (r0 + i)))) w) + 1))), (0, .ref h), (1, .int (zI (↑r0 : Int))), (2, .int (zI (↑(r0 + mm) : Int))), (3, .long (zL x)), (5, .long (zL w))]) hx hb dX5_shareOut_182 hl (k := 8) rfl (zI_add _ _) (by decide) rfl (fun ls hl => ?_)
                              refine lv_goto (tgt := 108) hx hb dX5_shareOut_185 (by decide) ?_
                              obtain ⟨ho138, ho139, ho140, ho141, ho142⟩ := id hp137
                              exact ih (i + 1) (rs - 1) (tk + (sIs Pk t0 ((Int.tdiv (x * (P (53 + 3 * (r0 + i)))) w) + 1))) P1 f130 _ _ _ (by omega) (by omega) (by rw [sIt_succ, ← hst, hP1]; simp only [sShT, sPt, ht0, Int.toNat_natCast, if_pos (show 0 < rs by omega)]) (by rw [hP1]; exact wfE_mono (wfE_put hwk hax.1 hax.2 (by omega)) (by omega)) (fun j hj => by rw [hP1, sPut_n (by omega)]; exact hkp j hj) (by rw [hP1, sPut_n (by omega)]; exact hwk7) (by omega) (fun q hq => ((o127 (q) (by omega)).trans (hfr (q) (by omega)))) hM hp137 (lv_sub hl [4, 5, 6, 7, 8, 2, 1, 0] rfl)
                    obtain ⟨ho143, ho144, ho145, ho146, ho147⟩ := id hE
                    exact lp108 ((mm + 1)) 0 cv 0 P f _ _ _ (by omega) (by omega) rfl (wfE_mono hwe (by omega)) (fun j hj => rfl) rfl (by omega) (fun q hq => rfl) hM hE (lv_sub hl [2, 3, 4, 5, 6, 7, 1, 0] rfl)
                  · skip
                    obtain ⟨hn1, hn2, hn3, hn4⟩ := hsh.2.2 i2 (by omega)
                    have hpx := shp_ok hlr1 hlr2 hn3 hn4 hw1
                    refine lv_iload hx hb dX5_shareOut_68 (lv_at hl 6 rfl) ?_
                    refine g_bipush hx hb dX5_shareOut_70 (by decide) ?_
                    refine g_icmp_ge (tgt := 102) hx hb dX5_shareOut_72 (by decide) ⟨by omega, by omega⟩ (by decide) (fun c72 => ?_) (fun c72 => ?_)
                    · skip
                      have him2 : i2 = mm := by omega
                      have hpi := sPts_in hsh hlr1 hlr2 hw1 i2 (by omega)
                      have hcvb : -600000000 ≤ cv ∧ cv ≤ 1000000 := by omega
                      refine g_lconst (z := 0) hx hb dX5_shareOut_102 (by decide) ?_
                      refine lv_lstore (lv' := [(9, .long (zL 0)), (0, .ref h), (1, .int (zI (↑r0 : Int))), (2, .int (zI (↑(r0 + mm) : Int))), (3, .long (zL x)), (5, .long (zL w)), (7, .long (zL cv))]) hx hb dX5_shareOut_103 hl (by decide) rfl (fun ls hl => ?_)
                      refine lv_iload_n hx hb dX5_shareOut_105 rfl (lv_at hl 2 rfl) ?_
                      refine lv_istore (lv' := [(11, .int (zI (↑r0 : Int))), (9, .long (zL 0)), (0, .ref h), (1, .int (zI (↑r0 : Int))), (2, .int (zI (↑(r0 + mm) : Int))), (3, .long (zL x)), (5, .long (zL w)), (7, .long (zL cv))]) hx hb dX5_shareOut_106 hl (by decide) rfl (fun ls hl => ?_)
                      have lp108 : ∀ (k3 : Nat), ∀ (i : Nat) (rs : Int) (tk : Int) (Pk : Nat → Int) (fL : gF) (H : Heap) (locs : List Loc) (ls : Array Slot), (mm - i < k3) → (i ≤ mm) → ((rs, tk, Pk) = sIt (sShT P x w r0) (cv, 0, P) i) → (wfE Pk (1000000000000000 + i * 1000000000)) → (∀ j, 51 ≤ j → Pk j = P j) → (Pk 7 = P 7) → (cv - i ≤ rs ∧ rs ≤ cv) → (∀ q, (q < h ∨ h + 23 ≤ q) → fL q = f q) → gH g b0 n fL s.heap H locs → (planAt g fL h Pk) → lv_has ls 14 [(0, .ref h), (1, .int (zI (↑r0 : Int))), (2, .int (zI (↑(r0 + mm) : Int))), (3, .long (zL x)), (5, .long (zL w)), (7, .long (zL rs)), (9, .long (zL tk)), (11, .int (zI (↑(r0 + i) : Int)))] → W p l e0 { frames := 1, cells := 0, slots := 0, locals := 25 } s m args below meth c H locs 0 0 (MQ below (va_Ql (po_X5_shareOut g f h P r0 mm x) (gB g b0 n) (gA b0)) args s 0 0 (gA b0)) (F0 m 108 ls []) := by
                        intro k3
                        induction k3 with
                        | zero =>
                          intro i rs tk Pk fL H locs ls hk hi3 hst hwk hkp hwk7 hrs hfr hM hL hl
                          exact absurd hk (Nat.not_lt_zero _)
                        | succ k3 ih =>
                          intro i rs tk Pk fL H locs ls hk hi3 hst hwk hkp hwk7 hrs hfr hM hL hl
                          refine lv_iload hx hb dX5_shareOut_108 (lv_at hl 7 rfl) ?_
                          refine lv_iload_n hx hb dX5_shareOut_110 rfl (lv_at hl 2 rfl) ?_
                          refine g_icmp_ge (tgt := 188) hx hb dX5_shareOut_111 (by decide) ⟨by omega, by omega⟩ ⟨by omega, by omega⟩ (fun c111 => ?_) (fun c111 => ?_)
                          · skip
                            refine lv_lload hx hb dX5_shareOut_188 (lv_at hl 6 rfl) ?_
                            refine g_lret hx hb hr hlk hK hM dX5_shareOut_190 ?_
                            have him3 : i = mm := by omega
                            have hS : sShare P r0 mm x = (tk, Pk) := by
                              have hcv2 : x - sSum (fun k => sPt P x w (r0 + k)) mm = cv := by rw [hcv, him2]
                              unfold sShare
                              simp only [← hwv, hcv2]
                              rw [← him3, ← hst]
                            refine ⟨by rw [hS], ?_, (fun q hq => (hfr (q) (by omega)))⟩
                            rw [hS]
                            exact hL
                          · skip
                            obtain ⟨hn1, hn2, hn3, hn4⟩ := hsh.2.2 i (by omega)
                            have hpx := shp_ok hlr1 hlr2 hn3 hn4 hw1
                            obtain ⟨t0, ht0⟩ : ∃ q : Nat, P (52 + 3 * (r0 + i)) = q := ⟨(P (52 + 3 * (r0 + i))).toNat, by omega⟩
                            obtain ⟨⟨hz1, hz2⟩, ⟨hz3, hz4⟩, hz5⟩ := hwk.2 t0 (by omega)
                            have hk53 : Pk (53 + 3 * (r0 + i)) = P (53 + 3 * (r0 + i)) := hkp _ (by omega)
                            have hk52 : Pk (52 + 3 * (r0 + i)) = (t0 : Int) := (hkp _ (by omega)).trans ht0
                            have hpx1 := hpx.2.1
                            have hpx2 := hpx.2.2
                            refine lv_iload hx hb dX5_shareOut_114 (lv_at hl 7 rfl) ?_
                            refine g_bipush hx hb dX5_shareOut_116 (by decide) ?_
                            refine g_icmp_ge (tgt := 188) hx hb dX5_shareOut_118 (by decide) ⟨by omega, by omega⟩ (by decide) (fun c118 => ?_) (fun c118 => ?_)
                            · skip
                              refine lv_lload hx hb dX5_shareOut_188 (lv_at hl 6 rfl) ?_
                              refine g_lret hx hb hr hlk hK hM dX5_shareOut_190 ?_
                              have him3 : i = mm := by omega
                              have hS : sShare P r0 mm x = (tk, Pk) := by
                                have hcv2 : x - sSum (fun k => sPt P x w (r0 + k)) mm = cv := by rw [hcv, him2]
                                unfold sShare
                                simp only [← hwv, hcv2]
                                rw [← him3, ← hst]
                              refine ⟨by rw [hS], ?_, (fun q hq => (hfr (q) (by omega)))⟩
                              rw [hS]
                              exact hL
                            · skip
                              refine lv_lload_n hx hb dX5_shareOut_121 rfl (lv_at hl 3 rfl) ?_
                              refine lv_aload_n hx hb dX5_shareOut_122 rfl (lv_at hl 0 rfl) ?_
                              obtain ⟨ho148, ho149, ho150, ho151, ho152⟩ := id hL
                              refine g_get (ci := 7) (v := .ref (h + 6)) (C := RX5) (T := TX5) (N := 11) hx hb hts iU_X5 hown hK hM ⟨by omega, by omega⟩ ho148 rfl 1 (by decide) (hts _ u_166) (fun _ h9 => h9) rfl dX5_shareOut_123 ?_
                              obtain ⟨ho153, ho154, ho155, ho156⟩ := id ho150
                              refine g_getN (ci := 9) (v := .ref (h + 6 + 3)) (C := RX7) (T := TX7) (N := 4) hx hb hts iU_X7 hown hK hM ⟨by omega, by omega⟩ ho153 rfl 2 (by decide) (hts _ u_86) (fun _ h9 => h9) rfl dX5_shareOut_126 ?_
                              refine lv_iload hx hb dX5_shareOut_129 (lv_at hl 7 rfl) ?_
                              refine g_iald hx hb hK hM ⟨by omega, by omega⟩ ho156 (by omega) (by omega) (by decide) dX5_shareOut_131 ?_
                              show W _ _ _ _ _ _ _ _ _ _ _ _ _ _ _ (F0 _ _ _ (.int (zI (Pk (53 + 3 * (r0 + i)))) :: _))
                              rw [hk53]
                              refine g_i2l hx hb dX5_shareOut_132 ⟨by omega, by omega⟩ ?_
                              refine g_lmul hx hb dX5_shareOut_133 ?_
                              refine lv_lload hx hb dX5_shareOut_134 (lv_at hl 4 rfl) ?_
                              refine g_ldiv hx hb dX5_shareOut_136 hpx.1 ⟨by omega, by omega⟩ (by omega) ?_
                              refine lv_lstore (lv' := [(12, .long (zL (Int.tdiv (x * (P (53 + 3 * (r0 + i)))) w))), (0, .ref h), (1, .int (zI (↑r0 : Int))), (2, .int (zI (↑(r0 + mm) : Int))), (3, .long (zL x)), (5, .long (zL w)), (7, .long (zL rs)), (9, .long (zL tk)), (11, .int (zI (↑(r0 + i) : Int)))]) hx hb dX5_shareOut_137 hl (by decide) rfl (fun ls hl => ?_)
                              refine lv_lload hx hb dX5_shareOut_139 (lv_at hl 6 rfl) ?_
                              refine g_lconst (z := 0) hx hb dX5_shareOut_141 (by decide) ?_
                              refine g_lcmp_le (tgt := 158) hx hb dX5_shareOut_142 dX5_shareOut_143 (by decide) ⟨by omega, by omega⟩ (by decide) (fun c142 => ?_) (fun c142 => ?_)
                              · skip
                                refine lv_lload hx hb dX5_shareOut_158 (lv_at hl 7 rfl) ?_
                                refine lv_aload_n hx hb dX5_shareOut_160 rfl (lv_at hl 1 rfl) ?_
                                refine g_get (ci := 7) (v := .ref (h + 1)) (C := RX5) (T := TX5) (N := 11) hx hb hts iU_X5 hown hK hM ⟨by omega, by omega⟩ ho148 rfl 0 (by decide) (hts _ u_164) (fun _ h9 => h9) rfl dX5_shareOut_161 ?_
                                refine lv_aload_n hx hb dX5_shareOut_164 rfl (lv_at hl 1 rfl) ?_
                                refine g_get (ci := 7) (v := .ref (h + 6)) (C := RX5) (T := TX5) (N := 11) hx hb hts iU_X5 hown hK hM ⟨by omega, by omega⟩ ho148 rfl 1 (by decide) (hts _ u_166) (fun _ h9 => h9) rfl dX5_shareOut_165 ?_
                                refine g_getN (ci := 9) (v := .ref (h + 6 + 2)) (C := RX7) (T := TX7) (N := 4) hx hb hts iU_X7 hown hK hM ⟨by omega, by omega⟩ ho153 rfl 1 (by decide) (hts _ u_84) (fun _ h9 => h9) rfl dX5_shareOut_168 ?_
                                refine lv_iload hx hb dX5_shareOut_171 (lv_at hl 8 rfl) ?_
                                refine g_iald hx hb hK hM ⟨by omega, by omega⟩ ho155 (by omega) (by omega) (by decide) dX5_shareOut_173 ?_
                                show W _ _ _ _ _ _ _ _ _ _ _ _ _ _ _ (F0 _ _ _ (.int (zI (Pk (52 + 3 * (r0 + i)))) :: _))
                                rw [hk52]
                                refine lv_lload hx hb dX5_shareOut_174 (lv_at hl 0 rfl) ?_
                                have hax : 0 ≤ (Int.tdiv (x * (P (53 + 3 * (r0 + i)))) w) ∧ (Int.tdiv (x * (P (53 + 3 * (r0 + i)))) w) ≤ 1000000000 := by omega
                                have hC159 := c_X2_putWhatFits l g b0 n fL (h + 1) Pk t0 (Int.tdiv (x * (P (53 + 3 * (r0 + i)))) w) ho149 ⟨by omega, by omega⟩ hwk.1 (by rw [hwk7]; omega) ⟨by omega, by omega⟩ ⟨by omega, by omega⟩ ⟨by omega, by omega⟩
                                obtain ⟨ho162, ho163, ho164, ho165, ho166⟩ := id ho149
                                refine g_callVl (ci := 4) (C := RX2) (T := TX2) (N := 5) (As := [.int (zI (↑t0 : Int)), .long (zL (Int.tdiv (x * (P (53 + 3 * (r0 + i)))) w))]) (rest := [.long (zL tk)]) ⟨hx, hb, hml, hown, hts⟩ hK hM hC159 (cuV (n := 2) hts u_495 u_492 u_5 (by decide) u_493 u_494 ⟨Nat.le_of_ble_eq_true rfl, Nat.le_of_ble_eq_true rfl⟩) ⟨by omega, by omega⟩ ho162 rfl rfl hl.1 rfl (Nat.le_of_ble_eq_true rfl) dX5_shareOut_176 ⟨Nat.zero_le _, Nat.zero_le _⟩ (fun r176 f160 H locs hM hp161 => ?_)
                                obtain ⟨rfl, hn158, o157⟩ := hp161
                                obtain ⟨P1, hP1⟩ : ∃ Q : Nat → Int, Q = sPut Pk t0 (Int.tdiv (x * (P (53 + 3 * (r0 + i)))) w) := ⟨_, rfl⟩
                                rw [← hP1] at hn158
                                have hp167 := planAt.env (P' := P1) hL hn158 o157 (fun i hi => by rw [hP1]; unfold sPut; (repeat (first | rw [pu_s] | rw [pu_n (by omega)] | rw [Int.toNat_natCast])))
                                refine g_ladd hx hb dX5_shareOut_179 ?_
                                refine lv_lstore (lv' := [(9, .long (zL (tk + (sIs Pk t0 (Int.tdiv (x * (P (53 + 3 * (r0 + i)))) w))))), (12, .long (zL (Int.tdiv (x * (P (53 + 3 * (r0 + i)))) w))), (0, .ref h), (1, .int (zI (↑r0 : Int))), (2, .int (zI (↑(r0 + mm) : Int))), (3, .long (zL x)), (5, .long (zL w)), (7, .long (zL rs)), (11, .int (zI (↑(r0 + i) : Int)))]) hx hb dX5_shareOut_180 hl (by decide) rfl (fun ls hl => ?_)
                                refine lv_iinc (v := zI ((↑(r0 + i) : Int) + 1)) (lv' := [(11, .int (zI ((↑(r0 + i) : Int) + 1))), (9, .long (zL (tk + (sIs Pk t0 (Int.tdiv (x * (P (53 + 3 * (r0 + i)))) w))))), (12, .long (zL (Int.tdiv (x * (P (53 + 3 * (r0 + i)))) w))), (0, .ref h), (1, .int (zI (↑r0 : Int))), (2, .int (zI (↑(r0 + mm) : Int))), (3, .long (zL x)), (5, .long (zL w)), (7, .long (zL rs))]) hx hb dX5_shareOut_182 hl (k := 8) rfl (zI_add _ _) (by decide) rfl (fun ls hl => ?_)
                                refine lv_goto (tgt := 108) hx hb dX5_shareOut_185 (by decide) ?_
                                obtain ⟨ho168, ho169, ho170, ho171, ho172⟩ := id hp167
                                exact ih (i + 1) rs (tk + (sIs Pk t0 (Int.tdiv (x * (P (53 + 3 * (r0 + i)))) w))) P1 f160 _ _ _ (by omega) (by omega) (by rw [sIt_succ, ← hst, hP1]; simp only [sShT, sPt, ht0, Int.toNat_natCast, if_neg (show ¬ 0 < rs by omega), Int.add_zero, Int.sub_zero]) (by rw [hP1]; exact wfE_mono (wfE_put hwk hax.1 hax.2 (by omega)) (by omega)) (fun j hj => by rw [hP1, sPut_n (by omega)]; exact hkp j hj) (by rw [hP1, sPut_n (by omega)]; exact hwk7) (by omega) (fun q hq => ((o157 (q) (by omega)).trans (hfr (q) (by omega)))) hM hp167 (lv_sub hl [3, 4, 5, 6, 7, 8, 1, 0] rfl)
                              · skip
                                refine lv_lload hx hb dX5_shareOut_146 (lv_at hl 0 rfl) ?_
                                refine g_lconst (z := 1) hx hb dX5_shareOut_148 (by decide) ?_
                                refine g_ladd hx hb dX5_shareOut_149 ?_
                                refine lv_lstore (lv' := [(12, .long (zL ((Int.tdiv (x * (P (53 + 3 * (r0 + i)))) w) + 1))), (0, .ref h), (1, .int (zI (↑r0 : Int))), (2, .int (zI (↑(r0 + mm) : Int))), (3, .long (zL x)), (5, .long (zL w)), (7, .long (zL rs)), (9, .long (zL tk)), (11, .int (zI (↑(r0 + i) : Int)))]) hx hb dX5_shareOut_150 hl (by decide) rfl (fun ls hl => ?_)
                                refine lv_lload hx hb dX5_shareOut_152 (lv_at hl 6 rfl) ?_
                                refine g_lconst (z := 1) hx hb dX5_shareOut_154 (by decide) ?_
                                refine g_lsub hx hb dX5_shareOut_155 ?_
                                refine lv_lstore (lv' := [(7, .long (zL (rs - 1))), (12, .long (zL ((Int.tdiv (x * (P (53 + 3 * (r0 + i)))) w) + 1))), (0, .ref h), (1, .int (zI (↑r0 : Int))), (2, .int (zI (↑(r0 + mm) : Int))), (3, .long (zL x)), (5, .long (zL w)), (9, .long (zL tk)), (11, .int (zI (↑(r0 + i) : Int)))]) hx hb dX5_shareOut_156 hl (by decide) rfl (fun ls hl => ?_)
                                refine lv_lload hx hb dX5_shareOut_158 (lv_at hl 7 rfl) ?_
                                refine lv_aload_n hx hb dX5_shareOut_160 rfl (lv_at hl 2 rfl) ?_
                                refine g_get (ci := 7) (v := .ref (h + 1)) (C := RX5) (T := TX5) (N := 11) hx hb hts iU_X5 hown hK hM ⟨by omega, by omega⟩ ho148 rfl 0 (by decide) (hts _ u_164) (fun _ h9 => h9) rfl dX5_shareOut_161 ?_
                                refine lv_aload_n hx hb dX5_shareOut_164 rfl (lv_at hl 2 rfl) ?_
                                refine g_get (ci := 7) (v := .ref (h + 6)) (C := RX5) (T := TX5) (N := 11) hx hb hts iU_X5 hown hK hM ⟨by omega, by omega⟩ ho148 rfl 1 (by decide) (hts _ u_166) (fun _ h9 => h9) rfl dX5_shareOut_165 ?_
                                refine g_getN (ci := 9) (v := .ref (h + 6 + 2)) (C := RX7) (T := TX7) (N := 4) hx hb hts iU_X7 hown hK hM ⟨by omega, by omega⟩ ho153 rfl 1 (by decide) (hts _ u_84) (fun _ h9 => h9) rfl dX5_shareOut_168 ?_
                                refine lv_iload hx hb dX5_shareOut_171 (lv_at hl 8 rfl) ?_
                                refine g_iald hx hb hK hM ⟨by omega, by omega⟩ ho155 (by omega) (by omega) (by decide) dX5_shareOut_173 ?_
                                show W _ _ _ _ _ _ _ _ _ _ _ _ _ _ _ (F0 _ _ _ (.int (zI (Pk (52 + 3 * (r0 + i)))) :: _))
                                rw [hk52]
                                refine lv_lload hx hb dX5_shareOut_174 (lv_at hl 1 rfl) ?_
                                have hax : 0 ≤ ((Int.tdiv (x * (P (53 + 3 * (r0 + i)))) w) + 1) ∧ ((Int.tdiv (x * (P (53 + 3 * (r0 + i)))) w) + 1) ≤ 1000000000 := by omega
                                have hC175 := c_X2_putWhatFits l g b0 n fL (h + 1) Pk t0 ((Int.tdiv (x * (P (53 + 3 * (r0 + i)))) w) + 1) ho149 ⟨by omega, by omega⟩ hwk.1 (by rw [hwk7]; omega) ⟨by omega, by omega⟩ ⟨by omega, by omega⟩ ⟨by omega, by omega⟩
                                obtain ⟨ho178, ho179, ho180, ho181, ho182⟩ := id ho149
                                refine g_callVl (ci := 4) (C := RX2) (T := TX2) (N := 5) (As := [.int (zI (↑t0 : Int)), .long (zL ((Int.tdiv (x * (P (53 + 3 * (r0 + i)))) w) + 1))]) (rest := [.long (zL tk)]) ⟨hx, hb, hml, hown, hts⟩ hK hM hC175 (cuV (n := 2) hts u_495 u_492 u_5 (by decide) u_493 u_494 ⟨Nat.le_of_ble_eq_true rfl, Nat.le_of_ble_eq_true rfl⟩) ⟨by omega, by omega⟩ ho178 rfl rfl hl.1 rfl (Nat.le_of_ble_eq_true rfl) dX5_shareOut_176 ⟨Nat.zero_le _, Nat.zero_le _⟩ (fun r176 f176 H locs hM hp177 => ?_)
                                obtain ⟨rfl, hn174, o173⟩ := hp177
                                obtain ⟨P1, hP1⟩ : ∃ Q : Nat → Int, Q = sPut Pk t0 ((Int.tdiv (x * (P (53 + 3 * (r0 + i)))) w) + 1) := ⟨_, rfl⟩
                                rw [← hP1] at hn174
                                have hp183 := planAt.env (P' := P1) hL hn174 o173 (fun i hi => by rw [hP1]; unfold sPut; (repeat (first | rw [pu_s] | rw [pu_n (by omega)] | rw [Int.toNat_natCast])))
                                refine g_ladd hx hb dX5_shareOut_179 ?_
                                refine lv_lstore (lv' := [(9, .long (zL (tk + (sIs Pk t0 ((Int.tdiv (x * (P (53 + 3 * (r0 + i)))) w) + 1))))), (7, .long (zL (rs - 1))), (12, .long (zL ((Int.tdiv (x * (P (53 + 3 * (r0 + i)))) w) + 1))), (0, .ref h), (1, .int (zI (↑r0 : Int))), (2, .int (zI (↑(r0 + mm) : Int))), (3, .long (zL x)), (5, .long (zL w)), (11, .int (zI (↑(r0 + i) : Int)))]) hx hb dX5_shareOut_180 hl (by decide) rfl (fun ls hl => ?_)
                                refine lv_iinc (v := zI ((↑(r0 + i) : Int) + 1)) (lv' := [(11, .int (zI ((↑(r0 + i) : Int) + 1))), (9, .long (zL (tk + (sIs Pk t0 ((Int.tdiv (x * (P (53 + 3 * (r0 + i)))) w) + 1))))), (7, .long (zL (rs - 1))), (12, .long (zL ((Int.tdiv (x * (P (53 + 3 * (r0 + i)))) w) + 1))), (0, .ref h), (1, .int (zI (↑r0 : Int))), (2, .int (zI (↑(r0 + mm) : Int))), (3, .long (zL x)), (5, .long (zL w))]) hx hb dX5_shareOut_182 hl (k := 8) rfl (zI_add _ _) (by decide) rfl (fun ls hl => ?_)
                                refine lv_goto (tgt := 108) hx hb dX5_shareOut_185 (by decide) ?_
                                obtain ⟨ho184, ho185, ho186, ho187, ho188⟩ := id hp183
                                exact ih (i + 1) (rs - 1) (tk + (sIs Pk t0 ((Int.tdiv (x * (P (53 + 3 * (r0 + i)))) w) + 1))) P1 f176 _ _ _ (by omega) (by omega) (by rw [sIt_succ, ← hst, hP1]; simp only [sShT, sPt, ht0, Int.toNat_natCast, if_pos (show 0 < rs by omega)]) (by rw [hP1]; exact wfE_mono (wfE_put hwk hax.1 hax.2 (by omega)) (by omega)) (fun j hj => by rw [hP1, sPut_n (by omega)]; exact hkp j hj) (by rw [hP1, sPut_n (by omega)]; exact hwk7) (by omega) (fun q hq => ((o173 (q) (by omega)).trans (hfr (q) (by omega)))) hM hp183 (lv_sub hl [4, 5, 6, 7, 8, 2, 1, 0] rfl)
                      obtain ⟨ho189, ho190, ho191, ho192, ho193⟩ := id hE
                      exact lp108 ((mm + 1)) 0 cv 0 P f _ _ _ (by omega) (by omega) rfl (wfE_mono hwe (by omega)) (fun j hj => rfl) rfl (by omega) (fun q hq => rfl) hM hE (lv_sub hl [2, 3, 4, 5, 6, 7, 1, 0] rfl)
                    · skip
                      refine lv_lload hx hb dX5_shareOut_75 (lv_at hl 5 rfl) ?_
                      refine lv_lload_n hx hb dX5_shareOut_77 rfl (lv_at hl 3 rfl) ?_
                      refine lv_aload_n hx hb dX5_shareOut_78 rfl (lv_at hl 0 rfl) ?_
                      obtain ⟨ho194, ho195, ho196, ho197, ho198⟩ := id hE
                      refine g_get (ci := 7) (v := .ref (h + 6)) (C := RX5) (T := TX5) (N := 11) hx hb hts iU_X5 hown hK hM ⟨by omega, by omega⟩ ho194 rfl 1 (by decide) (hts _ u_166) (fun _ h9 => h9) rfl dX5_shareOut_79 ?_
                      obtain ⟨ho199, ho200, ho201, ho202⟩ := id ho196
                      refine g_getN (ci := 9) (v := .ref (h + 6 + 3)) (C := RX7) (T := TX7) (N := 4) hx hb hts iU_X7 hown hK hM ⟨by omega, by omega⟩ ho199 rfl 2 (by decide) (hts _ u_86) (fun _ h9 => h9) rfl dX5_shareOut_82 ?_
                      refine lv_iload hx hb dX5_shareOut_85 (lv_at hl 6 rfl) ?_
                      refine g_iald hx hb hK hM ⟨by omega, by omega⟩ ho202 (by omega) (by omega) (by decide) dX5_shareOut_87 ?_
                      show W _ _ _ _ _ _ _ _ _ _ _ _ _ _ _ (F0 _ _ _ (.int (zI (P (53 + 3 * (r0 + i2)))) :: _))
                      refine g_i2l hx hb dX5_shareOut_88 ⟨by omega, by omega⟩ ?_
                      refine g_lmul hx hb dX5_shareOut_89 ?_
                      refine lv_lload hx hb dX5_shareOut_90 (lv_at hl 4 rfl) ?_
                      refine g_ldiv hx hb dX5_shareOut_92 hpx.1 ⟨by omega, by omega⟩ (by omega) ?_
                      refine g_lsub hx hb dX5_shareOut_93 ?_
                      refine lv_lstore (lv' := [(7, .long (zL (cv - (Int.tdiv (x * (P (53 + 3 * (r0 + i2)))) w)))), (0, .ref h), (1, .int (zI (↑r0 : Int))), (2, .int (zI (↑(r0 + mm) : Int))), (3, .long (zL x)), (5, .long (zL w)), (9, .int (zI (↑(r0 + i2) : Int)))]) hx hb dX5_shareOut_94 hl (by decide) rfl (fun ls hl => ?_)
                      refine lv_iinc (v := zI ((↑(r0 + i2) : Int) + 1)) (lv' := [(9, .int (zI ((↑(r0 + i2) : Int) + 1))), (7, .long (zL (cv - (Int.tdiv (x * (P (53 + 3 * (r0 + i2)))) w)))), (0, .ref h), (1, .int (zI (↑r0 : Int))), (2, .int (zI (↑(r0 + mm) : Int))), (3, .long (zL x)), (5, .long (zL w))]) hx hb dX5_shareOut_96 hl (k := 6) rfl (zI_add _ _) (by decide) rfl (fun ls hl => ?_)
                      refine lv_goto (tgt := 62) hx hb dX5_shareOut_99 (by decide) ?_
                      exact ih (i2 + 1) (cv - (Int.tdiv (x * (P (53 + 3 * (r0 + i2)))) w)) _ (by omega) (by omega) (by rw [hcv]; show _ = x - (sSum _ i2 + sPt P x w (r0 + i2)); unfold sPt; omega) (lv_sub hl [2, 3, 4, 5, 6, 1, 0] rfl)
              exact lp62 ((mm + 1)) 0 x _ (by omega) (by omega) (by show x = x - 0; omega) (lv_sub hl [2, 3, 4, 5, 6, 1, 0] rfl)
            · skip
              refine g_lconst (z := 0) hx hb dX5_shareOut_54 (by decide) ?_
              refine g_lret hx hb hr hlk hK hM dX5_shareOut_55 ?_
              exfalso; omega
          · skip
            refine lv_lload hx hb dX5_shareOut_25 (lv_at hl 4 rfl) ?_
            refine lv_aload_n hx hb dX5_shareOut_27 rfl (lv_at hl 0 rfl) ?_
            obtain ⟨ho203, ho204, ho205, ho206, ho207⟩ := id hE
            refine g_get (ci := 7) (v := .ref (h + 6)) (C := RX5) (T := TX5) (N := 11) hx hb hts iU_X5 hown hK hM ⟨by omega, by omega⟩ ho203 rfl 1 (by decide) (hts _ u_166) (fun _ h9 => h9) rfl dX5_shareOut_28 ?_
            obtain ⟨ho208, ho209, ho210, ho211⟩ := id ho205
            refine g_getN (ci := 9) (v := .ref (h + 6 + 3)) (C := RX7) (T := TX7) (N := 4) hx hb hts iU_X7 hown hK hM ⟨by omega, by omega⟩ ho208 rfl 2 (by decide) (hts _ u_86) (fun _ h9 => h9) rfl dX5_shareOut_31 ?_
            refine lv_iload hx hb dX5_shareOut_34 (lv_at hl 5 rfl) ?_
            refine g_iald hx hb hK hM ⟨by omega, by omega⟩ ho211 (by omega) (by omega) (by decide) dX5_shareOut_36 ?_
            show W _ _ _ _ _ _ _ _ _ _ _ _ _ _ _ (F0 _ _ _ (.int (zI (P (53 + 3 * (r0 + i)))) :: _))
            refine g_i2l hx hb dX5_shareOut_37 ⟨by omega, by omega⟩ ?_
            refine g_ladd hx hb dX5_shareOut_38 ?_
            refine lv_lstore (lv' := [(5, .long (zL ((sSum (fun k => P (53 + 3 * (r0 + k))) i) + (P (53 + 3 * (r0 + i)))))), (0, .ref h), (1, .int (zI (↑r0 : Int))), (2, .int (zI (↑(r0 + mm) : Int))), (3, .long (zL x)), (7, .int (zI (↑(r0 + i) : Int)))]) hx hb dX5_shareOut_39 hl (by decide) rfl (fun ls hl => ?_)
            refine lv_iinc (v := zI ((↑(r0 + i) : Int) + 1)) (lv' := [(7, .int (zI ((↑(r0 + i) : Int) + 1))), (5, .long (zL ((sSum (fun k => P (53 + 3 * (r0 + k))) i) + (P (53 + 3 * (r0 + i)))))), (0, .ref h), (1, .int (zI (↑r0 : Int))), (2, .int (zI (↑(r0 + mm) : Int))), (3, .long (zL x))]) hx hb dX5_shareOut_41 hl (k := 5) rfl (zI_add _ _) (by decide) rfl (fun ls hl => ?_)
            refine lv_goto (tgt := 12) hx hb dX5_shareOut_44 (by decide) ?_
            exact ih (i + 1) _ (by omega) (by omega) (lv_sub hl [2, 3, 4, 5, 1, 0] rfl)
    exact lp12 ((mm + 1)) 0 _ (by omega) (by omega) (lv_sub hl [2, 3, 4, 5, 1, 0] rfl)
  · skip
    refine g_lconst (z := 0) hx hb dX5_shareOut_4 (by decide) ?_
    refine g_lret hx hb hr hlk hK hM dX5_shareOut_5 ?_
    exfalso; omega
