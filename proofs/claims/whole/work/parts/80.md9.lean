def po_X9_isBranch (g : gE) (f : gF) (h : Nat) (Z Mn : Nat → Int) (sc : Nat → Nat) (ex : Nat → Int) (z : Int) : Int32 → gF → Prop := fun r f1 => r = bI (FD ex z) ∧ f = f1
set_option maxRecDepth 100000 in
set_option maxHeartbeats 1000000 in
/-- isBranch -/
theorem c_X9_isBranch (l : Launch) (g : gE) (b0 n : Nat) (f : gF) (h : Nat) (Z Mn : Nat → Int) (sc : Nat → Nat) (ex : Nat → Int) (z : Int) (hO : mdO f h Z) (hrg : b0 ≤ h ∧ h + 13 ≤ b0 + n) (hMn : arI g f (h + 4) 6 Mn) (hmn : mnOk Mn sc ex) (hrz : rI z) : cI l yX9_isBranch cX9_isBranch 2 (some .boolean) 1 25 [.ref h, .int (zI z)] g b0 n f (po_X9_isBranch g f h Z Mn sc ex z) := by
  refine gs_i (cc := cX9_isBranch) (maxL := 2) (ret := (some .boolean)) (by decide) (Nat.le_of_ble_eq_true rfl) ?_
  intro p e0 s m args below meth c ls hx hb hr hml hown hts hlk hK hM hl
  have hl : lv_has ls 2 [(0, .ref h), (1, .int (zI z))] := hl
  refine lv_iload_n hx hb dX9_isBranch_0 rfl (lv_at hl 1 rfl) ?_
  refine g_i2l hx hb dX9_isBranch_1 hrz ?_
  refine g_lconst (z := 0) hx hb dX9_isBranch_2 (by decide) ?_
  refine g_ldc2 (z := 5) hx hb hown (hts _ u_1434) dX9_isBranch_3 (by decide) ?_
  have hC1 := c_X9_in l g b0 n f z 0 5 (rI_L hrz) (by decide) (by decide)
  refine g_callSi (As := [.long (zL z), .long (zL 0), .long (zL 5)]) (rest := []) ⟨hx, hb, hml, hown, hts⟩ hK hM hC1 (cuS (n := 3) hts u_1240 u_1238 u_10 (by decide) u_1239 ⟨Nat.le_of_ble_eq_true rfl, Nat.le_of_ble_eq_true rfl⟩) rfl hl.1 rfl (Nat.le_of_ble_eq_true rfl) dX9_isBranch_6 ⟨Nat.zero_le _, Nat.zero_le _⟩ (fun r6 f2 H locs hM hp3 => ?_)
  obtain ⟨rfl, rfl⟩ := hp3
  refine g_ifb_eq (tgt := 25) hx hb dX9_isBranch_9 (by decide) (fun c9 => ?_) (fun c9 => ?_)
  · skip
    refine g_iconst hx hb dX9_isBranch_25 ?_
    refine g_zret hx hb hr hlk hK hM dX9_isBranch_26 rfl ?_
    refine ⟨?_, rfl⟩
    show zI 0 = _
    first | exact (bI_t ⟨by omega, by omega, by omega⟩).symm | exact (bI_f (fun hh => by have := hh.1; have := hh.2.1; have := hh.2.2; omega)).symm
  · skip
    obtain ⟨hq1, hq2⟩ := mnOk_ex (k := z.toNat) hmn (by omega)
    refine lv_aload_n hx hb dX9_isBranch_12 rfl (lv_at hl 0 rfl) ?_
    refine g_get (ci := 11) (v := .ref (h + 4)) (C := RX9) (T := TX9) (N := 24) hx hb hts iU_X9 hown hK hM ⟨by omega, by omega⟩ hO rfl 4 (by decide) (hts _ u_1148) (fun _ h9 => h9) rfl dX9_isBranch_13 ?_
    refine lv_iload_n hx hb dX9_isBranch_16 rfl (lv_at hl 1 rfl) ?_
    refine g_iald hx hb hK hM ⟨by omega, by omega⟩ hMn (by omega) (by omega) (by decide) dX9_isBranch_17 ?_
    show W _ _ _ _ _ _ _ _ _ _ _ _ _ _ _ (F0 _ _ _ (.int (zI (Mn z.toNat)) :: _))
    refine g_if_lt (tgt := 25) hx hb dX9_isBranch_18 (by decide) hq1 (fun c18 => ?_) (fun c18 => ?_)
    · skip
      refine g_iconst hx hb dX9_isBranch_25 ?_
      refine g_zret hx hb hr hlk hK hM dX9_isBranch_26 rfl ?_
      refine ⟨?_, rfl⟩
      show zI 0 = _
      first | exact (bI_t ⟨by omega, by omega, by omega⟩).symm | exact (bI_f (fun hh => by have := hh.1; have := hh.2.1; have := hh.2.2; omega)).symm
    · skip
      refine g_iconst hx hb dX9_isBranch_21 ?_
      refine lv_goto (tgt := 26) hx hb dX9_isBranch_22 (by decide) ?_
      refine g_zret hx hb hr hlk hK hM dX9_isBranch_26 rfl ?_
      refine ⟨?_, rfl⟩
      show zI 1 = _
      first | exact (bI_t ⟨by omega, by omega, by omega⟩).symm | exact (bI_f (fun hh => by have := hh.1; have := hh.2.1; have := hh.2.2; omega)).symm

def po_X9_children (g : gE) (f : gF) (h : Nat) (Z Mn Pr : Nat → Int) (sc : Nat → Nat) (pr ex : Nat → Int) (z : Int) : Int32 → gF → Prop := fun r f1 => r = zI (sChd pr ex z 6) ∧ f = f1
set_option maxRecDepth 100000 in
set_option maxHeartbeats 1000000 in
/-- children -/
theorem c_X9_children (l : Launch) (g : gE) (b0 n : Nat) (f : gF) (h : Nat) (Z Mn Pr : Nat → Int) (sc : Nat → Nat) (pr ex : Nat → Int) (z : Int) (hO : mdO f h Z) (hrg : b0 ≤ h ∧ h + 13 ≤ b0 + n) (hMn : arI g f (h + 4) 6 Mn) (hPr : arI g f (h + 5) 6 Pr) (hmn : mnOk Mn sc ex) (hpri : ∀ k, k < 6 → rI (pr k)) (hp0 : pr 0 = -1) (hPq : ∀ k, k < 6 → ex k = 1 → Pr k = pr k) (hrz : rI z) (hz0 : 0 ≤ z) : cI l yX9_children cX9_children 4 (some .int) 0 0 [.ref h, .int (zI z)] g b0 n f (po_X9_children g f h Z Mn Pr sc pr ex z) := by
  refine gs_i (cc := cX9_children) (maxL := 4) (ret := (some .int)) (by decide) (Nat.le_of_ble_eq_true rfl) ?_
  intro p e0 s m args below meth c ls hx hb hr hml hown hts hlk hK hM hl
  have hl : lv_has ls 4 [(0, .ref h), (1, .int (zI z))] := hl
  refine g_iconst hx hb dX9_children_0 ?_
  refine lv_istore_n (lv' := [(2, .int (zI 0)), (0, .ref h), (1, .int (zI z))]) hx hb dX9_children_1 rfl hl (by decide) rfl (fun ls hl => ?_)
  refine g_iconst hx hb dX9_children_2 ?_
  refine lv_istore_n (lv' := [(3, .int (zI 1)), (2, .int (zI 0)), (0, .ref h), (1, .int (zI z))]) hx hb dX9_children_3 rfl hl (by decide) rfl (fun ls hl => ?_)
  have lp4 : ∀ (k : Nat), ∀ (i : Nat) (sv : Int) (ls : Array Slot), (6 - i < k) → (i ≤ 6) → (sv = sChd pr ex z i) → lv_has ls 4 [(0, .ref h), (1, .int (zI z)), (2, .int (zI sv)), (3, .int (zI (↑i : Int)))] → W p l e0 { frames := 0, cells := 0, slots := 0, locals := 0 } s m args below meth c s.heap [] 0 0 (MQ below (va_Qi (po_X9_children g f h Z Mn Pr sc pr ex z) (gB g b0 n) (gA b0)) args s 0 0 (gA b0)) (F0 m 4 ls []) := by
    intro k
    induction k with
    | zero =>
      intro i sv ls hk hi hsv hl
      exact absurd hk (Nat.not_lt_zero _)
    | succ k ih4 =>
      intro i sv ls hk hi hsv hl
      refine lv_iload_n hx hb dX9_children_4 rfl (lv_at hl 3 rfl) ?_
      refine g_bipush hx hb dX9_children_5 (by decide) ?_
      refine g_icmp_ge (tgt := 43) hx hb dX9_children_7 (by decide) ⟨by omega, by omega⟩ (by decide) (fun c7 => ?_) (fun c7 => ?_)
      · skip
        refine lv_iload_n hx hb dX9_children_43 rfl (lv_at hl 2 rfl) ?_
        refine g_iret hx hb hr hlk hK hM dX9_children_44 ?_
        have hi6 : i = 6 := by omega
        subst hi6
        exact ⟨by rw [hsv], rfl⟩
      · skip
        obtain ⟨hq1, hq2⟩ := mnOk_ex (k := i) hmn (by omega)
        refine lv_iload_n hx hb dX9_children_10 rfl (lv_at hl 2 rfl) ?_
        refine lv_aload_n hx hb dX9_children_11 rfl (lv_at hl 0 rfl) ?_
        refine g_get (ci := 11) (v := .ref (h + 4)) (C := RX9) (T := TX9) (N := 24) hx hb hts iU_X9 hown hK hM ⟨by omega, by omega⟩ hO rfl 4 (by decide) (hts _ u_1148) (fun _ h9 => h9) rfl dX9_children_12 ?_
        refine lv_iload_n hx hb dX9_children_15 rfl (lv_at hl 3 rfl) ?_
        refine g_iald hx hb hK hM ⟨by omega, by omega⟩ hMn (by omega) (by omega) (by decide) dX9_children_16 ?_
        show W _ _ _ _ _ _ _ _ _ _ _ _ _ _ _ (F0 _ _ _ (.int (zI (Mn i)) :: _))
        refine g_if_lt (tgt := 34) hx hb dX9_children_17 (by decide) hq1 (fun c17 => ?_) (fun c17 => ?_)
        · skip
          refine g_iconst hx hb dX9_children_34 ?_
          refine g_iadd hx hb dX9_children_35 ?_
          refine lv_istore_n (lv' := [(2, .int (zI (sv + 0))), (0, .ref h), (1, .int (zI z)), (3, .int (zI (↑i : Int)))]) hx hb dX9_children_36 rfl hl (by decide) rfl (fun ls hl => ?_)
          refine lv_iinc (v := zI ((↑i : Int) + 1)) (lv' := [(3, .int (zI ((↑i : Int) + 1))), (2, .int (zI (sv + 0))), (0, .ref h), (1, .int (zI z))]) hx hb dX9_children_37 hl (k := 3) rfl (zI_add _ _) (by decide) rfl (fun ls hl => ?_)
          refine lv_goto (tgt := 4) hx hb dX9_children_40 (by decide) ?_
          exact ih4 (i + 1) (sv + 0) _ (by omega) (by omega) (by rw [sChd_up, hsv, if_neg (fun hh => by have hh1 := hh.1; have hh2 := hh.2; have := hPq i (by omega) hh1; omega)]) (lv_sub hl [2, 3, 1, 0] rfl)
        · skip
          have hpr9 : rI (Pr i) := by rw [hPq i (by omega) (by omega)]; exact hpri i (by omega)
          refine lv_aload_n hx hb dX9_children_20 rfl (lv_at hl 0 rfl) ?_
          refine g_get (ci := 11) (v := .ref (h + 5)) (C := RX9) (T := TX9) (N := 24) hx hb hts iU_X9 hown hK hM ⟨by omega, by omega⟩ hO rfl 5 (by decide) (hts _ u_1149) (fun _ h9 => h9) rfl dX9_children_21 ?_
          refine lv_iload_n hx hb dX9_children_24 rfl (lv_at hl 3 rfl) ?_
          refine g_iald hx hb hK hM ⟨by omega, by omega⟩ hPr (by omega) (by omega) (by decide) dX9_children_25 ?_
          show W _ _ _ _ _ _ _ _ _ _ _ _ _ _ _ (F0 _ _ _ (.int (zI (Pr i)) :: _))
          refine lv_iload_n hx hb dX9_children_26 rfl (lv_at hl 1 rfl) ?_
          refine g_icmp_ne (tgt := 34) hx hb dX9_children_27 (by decide) hpr9 hrz (fun c27 => ?_) (fun c27 => ?_)
          · skip
            refine g_iconst hx hb dX9_children_34 ?_
            refine g_iadd hx hb dX9_children_35 ?_
            refine lv_istore_n (lv' := [(2, .int (zI (sv + 0))), (0, .ref h), (1, .int (zI z)), (3, .int (zI (↑i : Int)))]) hx hb dX9_children_36 rfl hl (by decide) rfl (fun ls hl => ?_)
            refine lv_iinc (v := zI ((↑i : Int) + 1)) (lv' := [(3, .int (zI ((↑i : Int) + 1))), (2, .int (zI (sv + 0))), (0, .ref h), (1, .int (zI z))]) hx hb dX9_children_37 hl (k := 3) rfl (zI_add _ _) (by decide) rfl (fun ls hl => ?_)
            refine lv_goto (tgt := 4) hx hb dX9_children_40 (by decide) ?_
            exact ih4 (i + 1) (sv + 0) _ (by omega) (by omega) (by rw [sChd_up, hsv, if_neg (fun hh => by have hh1 := hh.1; have hh2 := hh.2; have := hPq i (by omega) hh1; omega)]) (lv_sub hl [2, 3, 1, 0] rfl)
          · skip
            refine g_iconst hx hb dX9_children_30 ?_
            refine lv_goto (tgt := 35) hx hb dX9_children_31 (by decide) ?_
            refine g_iadd hx hb dX9_children_35 ?_
            refine lv_istore_n (lv' := [(2, .int (zI (sv + 1))), (0, .ref h), (1, .int (zI z)), (3, .int (zI (↑i : Int)))]) hx hb dX9_children_36 rfl hl (by decide) rfl (fun ls hl => ?_)
            refine lv_iinc (v := zI ((↑i : Int) + 1)) (lv' := [(3, .int (zI ((↑i : Int) + 1))), (2, .int (zI (sv + 1))), (0, .ref h), (1, .int (zI z))]) hx hb dX9_children_37 hl (k := 3) rfl (zI_add _ _) (by decide) rfl (fun ls hl => ?_)
            refine lv_goto (tgt := 4) hx hb dX9_children_40 (by decide) ?_
            exact ih4 (i + 1) (sv + 1) _ (by omega) (by omega) (by rw [sChd_up, hsv, if_pos ⟨by omega, by have := hPq i (by omega) (by omega); omega⟩]) (lv_sub hl [2, 3, 1, 0] rfl)
  exact lp4 (7) 1 0 _ (by omega) (by omega) (by rw [sChd_up, if_neg (by rw [hp0]; omega)]; rfl) (lv_sub hl [2, 3, 1, 0] rfl)

def po_X9_branches (g : gE) (f : gF) (h : Nat) (Z Mn : Nat → Int) (sc : Nat → Nat) (ex : Nat → Int) : Int32 → gF → Prop := fun r f1 => r = zI (sCnt ex 6) ∧ f = f1
set_option maxRecDepth 100000 in
set_option maxHeartbeats 1000000 in
/-- branches -/
theorem c_X9_branches (l : Launch) (g : gE) (b0 n : Nat) (f : gF) (h : Nat) (Z Mn : Nat → Int) (sc : Nat → Nat) (ex : Nat → Int) (hO : mdO f h Z) (hrg : b0 ≤ h ∧ h + 13 ≤ b0 + n) (hMn : arI g f (h + 4) 6 Mn) (hmn : mnOk Mn sc ex) : cI l yX9_branches cX9_branches 3 (some .int) 0 0 [.ref h] g b0 n f (po_X9_branches g f h Z Mn sc ex) := by
  refine gs_i (cc := cX9_branches) (maxL := 3) (ret := (some .int)) (by decide) (Nat.le_of_ble_eq_true rfl) ?_
  intro p e0 s m args below meth c ls hx hb hr hml hown hts hlk hK hM hl
  have hl : lv_has ls 3 [(0, .ref h)] := hl
  refine g_iconst hx hb dX9_branches_0 ?_
  refine lv_istore_n (lv' := [(1, .int (zI 0)), (0, .ref h)]) hx hb dX9_branches_1 rfl hl (by decide) rfl (fun ls hl => ?_)
  refine g_iconst hx hb dX9_branches_2 ?_
  refine lv_istore_n (lv' := [(2, .int (zI 0)), (1, .int (zI 0)), (0, .ref h)]) hx hb dX9_branches_3 rfl hl (by decide) rfl (fun ls hl => ?_)
  have lp4 : ∀ (k : Nat), ∀ (i : Nat) (sv : Int) (ls : Array Slot), (6 - i < k) → (i ≤ 6) → (sv = sCnt ex i) → lv_has ls 3 [(0, .ref h), (1, .int (zI sv)), (2, .int (zI (↑i : Int)))] → W p l e0 { frames := 0, cells := 0, slots := 0, locals := 0 } s m args below meth c s.heap [] 0 0 (MQ below (va_Qi (po_X9_branches g f h Z Mn sc ex) (gB g b0 n) (gA b0)) args s 0 0 (gA b0)) (F0 m 4 ls []) := by
    intro k
    induction k with
    | zero =>
      intro i sv ls hk hi hsv hl
      exact absurd hk (Nat.not_lt_zero _)
    | succ k ih4 =>
      intro i sv ls hk hi hsv hl
      refine lv_iload_n hx hb dX9_branches_4 rfl (lv_at hl 2 rfl) ?_
      refine g_bipush hx hb dX9_branches_5 (by decide) ?_
      refine g_icmp_ge (tgt := 33) hx hb dX9_branches_7 (by decide) ⟨by omega, by omega⟩ (by decide) (fun c7 => ?_) (fun c7 => ?_)
      · skip
        refine lv_iload_n hx hb dX9_branches_33 rfl (lv_at hl 1 rfl) ?_
        refine g_iret hx hb hr hlk hK hM dX9_branches_34 ?_
        have hi6 : i = 6 := by omega
        subst hi6
        exact ⟨by rw [hsv], rfl⟩
      · skip
        obtain ⟨hq1, hq2⟩ := mnOk_ex (k := i) hmn (by omega)
        refine lv_iload_n hx hb dX9_branches_10 rfl (lv_at hl 1 rfl) ?_
        refine lv_aload_n hx hb dX9_branches_11 rfl (lv_at hl 0 rfl) ?_
        refine g_get (ci := 11) (v := .ref (h + 4)) (C := RX9) (T := TX9) (N := 24) hx hb hts iU_X9 hown hK hM ⟨by omega, by omega⟩ hO rfl 4 (by decide) (hts _ u_1148) (fun _ h9 => h9) rfl dX9_branches_12 ?_
        refine lv_iload_n hx hb dX9_branches_15 rfl (lv_at hl 2 rfl) ?_
        refine g_iald hx hb hK hM ⟨by omega, by omega⟩ hMn (by omega) (by omega) (by decide) dX9_branches_16 ?_
        show W _ _ _ _ _ _ _ _ _ _ _ _ _ _ _ (F0 _ _ _ (.int (zI (Mn i)) :: _))
        refine g_if_lt (tgt := 24) hx hb dX9_branches_17 (by decide) hq1 (fun c17 => ?_) (fun c17 => ?_)
        · skip
          refine g_iconst hx hb dX9_branches_24 ?_
          refine g_iadd hx hb dX9_branches_25 ?_
          refine lv_istore_n (lv' := [(1, .int (zI (sv + 0))), (0, .ref h), (2, .int (zI (↑i : Int)))]) hx hb dX9_branches_26 rfl hl (by decide) rfl (fun ls hl => ?_)
          refine lv_iinc (v := zI ((↑i : Int) + 1)) (lv' := [(2, .int (zI ((↑i : Int) + 1))), (1, .int (zI (sv + 0))), (0, .ref h)]) hx hb dX9_branches_27 hl (k := 2) rfl (zI_add _ _) (by decide) rfl (fun ls hl => ?_)
          refine lv_goto (tgt := 4) hx hb dX9_branches_30 (by decide) ?_
          exact ih4 (i + 1) (sv + 0) _ (by omega) (by omega) (by rw [sCnt_up, hsv, if_neg (by omega)]) (lv_sub hl [2, 1, 0] rfl)
        · skip
          refine g_iconst hx hb dX9_branches_20 ?_
          refine lv_goto (tgt := 25) hx hb dX9_branches_21 (by decide) ?_
          refine g_iadd hx hb dX9_branches_25 ?_
          refine lv_istore_n (lv' := [(1, .int (zI (sv + 1))), (0, .ref h), (2, .int (zI (↑i : Int)))]) hx hb dX9_branches_26 rfl hl (by decide) rfl (fun ls hl => ?_)
          refine lv_iinc (v := zI ((↑i : Int) + 1)) (lv' := [(2, .int (zI ((↑i : Int) + 1))), (1, .int (zI (sv + 1))), (0, .ref h)]) hx hb dX9_branches_27 hl (k := 2) rfl (zI_add _ _) (by decide) rfl (fun ls hl => ?_)
          refine lv_goto (tgt := 4) hx hb dX9_branches_30 (by decide) ?_
          exact ih4 (i + 1) (sv + 1) _ (by omega) (by omega) (by rw [sCnt_up, hsv, if_pos (by omega)]) (lv_sub hl [2, 1, 0] rfl)
  exact lp4 (7) 0 0 _ (by omega) (by omega) rfl (lv_sub hl [2, 1, 0] rfl)

def po_X9_isHeld (g : gE) (f : gF) (h : Nat) (Z M St Mn Pr : Nat → Int) (B P T : Nat → Nat → Int) (sc : Nat → Nat) (pr ex : Nat → Int) (ps : Nat) (z : Int) : Int32 → gF → Prop := fun r f1 => r = bI (HELD pr ex ps z) ∧ f = f1
set_option maxRecDepth 100000 in
set_option maxHeartbeats 1000000 in
/-- isHeld -/
theorem c_X9_isHeld (l : Launch) (g : gE) (b0 n : Nat) (f : gF) (h : Nat) (Z M St Mn Pr : Nat → Int) (B P T : Nat → Nat → Int) (sc : Nat → Nat) (pr ex : Nat → Int) (ps : Nat) (z : Int) (hO : mdO f h Z) (hrg : b0 ≤ h ∧ h + 13 ≤ b0 + n) (hPl : arJ g f (h + 1) 2058 M) (hSt : arI g f (h + 3) 1800 St) (hMn : arI g f (h + 4) 6 Mn) (hPr : arI g f (h + 5) 6 Pr) (hR : mRel M St Mn Pr B P T sc pr ex) (hz9 : Z 9 = ↑ps) (hps : ps < 6) (hpx : ex ps = 1) (hscs : ∀ k, k < 6 → ex k = 1 → sc k ≤ 60) (hexi : ∀ k, k < 6 → ex k = 0 ∨ ex k = 1) (hpri : ∀ k, k < 6 → rI (pr k)) (hp0 : pr 0 = -1) (hrz : rI z) (hz0 : 0 ≤ z) : cI l yX9_isHeld cX9_isHeld 2 (some .boolean) 1 23 [.ref h, .int (zI z)] g b0 n f (po_X9_isHeld g f h Z M St Mn Pr B P T sc pr ex ps z) := by
  refine gs_i (cc := cX9_isHeld) (maxL := 2) (ret := (some .boolean)) (by decide) (Nat.le_of_ble_eq_true rfl) ?_
  intro p e0 s m args below meth c ls hx hb hr hml hown hts hlk hK hM hl
  have hl : lv_has ls 2 [(0, .ref h), (1, .int (zI z))] := hl
  have hmn := mRel_mn hR hscs
  have hPq : ∀ k, k < 6 → ex k = 1 → Pr k = pr k := fun k hk hx => ((hR k hk).1 hx).2.2.2.2
  refine lv_iload_n hx hb dX9_isHeld_0 rfl (lv_at hl 1 rfl) ?_
  refine g_if_eq (tgt := 20) hx hb dX9_isHeld_1 (by decide) hrz (fun c1 => ?_) (fun c1 => ?_)
  · skip
    refine g_iconst hx hb dX9_isHeld_20 ?_
    refine lv_goto (tgt := 25) hx hb dX9_isHeld_21 (by decide) ?_
    refine g_zret hx hb hr hlk hK hM dX9_isHeld_25 rfl ?_
    refine ⟨?_, rfl⟩
    show zI 1 = _
    first | exact (bI_t (by omega)).symm | exact (bI_f (by omega)).symm
  · skip
    refine lv_iload_n hx hb dX9_isHeld_4 rfl (lv_at hl 1 rfl) ?_
    refine lv_aload_n hx hb dX9_isHeld_5 rfl (lv_at hl 0 rfl) ?_
    refine g_get (ci := 11) (v := .int (zI (Z 9))) (C := RX9) (T := TX9) (N := 24) hx hb hts iU_X9 hown hK hM ⟨by omega, by omega⟩ hO rfl 9 (by decide) (hts _ u_1153) (fun _ h9 => h9) rfl dX9_isHeld_6 ?_
    rw [hz9]
    refine g_icmp_eq (tgt := 20) hx hb dX9_isHeld_9 (by decide) hrz ⟨by omega, by omega⟩ (fun c9 => ?_) (fun c9 => ?_)
    · skip
      refine g_iconst hx hb dX9_isHeld_20 ?_
      refine lv_goto (tgt := 25) hx hb dX9_isHeld_21 (by decide) ?_
      refine g_zret hx hb hr hlk hK hM dX9_isHeld_25 rfl ?_
      refine ⟨?_, rfl⟩
      show zI 1 = _
      first | exact (bI_t (by omega)).symm | exact (bI_f (by omega)).symm
    · skip
      refine lv_aload_n hx hb dX9_isHeld_12 rfl (lv_at hl 0 rfl) ?_
      refine lv_iload_n hx hb dX9_isHeld_13 rfl (lv_at hl 1 rfl) ?_
      have hC1 := c_X9_children l g b0 n f h Z Mn Pr sc pr ex z hO hrg hMn hPr hmn hpri hp0 hPq hrz (by omega)
      refine g_callVi (ci := 11) (C := RX9) (T := TX9) (N := 24) (As := [.int (zI z)]) (rest := []) ⟨hx, hb, hml, hown, hts⟩ hK hM hC1 (cuV (n := 1) hts u_1501 u_1498 u_10 (by decide) u_1500 us_63 ⟨Nat.le_of_ble_eq_true rfl, Nat.le_of_ble_eq_true rfl⟩) ⟨by omega, by omega⟩ hO rfl rfl hl.1 rfl (Nat.le_of_ble_eq_true rfl) dX9_isHeld_14 ⟨Nat.zero_le _, Nat.zero_le _⟩ (fun r14 f2 H locs hM hp3 => ?_)
      obtain ⟨rfl, rfl⟩ := hp3
      refine g_if_le (tgt := 24) hx hb dX9_isHeld_17 (by decide) (by have := sChd_in (pr := pr) (ex := ex) (x := z) 6; exact ⟨by omega, by omega⟩) (fun c17 => ?_) (fun c17 => ?_)
      · skip
        refine g_iconst hx hb dX9_isHeld_24 ?_
        refine g_zret hx hb hr hlk hK hM dX9_isHeld_25 rfl ?_
        refine ⟨?_, rfl⟩
        show zI 0 = _
        first | exact (bI_t (by omega)).symm | exact (bI_f (by omega)).symm
      · skip
        refine g_iconst hx hb dX9_isHeld_20 ?_
        refine lv_goto (tgt := 25) hx hb dX9_isHeld_21 (by decide) ?_
        refine g_zret hx hb hr hlk hK hM dX9_isHeld_25 rfl ?_
        refine ⟨?_, rfl⟩
        show zI 1 = _
        first | exact (bI_t (by omega)).symm | exact (bI_f (by omega)).symm

def po_X9_select (g : gE) (f : gF) (h : Nat) (Z Mn : Nat → Int) (sc : Nat → Nat) (ex : Nat → Int) (ps : Nat) (z : Int) : Int32 → gF → Prop := fun r f1 => (FD ex z ∧ r = zI ↑ps ∧ mdO f1 h (pu (pu Z 0 0) 9 z) ∧ ∀ q, q ≠ h → f1 q = f q) ∨ (¬ FD ex z ∧ mdO f1 h (pu Z 0 1) ∧ ∀ q, q ≠ h → f1 q = f q)
set_option maxRecDepth 100000 in
set_option maxHeartbeats 1000000 in
/-- select -/
theorem c_X9_select (l : Launch) (g : gE) (b0 n : Nat) (f : gF) (h : Nat) (Z Mn : Nat → Int) (sc : Nat → Nat) (ex : Nat → Int) (ps : Nat) (z : Int) (hO : mdO f h Z) (hrg : b0 ≤ h ∧ h + 13 ≤ b0 + n) (hMn : arI g f (h + 4) 6 Mn) (hmn : mnOk Mn sc ex) (hz9 : Z 9 = ↑ps) (hrz : rI z) : cI l yX9_select cX9_select 3 (some .int) 2 46 [.ref h, .int (zI z)] g b0 n f (po_X9_select g f h Z Mn sc ex ps z) := by
  refine gs_i (cc := cX9_select) (maxL := 3) (ret := (some .int)) (by decide) (Nat.le_of_ble_eq_true rfl) ?_
  intro p e0 s m args below meth c ls hx hb hr hml hown hts hlk hK hM hl
  have hl : lv_has ls 3 [(0, .ref h), (1, .int (zI z))] := hl
  refine lv_aload_n hx hb dX9_select_0 rfl (lv_at hl 0 rfl) ?_
  refine g_iconst hx hb dX9_select_1 ?_
  refine g_put (ci := 11) (v := .int (zI 0)) (ty := .int) (C := RX9) (T := TX9) (N := 24) hx hb hts iU_X9 tyX9 tyX9_ok nmX9 hown hK hM ⟨by omega, by omega⟩ hO rfl 0 (by decide) (hts _ u_1144) (fun _ h9 => h9) rfl (by decide +kernel) rfl rfl (Nat.le_of_ble_eq_true rfl) dX9_select_2 (fun f1 H locs hM hf3 o2 => ?_)
  have hf3 : f1 (h) = .inr (11, [.int (zI 0), .ref (h + 1), .ref (h + 2), .ref (h + 3), .ref (h + 4), .ref (h + 5), .ref (h + 6), .ref (h + 7), .ref (h + 8), .int (zI (Z 9)), .int (zI (Z 10)), .int (zI (Z 11)), .int (zI (Z 12)), .int (zI (Z 13)), .int (zI (Z 14)), .int (zI (Z 15)), .int (zI (Z 16)), .ref (h + 9), .ref (h + 10), .ref (h + 11), .int (zI (Z 20)), .int (zI (Z 21)), .int (zI (Z 22)), .ref (h + 12)]) := hf3
  refine lv_aload_n hx hb dX9_select_5 rfl (lv_at hl 0 rfl) ?_
  refine lv_iload_n hx hb dX9_select_6 rfl (lv_at hl 1 rfl) ?_
  have hf4 := hMn.kept (o2 (h + 4) (by omega))
  have hC5 := c_X9_isBranch l g b0 n f1 h (pu Z 0 0) Mn sc ex z hf3 hrg hf4 hmn hrz
  refine g_callVi (ci := 11) (C := RX9) (T := TX9) (N := 24) (As := [.int (zI z)]) (rest := []) ⟨hx, hb, hml, hown, hts⟩ hK hM hC5 (cuV (n := 1) hts u_1489 u_1486 u_10 (by decide) u_1488 us_61 ⟨Nat.le_of_ble_eq_true rfl, Nat.le_of_ble_eq_true rfl⟩) ⟨by omega, by omega⟩ hf3 rfl rfl hl.1 rfl (Nat.le_of_ble_eq_true rfl) dX9_select_7 ⟨Nat.zero_le _, Nat.zero_le _⟩ (fun r7 f6 H locs hM hp7 => ?_)
  obtain ⟨rfl, rfl⟩ := hp7
  refine g_ifb_ne (tgt := 19) hx hb dX9_select_10 (by decide) (fun c10 => ?_) (fun c10 => ?_)
  · skip
    refine lv_aload_n hx hb dX9_select_19 rfl (lv_at hl 0 rfl) ?_
    refine g_get (ci := 11) (v := .int (zI (Z 9))) (C := RX9) (T := TX9) (N := 24) hx hb hts iU_X9 hown hK hM ⟨by omega, by omega⟩ hf3 rfl 9 (by decide) (hts _ u_1153) (fun _ h9 => h9) rfl dX9_select_20 ?_
    rw [hz9]
    refine lv_istore_n (lv' := [(2, .int (zI (↑ps : Int))), (0, .ref h), (1, .int (zI z))]) hx hb dX9_select_23 rfl hl (by decide) rfl (fun ls hl => ?_)
    refine lv_aload_n hx hb dX9_select_24 rfl (lv_at hl 1 rfl) ?_
    refine lv_iload_n hx hb dX9_select_25 rfl (lv_at hl 2 rfl) ?_
    refine g_put (ci := 11) (v := .int (zI z)) (ty := .int) (C := RX9) (T := TX9) (N := 24) hx hb hts iU_X9 tyX9 tyX9_ok nmX9 hown hK hM ⟨by omega, by omega⟩ hf3 rfl 9 (by decide) (hts _ u_1153) (fun _ h9 => h9) rfl (by decide +kernel) rfl rfl (Nat.le_of_ble_eq_true rfl) dX9_select_26 (fun f8 H locs hM hf10 o9 => ?_)
    have hf10 : f8 (h) = .inr (11, [.int (zI 0), .ref (h + 1), .ref (h + 2), .ref (h + 3), .ref (h + 4), .ref (h + 5), .ref (h + 6), .ref (h + 7), .ref (h + 8), .int (zI z), .int (zI (Z 10)), .int (zI (Z 11)), .int (zI (Z 12)), .int (zI (Z 13)), .int (zI (Z 14)), .int (zI (Z 15)), .int (zI (Z 16)), .ref (h + 9), .ref (h + 10), .ref (h + 11), .int (zI (Z 20)), .int (zI (Z 21)), .int (zI (Z 22)), .ref (h + 12)]) := hf10
    refine lv_iload_n hx hb dX9_select_29 rfl (lv_at hl 0 rfl) ?_
    refine g_iret hx hb hr hlk hK hM dX9_select_30 ?_
    exact Or.inl ⟨c10, rfl, hf10, (fun q hq => ((o9 (q) (by omega)).trans (o2 (q) (by omega))))⟩
  · skip
    refine lv_aload_n hx hb dX9_select_13 rfl (lv_at hl 0 rfl) ?_
    refine g_iconst hx hb dX9_select_14 ?_
    have hC11 := c_X9_fails l g b0 n f1 h (pu Z 0 0) 1 hf3 hrg
    refine g_callVi (ci := 11) (C := RX9) (T := TX9) (N := 24) (As := [.int (zI 1)]) (rest := []) ⟨hx, hb, hml, hown, hts⟩ hK hM hC11 (cuV (n := 1) hts u_1412 u_1409 u_10 (by decide) u_1411 us_55 ⟨Nat.le_of_ble_eq_true rfl, Nat.le_of_ble_eq_true rfl⟩) ⟨by omega, by omega⟩ hf3 rfl rfl hl.1 rfl (Nat.le_of_ble_eq_true rfl) dX9_select_15 ⟨Nat.zero_le _, Nat.zero_le _⟩ (fun r15 f12 H locs hM hp13 => ?_)
    obtain ⟨rfl, hm14, o15⟩ := hp13
    have ho16 : f12 h = .inr (11, [.int (zI 1), .ref (h + 1), .ref (h + 2), .ref (h + 3), .ref (h + 4), .ref (h + 5), .ref (h + 6), .ref (h + 7), .ref (h + 8), .int (zI (Z 9)), .int (zI (Z 10)), .int (zI (Z 11)), .int (zI (Z 12)), .int (zI (Z 13)), .int (zI (Z 14)), .int (zI (Z 15)), .int (zI (Z 16)), .ref (h + 9), .ref (h + 10), .ref (h + 11), .int (zI (Z 20)), .int (zI (Z 21)), .int (zI (Z 22)), .ref (h + 12)]) := hm14
    refine g_iret hx hb hr hlk hK hM dX9_select_18 ?_
    exact Or.inr ⟨c10, ho16, (fun q hq => ((o15 (q) (by omega)).trans (o2 (q) (by omega))))⟩

def po_X9_fork (g : gE) (f : gF) (h : Nat) (Z M St Mn Pr : Nat → Int) (B P T : Nat → Nat → Int) (sc : Nat → Nat) (pr ex : Nat → Int) (ps : Nat) : Int32 → gF → Prop := fun r f1 => (∃ b : Nat, b < 6 ∧ ex b ≠ 1 ∧ (∀ j, j < b → ex j = 1) ∧ r = zI ↑b ∧ mdO f1 h (pu Z 0 0) ∧ ∃ M1 : Nat → Int, arJ g f1 (h + 1) 2058 M1 ∧ arI g f1 (h + 4) 6 (pu Mn b 0) ∧ arI g f1 (h + 5) 6 (pu Pr b ↑ps) ∧ mRel M1 St (pu Mn b 0) (pu Pr b ↑ps) (fu B b (P ps)) (fu P b (P ps)) T (fu sc b 0) (fu pr b ↑ps) (fu ex b 1) ∧ ∀ q, (q ≠ h ∧ q ≠ h + 1 ∧ q ≠ h + 4 ∧ q ≠ h + 5) → f1 q = f q) ∨ ((∀ j, j < 6 → ex j = 1) ∧ mdO f1 h (pu Z 0 1) ∧ ∀ q, (q ≠ h ∧ q ≠ h + 1 ∧ q ≠ h + 4 ∧ q ≠ h + 5) → f1 q = f q)
set_option maxRecDepth 100000 in
set_option maxHeartbeats 1000000 in
/-- fork -/
theorem c_X9_fork (l : Launch) (g : gE) (b0 n : Nat) (f : gF) (h : Nat) (Z M St Mn Pr : Nat → Int) (B P T : Nat → Nat → Int) (sc : Nat → Nat) (pr ex : Nat → Int) (ps : Nat) (hO : mdO f h Z) (hrg : b0 ≤ h ∧ h + 13 ≤ b0 + n) (hPl : arJ g f (h + 1) 2058 M) (hSt : arI g f (h + 3) 1800 St) (hMn : arI g f (h + 4) 6 Mn) (hPr : arI g f (h + 5) 6 Pr) (hR : mRel M St Mn Pr B P T sc pr ex) (hz9 : Z 9 = ↑ps) (hps : ps < 6) (hpx : ex ps = 1) (hscs : ∀ k, k < 6 → ex k = 1 → sc k ≤ 60) (hexi : ∀ k, k < 6 → ex k = 0 ∨ ex k = 1) (hpri : ∀ k, k < 6 → rI (pr k)) (hp0 : pr 0 = -1) : cI l yX9_fork cX9_fork 2 (some .int) 1 23 [.ref h] g b0 n f (po_X9_fork g f h Z M St Mn Pr B P T sc pr ex ps) := by
  refine gs_i (cc := cX9_fork) (maxL := 2) (ret := (some .int)) (by decide) (Nat.le_of_ble_eq_true rfl) ?_
  intro p e0 s m args below meth c ls hx hb hr hml hown hts hlk hK hM hl
  have hl : lv_has ls 2 [(0, .ref h)] := hl
  have hmn := mRel_mn hR hscs
  have hPq : ∀ k, k < 6 → ex k = 1 → Pr k = pr k := fun k hk hx => ((hR k hk).1 hx).2.2.2.2
  refine lv_aload_n hx hb dX9_fork_0 rfl (lv_at hl 0 rfl) ?_
  refine g_iconst hx hb dX9_fork_1 ?_
  refine g_put (ci := 11) (v := .int (zI 0)) (ty := .int) (C := RX9) (T := TX9) (N := 24) hx hb hts iU_X9 tyX9 tyX9_ok nmX9 hown hK hM ⟨by omega, by omega⟩ hO rfl 0 (by decide) (hts _ u_1144) (fun _ h9 => h9) rfl (by decide +kernel) rfl rfl (Nat.le_of_ble_eq_true rfl) dX9_fork_2 (fun f1 H locs hM hf3 o2 => ?_)
  have hf3 : f1 (h) = .inr (11, [.int (zI 0), .ref (h + 1), .ref (h + 2), .ref (h + 3), .ref (h + 4), .ref (h + 5), .ref (h + 6), .ref (h + 7), .ref (h + 8), .int (zI (Z 9)), .int (zI (Z 10)), .int (zI (Z 11)), .int (zI (Z 12)), .int (zI (Z 13)), .int (zI (Z 14)), .int (zI (Z 15)), .int (zI (Z 16)), .ref (h + 9), .ref (h + 10), .ref (h + 11), .int (zI (Z 20)), .int (zI (Z 21)), .int (zI (Z 22)), .ref (h + 12)]) := hf3
  refine g_iconst hx hb dX9_fork_5 ?_
  refine lv_istore_n (lv' := [(1, .int (zI 0)), (0, .ref h)]) hx hb dX9_fork_6 rfl hl (by decide) rfl (fun ls hl => ?_)
  have lp7 : ∀ (k : Nat), ∀ (i : Nat) (ls : Array Slot), (6 - i < k) → (i ≤ 6) → (∀ j, j < i → ex j = 1) → lv_has ls 2 [(0, .ref h), (1, .int (zI (↑i : Int)))] → W p l e0 { frames := 1, cells := 0, slots := 0, locals := 23 } s m args below meth c H locs 0 0 (MQ below (va_Qi (po_X9_fork g f h Z M St Mn Pr B P T sc pr ex ps) (gB g b0 n) (gA b0)) args s 0 0 (gA b0)) (F0 m 7 ls []) := by
    intro k
    induction k with
    | zero =>
      intro i ls hk hi hall hl
      exact absurd hk (Nat.not_lt_zero _)
    | succ k ih7 =>
      intro i ls hk hi hall hl
      refine lv_iload_n hx hb dX9_fork_7 rfl (lv_at hl 1 rfl) ?_
      refine g_bipush hx hb dX9_fork_8 (by decide) ?_
      refine g_icmp_ge (tgt := 28) hx hb dX9_fork_10 (by decide) ⟨by omega, by omega⟩ (by decide) (fun c10 => ?_) (fun c10 => ?_)
      · skip
        refine lv_iload_n hx hb dX9_fork_28 rfl (lv_at hl 1 rfl) ?_
        refine g_bipush hx hb dX9_fork_29 (by decide) ?_
        refine g_icmp_ne (tgt := 40) hx hb dX9_fork_31 (by decide) ⟨by omega, by omega⟩ (by decide) (fun c31 => ?_) (fun c31 => ?_)
        · skip
          have hfx : ex i ≠ 1 := by omega
          have hne : i ≠ ps := fun hh => by subst hh; exact hfx hpx
          refine lv_aload_n hx hb dX9_fork_40 rfl (lv_at hl 0 rfl) ?_
          refine g_get (ci := 11) (v := .ref (h + 4)) (C := RX9) (T := TX9) (N := 24) hx hb hts iU_X9 hown hK hM ⟨by omega, by omega⟩ hf3 rfl 4 (by decide) (hts _ u_1148) (fun _ h9 => h9) rfl dX9_fork_41 ?_
          refine lv_iload_n hx hb dX9_fork_44 rfl (lv_at hl 1 rfl) ?_
          refine g_iconst hx hb dX9_fork_45 ?_
          have hf4 := hMn.kept (o2 (h + 4) (by omega))
          refine g_iast hx hb hK hM ⟨by omega, by omega⟩ hf4 (by omega) (by omega) (by decide) dX9_fork_46 (fun f5 H locs hM ha7 o6 => ?_)
          refine lv_aload_n hx hb dX9_fork_47 rfl (lv_at hl 0 rfl) ?_
          have hf8 : f5 (h) = .inr (11, [.int (zI 0), .ref (h + 1), .ref (h + 2), .ref (h + 3), .ref (h + 4), .ref (h + 5), .ref (h + 6), .ref (h + 7), .ref (h + 8), .int (zI (Z 9)), .int (zI (Z 10)), .int (zI (Z 11)), .int (zI (Z 12)), .int (zI (Z 13)), .int (zI (Z 14)), .int (zI (Z 15)), .int (zI (Z 16)), .ref (h + 9), .ref (h + 10), .ref (h + 11), .int (zI (Z 20)), .int (zI (Z 21)), .int (zI (Z 22)), .ref (h + 12)]) := (o6 (h) (by omega)).trans hf3
          refine g_get (ci := 11) (v := .ref (h + 5)) (C := RX9) (T := TX9) (N := 24) hx hb hts iU_X9 hown hK hM ⟨by omega, by omega⟩ hf8 rfl 5 (by decide) (hts _ u_1149) (fun _ h9 => h9) rfl dX9_fork_48 ?_
          refine lv_iload_n hx hb dX9_fork_51 rfl (lv_at hl 1 rfl) ?_
          refine lv_aload_n hx hb dX9_fork_52 rfl (lv_at hl 0 rfl) ?_
          refine g_get (ci := 11) (v := .int (zI (Z 9))) (C := RX9) (T := TX9) (N := 24) hx hb hts iU_X9 hown hK hM ⟨by omega, by omega⟩ hf8 rfl 9 (by decide) (hts _ u_1153) (fun _ h9 => h9) rfl dX9_fork_53 ?_
          rw [hz9]
          have hf9 := hPr.kept ((o6 (h + 5) (by omega)).trans (o2 (h + 5) (by omega)))
          refine g_iast hx hb hK hM ⟨by omega, by omega⟩ hf9 (by omega) (by omega) (by decide) dX9_fork_56 (fun f10 H locs hM ha12 o11 => ?_)
          refine lv_aload_n hx hb dX9_fork_57 rfl (lv_at hl 0 rfl) ?_
          refine lv_aload_n hx hb dX9_fork_58 rfl (lv_at hl 0 rfl) ?_
          have hf13 : f10 (h) = .inr (11, [.int (zI 0), .ref (h + 1), .ref (h + 2), .ref (h + 3), .ref (h + 4), .ref (h + 5), .ref (h + 6), .ref (h + 7), .ref (h + 8), .int (zI (Z 9)), .int (zI (Z 10)), .int (zI (Z 11)), .int (zI (Z 12)), .int (zI (Z 13)), .int (zI (Z 14)), .int (zI (Z 15)), .int (zI (Z 16)), .ref (h + 9), .ref (h + 10), .ref (h + 11), .int (zI (Z 20)), .int (zI (Z 21)), .int (zI (Z 22)), .ref (h + 12)]) := (o11 (h) (by omega)).trans hf8
          refine g_get (ci := 11) (v := .int (zI (Z 9))) (C := RX9) (T := TX9) (N := 24) hx hb hts iU_X9 hown hK hM ⟨by omega, by omega⟩ hf13 rfl 9 (by decide) (hts _ u_1153) (fun _ h9 => h9) rfl dX9_fork_59 ?_
          rw [hz9]
          have hC14 := c_X9_planOf l g b0 n f10 ps (by omega)
          refine g_callSi (As := [.int (zI (↑ps : Int))]) (rest := [.ref h]) ⟨hx, hb, hml, hown, hts⟩ hK hM hC14 (cuS (n := 1) hts u_1228 u_1226 u_10 (by decide) u_1227 ⟨Nat.le_of_ble_eq_true rfl, Nat.le_of_ble_eq_true rfl⟩) rfl hl.1 rfl (Nat.le_of_ble_eq_true rfl) dX9_fork_62 ⟨Nat.zero_le _, Nat.zero_le _⟩ (fun r62 f15 H locs hM hp16 => ?_)
          obtain ⟨rfl, rfl⟩ := hp16
          refine lv_iload_n hx hb dX9_fork_65 rfl (lv_at hl 1 rfl) ?_
          have hC17 := c_X9_planOf l g b0 n f10 i (by omega)
          refine g_callSi (As := [.int (zI (↑i : Int))]) (rest := [.int (zI (↑(294 * ps) : Int)), .ref h]) ⟨hx, hb, hml, hown, hts⟩ hK hM hC17 (cuS (n := 1) hts u_1228 u_1226 u_10 (by decide) u_1227 ⟨Nat.le_of_ble_eq_true rfl, Nat.le_of_ble_eq_true rfl⟩) rfl hl.1 rfl (Nat.le_of_ble_eq_true rfl) dX9_fork_66 ⟨Nat.zero_le _, Nat.zero_le _⟩ (fun r66 f18 H locs hM hp19 => ?_)
          obtain ⟨rfl, rfl⟩ := hp19
          have hf20 := hPl.kept ((o11 (h + 1) (by omega)).trans ((o6 (h + 1) (by omega)).trans (o2 (h + 1) (by omega))))
          have hC21 := c_X9_copies l g b0 n f10 h (pu Z 0 0) M (294 * ps) (294 * i) hf13 hf20 hrg (by omega) (by omega) (by omega)
          refine g_callVv (ci := 11) (C := RX9) (T := TX9) (N := 24) (As := [.int (zI (↑(294 * ps) : Int)), .int (zI (↑(294 * i) : Int))]) (rest := []) ⟨hx, hb, hml, hown, hts⟩ hK hM hC21 (cuV (n := 2) hts u_1425 u_1422 u_10 (by decide) u_1424 us_56 ⟨Nat.le_of_ble_eq_true rfl, Nat.le_of_ble_eq_true rfl⟩) ⟨by omega, by omega⟩ hf13 rfl rfl hl.1 rfl (Nat.le_of_ble_eq_true rfl) dX9_fork_69 ⟨Nat.zero_le _, Nat.zero_le _⟩ (fun f22 H locs hM hp23 => ?_)
          obtain ⟨hn24, o25⟩ := hp23
          refine lv_aload_n hx hb dX9_fork_72 rfl (lv_at hl 0 rfl) ?_
          refine lv_aload_n hx hb dX9_fork_73 rfl (lv_at hl 0 rfl) ?_
          have hf26 : f22 (h) = .inr (11, [.int (zI 0), .ref (h + 1), .ref (h + 2), .ref (h + 3), .ref (h + 4), .ref (h + 5), .ref (h + 6), .ref (h + 7), .ref (h + 8), .int (zI (Z 9)), .int (zI (Z 10)), .int (zI (Z 11)), .int (zI (Z 12)), .int (zI (Z 13)), .int (zI (Z 14)), .int (zI (Z 15)), .int (zI (Z 16)), .ref (h + 9), .ref (h + 10), .ref (h + 11), .int (zI (Z 20)), .int (zI (Z 21)), .int (zI (Z 22)), .ref (h + 12)]) := (o25 (h) (by omega)).trans hf13
          refine g_get (ci := 11) (v := .int (zI (Z 9))) (C := RX9) (T := TX9) (N := 24) hx hb hts iU_X9 hown hK hM ⟨by omega, by omega⟩ hf26 rfl 9 (by decide) (hts _ u_1153) (fun _ h9 => h9) rfl dX9_fork_74 ?_
          rw [hz9]
          have hC27 := c_X9_planOf l g b0 n f22 ps (by omega)
          refine g_callSi (As := [.int (zI (↑ps : Int))]) (rest := [.ref h]) ⟨hx, hb, hml, hown, hts⟩ hK hM hC27 (cuS (n := 1) hts u_1228 u_1226 u_10 (by decide) u_1227 ⟨Nat.le_of_ble_eq_true rfl, Nat.le_of_ble_eq_true rfl⟩) rfl hl.1 rfl (Nat.le_of_ble_eq_true rfl) dX9_fork_77 ⟨Nat.zero_le _, Nat.zero_le _⟩ (fun r77 f28 H locs hM hp29 => ?_)
          obtain ⟨rfl, rfl⟩ := hp29
          refine lv_iload_n hx hb dX9_fork_80 rfl (lv_at hl 1 rfl) ?_
          have hC30 := c_X9_startOf l g b0 n f22 i (by omega)
          refine g_callSi (As := [.int (zI (↑i : Int))]) (rest := [.int (zI (↑(294 * ps) : Int)), .ref h]) ⟨hx, hb, hml, hown, hts⟩ hK hM hC30 (cuS (n := 1) hts u_1481 u_1479 u_10 (by decide) u_1480 ⟨Nat.le_of_ble_eq_true rfl, Nat.le_of_ble_eq_true rfl⟩) rfl hl.1 rfl (Nat.le_of_ble_eq_true rfl) dX9_fork_81 ⟨Nat.zero_le _, Nat.zero_le _⟩ (fun r81 f31 H locs hM hp32 => ?_)
          obtain ⟨rfl, rfl⟩ := hp32
          have hC33 := c_X9_copies l g b0 n f22 h (pu Z 0 0) (cpM M (294 * ps) (294 * i)) (294 * ps) (294 * i + 147) hf26 hn24 hrg (by omega) (by omega) (by omega)
          refine g_callVv (ci := 11) (C := RX9) (T := TX9) (N := 24) (As := [.int (zI (↑(294 * ps) : Int)), .int (zI (↑(294 * i + 147) : Int))]) (rest := []) ⟨hx, hb, hml, hown, hts⟩ hK hM hC33 (cuV (n := 2) hts u_1425 u_1422 u_10 (by decide) u_1424 us_56 ⟨Nat.le_of_ble_eq_true rfl, Nat.le_of_ble_eq_true rfl⟩) ⟨by omega, by omega⟩ hf26 rfl rfl hl.1 rfl (Nat.le_of_ble_eq_true rfl) dX9_fork_84 ⟨Nat.zero_le _, Nat.zero_le _⟩ (fun f34 H locs hM hp35 => ?_)
          obtain ⟨hn36, o37⟩ := hp35
          refine lv_iload_n hx hb dX9_fork_87 rfl (lv_at hl 1 rfl) ?_
          have hf38 : f34 (h) = .inr (11, [.int (zI 0), .ref (h + 1), .ref (h + 2), .ref (h + 3), .ref (h + 4), .ref (h + 5), .ref (h + 6), .ref (h + 7), .ref (h + 8), .int (zI (Z 9)), .int (zI (Z 10)), .int (zI (Z 11)), .int (zI (Z 12)), .int (zI (Z 13)), .int (zI (Z 14)), .int (zI (Z 15)), .int (zI (Z 16)), .ref (h + 9), .ref (h + 10), .ref (h + 11), .int (zI (Z 20)), .int (zI (Z 21)), .int (zI (Z 22)), .ref (h + 12)]) := (o37 (h) (by omega)).trans hf26
          have hf39 := ha7.kept ((o37 (h + 4) (by omega)).trans ((o25 (h + 4) (by omega)).trans (o11 (h + 4) (by omega))))
          have hf40 := ha12.kept ((o37 (h + 5) (by omega)).trans (o25 (h + 5) (by omega)))
          refine g_iret hx hb hr hlk hK hM dX9_fork_88 ?_
          have hbr := ((hR ps hps).1 hpx).1
          refine Or.inl ⟨i, by omega, hfx, hall, rfl, hf38, _, hn36, hf39, hf40, mRel_fork (b := i) hR (fun k9 hk9 => ?_) (fun k9 hk9 => ?_) (fun k9 hk9 hj9 => ?_), fun q hq => ?_⟩
          · unfold cpM
            rw [mov_n (by omega), mov_at rfl hk9]
            exact hbr k9 hk9
          · unfold cpM
            rw [mov_at rfl hk9, mov_n (by omega)]
            exact hbr k9 hk9
          · unfold cpM
            rw [mov_n (by omega), mov_n (by omega)]
          · exact ((o37 (q) (by omega)).trans ((o25 (q) (by omega)).trans ((o11 (q) (by omega)).trans ((o6 (q) (by omega)).trans (o2 (q) (by omega))))))
        · skip
          have hi6 : i = 6 := by omega
          refine lv_aload_n hx hb dX9_fork_34 rfl (lv_at hl 0 rfl) ?_
          refine g_iconst hx hb dX9_fork_35 ?_
          have hC41 := c_X9_fails l g b0 n f1 h (pu Z 0 0) 1 hf3 hrg
          refine g_callVi (ci := 11) (C := RX9) (T := TX9) (N := 24) (As := [.int (zI 1)]) (rest := []) ⟨hx, hb, hml, hown, hts⟩ hK hM hC41 (cuV (n := 1) hts u_1412 u_1409 u_10 (by decide) u_1411 us_55 ⟨Nat.le_of_ble_eq_true rfl, Nat.le_of_ble_eq_true rfl⟩) ⟨by omega, by omega⟩ hf3 rfl rfl hl.1 rfl (Nat.le_of_ble_eq_true rfl) dX9_fork_36 ⟨Nat.zero_le _, Nat.zero_le _⟩ (fun r36 f42 H locs hM hp43 => ?_)
          obtain ⟨rfl, hm44, o45⟩ := hp43
          have ho46 : f42 h = .inr (11, [.int (zI 1), .ref (h + 1), .ref (h + 2), .ref (h + 3), .ref (h + 4), .ref (h + 5), .ref (h + 6), .ref (h + 7), .ref (h + 8), .int (zI (Z 9)), .int (zI (Z 10)), .int (zI (Z 11)), .int (zI (Z 12)), .int (zI (Z 13)), .int (zI (Z 14)), .int (zI (Z 15)), .int (zI (Z 16)), .ref (h + 9), .ref (h + 10), .ref (h + 11), .int (zI (Z 20)), .int (zI (Z 21)), .int (zI (Z 22)), .ref (h + 12)]) := hm44
          refine g_iret hx hb hr hlk hK hM dX9_fork_39 ?_
          have hi6 : i = 6 := by omega
          subst hi6
          exact Or.inr ⟨hall, ho46, (fun q hq => ((o45 (q) (by omega)).trans (o2 (q) (by omega))))⟩
      · skip
        obtain ⟨hq1, hq2⟩ := mnOk_ex (k := i) hmn (by omega)
        refine lv_aload_n hx hb dX9_fork_13 rfl (lv_at hl 0 rfl) ?_
        refine g_get (ci := 11) (v := .ref (h + 4)) (C := RX9) (T := TX9) (N := 24) hx hb hts iU_X9 hown hK hM ⟨by omega, by omega⟩ hf3 rfl 4 (by decide) (hts _ u_1148) (fun _ h9 => h9) rfl dX9_fork_14 ?_
        refine lv_iload_n hx hb dX9_fork_17 rfl (lv_at hl 1 rfl) ?_
        have hf47 := hMn.kept (o2 (h + 4) (by omega))
        refine g_iald hx hb hK hM ⟨by omega, by omega⟩ hf47 (by omega) (by omega) (by decide) dX9_fork_18 ?_
        show W _ _ _ _ _ _ _ _ _ _ _ _ _ _ _ (F0 _ _ _ (.int (zI (Mn i)) :: _))
        refine g_if_lt (tgt := 28) hx hb dX9_fork_19 (by decide) hq1 (fun c19 => ?_) (fun c19 => ?_)
        · skip
          refine lv_iload_n hx hb dX9_fork_28 rfl (lv_at hl 1 rfl) ?_
          refine g_bipush hx hb dX9_fork_29 (by decide) ?_
          refine g_icmp_ne (tgt := 40) hx hb dX9_fork_31 (by decide) ⟨by omega, by omega⟩ (by decide) (fun c31 => ?_) (fun c31 => ?_)
          · skip
            have hfx : ex i ≠ 1 := by omega
            have hne : i ≠ ps := fun hh => by subst hh; exact hfx hpx
            refine lv_aload_n hx hb dX9_fork_40 rfl (lv_at hl 0 rfl) ?_
            refine g_get (ci := 11) (v := .ref (h + 4)) (C := RX9) (T := TX9) (N := 24) hx hb hts iU_X9 hown hK hM ⟨by omega, by omega⟩ hf3 rfl 4 (by decide) (hts _ u_1148) (fun _ h9 => h9) rfl dX9_fork_41 ?_
            refine lv_iload_n hx hb dX9_fork_44 rfl (lv_at hl 1 rfl) ?_
            refine g_iconst hx hb dX9_fork_45 ?_
            refine g_iast hx hb hK hM ⟨by omega, by omega⟩ hf47 (by omega) (by omega) (by decide) dX9_fork_46 (fun f48 H locs hM ha50 o49 => ?_)
            refine lv_aload_n hx hb dX9_fork_47 rfl (lv_at hl 0 rfl) ?_
            have hf51 : f48 (h) = .inr (11, [.int (zI 0), .ref (h + 1), .ref (h + 2), .ref (h + 3), .ref (h + 4), .ref (h + 5), .ref (h + 6), .ref (h + 7), .ref (h + 8), .int (zI (Z 9)), .int (zI (Z 10)), .int (zI (Z 11)), .int (zI (Z 12)), .int (zI (Z 13)), .int (zI (Z 14)), .int (zI (Z 15)), .int (zI (Z 16)), .ref (h + 9), .ref (h + 10), .ref (h + 11), .int (zI (Z 20)), .int (zI (Z 21)), .int (zI (Z 22)), .ref (h + 12)]) := (o49 (h) (by omega)).trans hf3
            refine g_get (ci := 11) (v := .ref (h + 5)) (C := RX9) (T := TX9) (N := 24) hx hb hts iU_X9 hown hK hM ⟨by omega, by omega⟩ hf51 rfl 5 (by decide) (hts _ u_1149) (fun _ h9 => h9) rfl dX9_fork_48 ?_
            refine lv_iload_n hx hb dX9_fork_51 rfl (lv_at hl 1 rfl) ?_
            refine lv_aload_n hx hb dX9_fork_52 rfl (lv_at hl 0 rfl) ?_
            refine g_get (ci := 11) (v := .int (zI (Z 9))) (C := RX9) (T := TX9) (N := 24) hx hb hts iU_X9 hown hK hM ⟨by omega, by omega⟩ hf51 rfl 9 (by decide) (hts _ u_1153) (fun _ h9 => h9) rfl dX9_fork_53 ?_
            rw [hz9]
            have hf52 := hPr.kept ((o49 (h + 5) (by omega)).trans (o2 (h + 5) (by omega)))
            refine g_iast hx hb hK hM ⟨by omega, by omega⟩ hf52 (by omega) (by omega) (by decide) dX9_fork_56 (fun f53 H locs hM ha55 o54 => ?_)
            refine lv_aload_n hx hb dX9_fork_57 rfl (lv_at hl 0 rfl) ?_
            refine lv_aload_n hx hb dX9_fork_58 rfl (lv_at hl 0 rfl) ?_
            have hf56 : f53 (h) = .inr (11, [.int (zI 0), .ref (h + 1), .ref (h + 2), .ref (h + 3), .ref (h + 4), .ref (h + 5), .ref (h + 6), .ref (h + 7), .ref (h + 8), .int (zI (Z 9)), .int (zI (Z 10)), .int (zI (Z 11)), .int (zI (Z 12)), .int (zI (Z 13)), .int (zI (Z 14)), .int (zI (Z 15)), .int (zI (Z 16)), .ref (h + 9), .ref (h + 10), .ref (h + 11), .int (zI (Z 20)), .int (zI (Z 21)), .int (zI (Z 22)), .ref (h + 12)]) := (o54 (h) (by omega)).trans hf51
            refine g_get (ci := 11) (v := .int (zI (Z 9))) (C := RX9) (T := TX9) (N := 24) hx hb hts iU_X9 hown hK hM ⟨by omega, by omega⟩ hf56 rfl 9 (by decide) (hts _ u_1153) (fun _ h9 => h9) rfl dX9_fork_59 ?_
            rw [hz9]
            have hC57 := c_X9_planOf l g b0 n f53 ps (by omega)
            refine g_callSi (As := [.int (zI (↑ps : Int))]) (rest := [.ref h]) ⟨hx, hb, hml, hown, hts⟩ hK hM hC57 (cuS (n := 1) hts u_1228 u_1226 u_10 (by decide) u_1227 ⟨Nat.le_of_ble_eq_true rfl, Nat.le_of_ble_eq_true rfl⟩) rfl hl.1 rfl (Nat.le_of_ble_eq_true rfl) dX9_fork_62 ⟨Nat.zero_le _, Nat.zero_le _⟩ (fun r62 f58 H locs hM hp59 => ?_)
            obtain ⟨rfl, rfl⟩ := hp59
            refine lv_iload_n hx hb dX9_fork_65 rfl (lv_at hl 1 rfl) ?_
            have hC60 := c_X9_planOf l g b0 n f53 i (by omega)
            refine g_callSi (As := [.int (zI (↑i : Int))]) (rest := [.int (zI (↑(294 * ps) : Int)), .ref h]) ⟨hx, hb, hml, hown, hts⟩ hK hM hC60 (cuS (n := 1) hts u_1228 u_1226 u_10 (by decide) u_1227 ⟨Nat.le_of_ble_eq_true rfl, Nat.le_of_ble_eq_true rfl⟩) rfl hl.1 rfl (Nat.le_of_ble_eq_true rfl) dX9_fork_66 ⟨Nat.zero_le _, Nat.zero_le _⟩ (fun r66 f61 H locs hM hp62 => ?_)
            obtain ⟨rfl, rfl⟩ := hp62
            have hf63 := hPl.kept ((o54 (h + 1) (by omega)).trans ((o49 (h + 1) (by omega)).trans (o2 (h + 1) (by omega))))
            have hC64 := c_X9_copies l g b0 n f53 h (pu Z 0 0) M (294 * ps) (294 * i) hf56 hf63 hrg (by omega) (by omega) (by omega)
            refine g_callVv (ci := 11) (C := RX9) (T := TX9) (N := 24) (As := [.int (zI (↑(294 * ps) : Int)), .int (zI (↑(294 * i) : Int))]) (rest := []) ⟨hx, hb, hml, hown, hts⟩ hK hM hC64 (cuV (n := 2) hts u_1425 u_1422 u_10 (by decide) u_1424 us_56 ⟨Nat.le_of_ble_eq_true rfl, Nat.le_of_ble_eq_true rfl⟩) ⟨by omega, by omega⟩ hf56 rfl rfl hl.1 rfl (Nat.le_of_ble_eq_true rfl) dX9_fork_69 ⟨Nat.zero_le _, Nat.zero_le _⟩ (fun f65 H locs hM hp66 => ?_)
            obtain ⟨hn67, o68⟩ := hp66
            refine lv_aload_n hx hb dX9_fork_72 rfl (lv_at hl 0 rfl) ?_
            refine lv_aload_n hx hb dX9_fork_73 rfl (lv_at hl 0 rfl) ?_
            have hf69 : f65 (h) = .inr (11, [.int (zI 0), .ref (h + 1), .ref (h + 2), .ref (h + 3), .ref (h + 4), .ref (h + 5), .ref (h + 6), .ref (h + 7), .ref (h + 8), .int (zI (Z 9)), .int (zI (Z 10)), .int (zI (Z 11)), .int (zI (Z 12)), .int (zI (Z 13)), .int (zI (Z 14)), .int (zI (Z 15)), .int (zI (Z 16)), .ref (h + 9), .ref (h + 10), .ref (h + 11), .int (zI (Z 20)), .int (zI (Z 21)), .int (zI (Z 22)), .ref (h + 12)]) := (o68 (h) (by omega)).trans hf56
            refine g_get (ci := 11) (v := .int (zI (Z 9))) (C := RX9) (T := TX9) (N := 24) hx hb hts iU_X9 hown hK hM ⟨by omega, by omega⟩ hf69 rfl 9 (by decide) (hts _ u_1153) (fun _ h9 => h9) rfl dX9_fork_74 ?_
            rw [hz9]
            have hC70 := c_X9_planOf l g b0 n f65 ps (by omega)
            refine g_callSi (As := [.int (zI (↑ps : Int))]) (rest := [.ref h]) ⟨hx, hb, hml, hown, hts⟩ hK hM hC70 (cuS (n := 1) hts u_1228 u_1226 u_10 (by decide) u_1227 ⟨Nat.le_of_ble_eq_true rfl, Nat.le_of_ble_eq_true rfl⟩) rfl hl.1 rfl (Nat.le_of_ble_eq_true rfl) dX9_fork_77 ⟨Nat.zero_le _, Nat.zero_le _⟩ (fun r77 f71 H locs hM hp72 => ?_)
            obtain ⟨rfl, rfl⟩ := hp72
            refine lv_iload_n hx hb dX9_fork_80 rfl (lv_at hl 1 rfl) ?_
            have hC73 := c_X9_startOf l g b0 n f65 i (by omega)
            refine g_callSi (As := [.int (zI (↑i : Int))]) (rest := [.int (zI (↑(294 * ps) : Int)), .ref h]) ⟨hx, hb, hml, hown, hts⟩ hK hM hC73 (cuS (n := 1) hts u_1481 u_1479 u_10 (by decide) u_1480 ⟨Nat.le_of_ble_eq_true rfl, Nat.le_of_ble_eq_true rfl⟩) rfl hl.1 rfl (Nat.le_of_ble_eq_true rfl) dX9_fork_81 ⟨Nat.zero_le _, Nat.zero_le _⟩ (fun r81 f74 H locs hM hp75 => ?_)
            obtain ⟨rfl, rfl⟩ := hp75
            have hC76 := c_X9_copies l g b0 n f65 h (pu Z 0 0) (cpM M (294 * ps) (294 * i)) (294 * ps) (294 * i + 147) hf69 hn67 hrg (by omega) (by omega) (by omega)
            refine g_callVv (ci := 11) (C := RX9) (T := TX9) (N := 24) (As := [.int (zI (↑(294 * ps) : Int)), .int (zI (↑(294 * i + 147) : Int))]) (rest := []) ⟨hx, hb, hml, hown, hts⟩ hK hM hC76 (cuV (n := 2) hts u_1425 u_1422 u_10 (by decide) u_1424 us_56 ⟨Nat.le_of_ble_eq_true rfl, Nat.le_of_ble_eq_true rfl⟩) ⟨by omega, by omega⟩ hf69 rfl rfl hl.1 rfl (Nat.le_of_ble_eq_true rfl) dX9_fork_84 ⟨Nat.zero_le _, Nat.zero_le _⟩ (fun f77 H locs hM hp78 => ?_)
            obtain ⟨hn79, o80⟩ := hp78
            refine lv_iload_n hx hb dX9_fork_87 rfl (lv_at hl 1 rfl) ?_
            have hf81 : f77 (h) = .inr (11, [.int (zI 0), .ref (h + 1), .ref (h + 2), .ref (h + 3), .ref (h + 4), .ref (h + 5), .ref (h + 6), .ref (h + 7), .ref (h + 8), .int (zI (Z 9)), .int (zI (Z 10)), .int (zI (Z 11)), .int (zI (Z 12)), .int (zI (Z 13)), .int (zI (Z 14)), .int (zI (Z 15)), .int (zI (Z 16)), .ref (h + 9), .ref (h + 10), .ref (h + 11), .int (zI (Z 20)), .int (zI (Z 21)), .int (zI (Z 22)), .ref (h + 12)]) := (o80 (h) (by omega)).trans hf69
            have hf82 := ha50.kept ((o80 (h + 4) (by omega)).trans ((o68 (h + 4) (by omega)).trans (o54 (h + 4) (by omega))))
            have hf83 := ha55.kept ((o80 (h + 5) (by omega)).trans (o68 (h + 5) (by omega)))
            refine g_iret hx hb hr hlk hK hM dX9_fork_88 ?_
            have hbr := ((hR ps hps).1 hpx).1
            refine Or.inl ⟨i, by omega, hfx, hall, rfl, hf81, _, hn79, hf82, hf83, mRel_fork (b := i) hR (fun k9 hk9 => ?_) (fun k9 hk9 => ?_) (fun k9 hk9 hj9 => ?_), fun q hq => ?_⟩
            · unfold cpM
              rw [mov_n (by omega), mov_at rfl hk9]
              exact hbr k9 hk9
            · unfold cpM
              rw [mov_at rfl hk9, mov_n (by omega)]
              exact hbr k9 hk9
            · unfold cpM
              rw [mov_n (by omega), mov_n (by omega)]
            · exact ((o80 (q) (by omega)).trans ((o68 (q) (by omega)).trans ((o54 (q) (by omega)).trans ((o49 (q) (by omega)).trans (o2 (q) (by omega))))))
          · skip
            have hi6 : i = 6 := by omega
            refine lv_aload_n hx hb dX9_fork_34 rfl (lv_at hl 0 rfl) ?_
            refine g_iconst hx hb dX9_fork_35 ?_
            have hC84 := c_X9_fails l g b0 n f1 h (pu Z 0 0) 1 hf3 hrg
            refine g_callVi (ci := 11) (C := RX9) (T := TX9) (N := 24) (As := [.int (zI 1)]) (rest := []) ⟨hx, hb, hml, hown, hts⟩ hK hM hC84 (cuV (n := 1) hts u_1412 u_1409 u_10 (by decide) u_1411 us_55 ⟨Nat.le_of_ble_eq_true rfl, Nat.le_of_ble_eq_true rfl⟩) ⟨by omega, by omega⟩ hf3 rfl rfl hl.1 rfl (Nat.le_of_ble_eq_true rfl) dX9_fork_36 ⟨Nat.zero_le _, Nat.zero_le _⟩ (fun r36 f85 H locs hM hp86 => ?_)
            obtain ⟨rfl, hm87, o88⟩ := hp86
            have ho89 : f85 h = .inr (11, [.int (zI 1), .ref (h + 1), .ref (h + 2), .ref (h + 3), .ref (h + 4), .ref (h + 5), .ref (h + 6), .ref (h + 7), .ref (h + 8), .int (zI (Z 9)), .int (zI (Z 10)), .int (zI (Z 11)), .int (zI (Z 12)), .int (zI (Z 13)), .int (zI (Z 14)), .int (zI (Z 15)), .int (zI (Z 16)), .ref (h + 9), .ref (h + 10), .ref (h + 11), .int (zI (Z 20)), .int (zI (Z 21)), .int (zI (Z 22)), .ref (h + 12)]) := hm87
            refine g_iret hx hb hr hlk hK hM dX9_fork_39 ?_
            have hi6 : i = 6 := by omega
            subst hi6
            exact Or.inr ⟨hall, ho89, (fun q hq => ((o88 (q) (by omega)).trans (o2 (q) (by omega))))⟩
        · skip
          refine lv_iinc (v := zI ((↑i : Int) + 1)) (lv' := [(1, .int (zI ((↑i : Int) + 1))), (0, .ref h)]) hx hb dX9_fork_22 hl (k := 1) rfl (zI_add _ _) (by decide) rfl (fun ls hl => ?_)
          refine lv_goto (tgt := 7) hx hb dX9_fork_25 (by decide) ?_
          exact ih7 (i + 1) _ (by omega) (by omega) (fun j hj => (Nat.lt_or_ge j i).elim (hall j) (fun q => by rw [show j = i by omega]; omega)) (lv_sub hl [1, 0] rfl)
  exact lp7 (7) 0 _ (by omega) (by omega) (fun j hj => absurd hj (Nat.not_lt_zero _)) (lv_sub hl [1, 0] rfl)

def po_X9_discard (g : gE) (f : gF) (h : Nat) (Z M St Mn Pr : Nat → Int) (B P T : Nat → Nat → Int) (sc : Nat → Nat) (pr ex : Nat → Int) (ps : Nat) (z : Int) : Int32 → gF → Prop := fun r f1 => (FD ex z ∧ ¬ HELD pr ex ps z ∧ r = zI ↑(sc z.toNat) ∧ mdO f1 h (pu Z 0 0) ∧ arI g f1 (h + 4) 6 (pu Mn z.toNat (-1)) ∧ ∀ q, (q ≠ h ∧ q ≠ h + 4) → f1 q = f q) ∨ (¬ FD ex z ∧ mdO f1 h (pu Z 0 1) ∧ ∀ q, (q ≠ h ∧ q ≠ h + 4) → f1 q = f q) ∨ (FD ex z ∧ HELD pr ex ps z ∧ mdO f1 h (pu Z 0 2) ∧ ∀ q, (q ≠ h ∧ q ≠ h + 4) → f1 q = f q)
set_option maxRecDepth 100000 in
set_option maxHeartbeats 1000000 in
/-- discard -/
theorem c_X9_discard (l : Launch) (g : gE) (b0 n : Nat) (f : gF) (h : Nat) (Z M St Mn Pr : Nat → Int) (B P T : Nat → Nat → Int) (sc : Nat → Nat) (pr ex : Nat → Int) (ps : Nat) (z : Int) (hO : mdO f h Z) (hrg : b0 ≤ h ∧ h + 13 ≤ b0 + n) (hPl : arJ g f (h + 1) 2058 M) (hSt : arI g f (h + 3) 1800 St) (hMn : arI g f (h + 4) 6 Mn) (hPr : arI g f (h + 5) 6 Pr) (hR : mRel M St Mn Pr B P T sc pr ex) (hz9 : Z 9 = ↑ps) (hps : ps < 6) (hpx : ex ps = 1) (hscs : ∀ k, k < 6 → ex k = 1 → sc k ≤ 60) (hexi : ∀ k, k < 6 → ex k = 0 ∨ ex k = 1) (hpri : ∀ k, k < 6 → rI (pr k)) (hp0 : pr 0 = -1) (hrz : rI z) : cI l yX9_discard cX9_discard 3 (some .int) 2 46 [.ref h, .int (zI z)] g b0 n f (po_X9_discard g f h Z M St Mn Pr B P T sc pr ex ps z) := by
  refine gs_i (cc := cX9_discard) (maxL := 3) (ret := (some .int)) (by decide) (Nat.le_of_ble_eq_true rfl) ?_
  intro p e0 s m args below meth c ls hx hb hr hml hown hts hlk hK hM hl
  have hl : lv_has ls 3 [(0, .ref h), (1, .int (zI z))] := hl
  have hmn := mRel_mn hR hscs
  have hPq : ∀ k, k < 6 → ex k = 1 → Pr k = pr k := fun k hk hx => ((hR k hk).1 hx).2.2.2.2
  refine lv_aload_n hx hb dX9_discard_0 rfl (lv_at hl 0 rfl) ?_
  refine g_iconst hx hb dX9_discard_1 ?_
  refine g_put (ci := 11) (v := .int (zI 0)) (ty := .int) (C := RX9) (T := TX9) (N := 24) hx hb hts iU_X9 tyX9 tyX9_ok nmX9 hown hK hM ⟨by omega, by omega⟩ hO rfl 0 (by decide) (hts _ u_1144) (fun _ h9 => h9) rfl (by decide +kernel) rfl rfl (Nat.le_of_ble_eq_true rfl) dX9_discard_2 (fun f1 H locs hM hf3 o2 => ?_)
  have hf3 : f1 (h) = .inr (11, [.int (zI 0), .ref (h + 1), .ref (h + 2), .ref (h + 3), .ref (h + 4), .ref (h + 5), .ref (h + 6), .ref (h + 7), .ref (h + 8), .int (zI (Z 9)), .int (zI (Z 10)), .int (zI (Z 11)), .int (zI (Z 12)), .int (zI (Z 13)), .int (zI (Z 14)), .int (zI (Z 15)), .int (zI (Z 16)), .ref (h + 9), .ref (h + 10), .ref (h + 11), .int (zI (Z 20)), .int (zI (Z 21)), .int (zI (Z 22)), .ref (h + 12)]) := hf3
  refine lv_aload_n hx hb dX9_discard_5 rfl (lv_at hl 0 rfl) ?_
  refine lv_iload_n hx hb dX9_discard_6 rfl (lv_at hl 1 rfl) ?_
  have hf4 := hMn.kept (o2 (h + 4) (by omega))
  have hC5 := c_X9_isBranch l g b0 n f1 h (pu Z 0 0) Mn sc ex z hf3 hrg hf4 hmn hrz
  refine g_callVi (ci := 11) (C := RX9) (T := TX9) (N := 24) (As := [.int (zI z)]) (rest := []) ⟨hx, hb, hml, hown, hts⟩ hK hM hC5 (cuV (n := 1) hts u_1489 u_1486 u_10 (by decide) u_1488 us_61 ⟨Nat.le_of_ble_eq_true rfl, Nat.le_of_ble_eq_true rfl⟩) ⟨by omega, by omega⟩ hf3 rfl rfl hl.1 rfl (Nat.le_of_ble_eq_true rfl) dX9_discard_7 ⟨Nat.zero_le _, Nat.zero_le _⟩ (fun r7 f6 H locs hM hp7 => ?_)
  obtain ⟨rfl, rfl⟩ := hp7
  refine g_ifb_ne (tgt := 19) hx hb dX9_discard_10 (by decide) (fun c10 => ?_) (fun c10 => ?_)
  · skip
    refine lv_aload_n hx hb dX9_discard_19 rfl (lv_at hl 0 rfl) ?_
    refine lv_iload_n hx hb dX9_discard_20 rfl (lv_at hl 1 rfl) ?_
    have hf8 := hPl.kept (o2 (h + 1) (by omega))
    have hf9 := hSt.kept (o2 (h + 3) (by omega))
    have hf10 := hPr.kept (o2 (h + 5) (by omega))
    have hC11 := c_X9_isHeld l g b0 n f1 h (pu Z 0 0) M St Mn Pr B P T sc pr ex ps z hf3 hrg hf8 hf9 hf4 hf10 hR hz9 hps hpx hscs hexi hpri hp0 hrz (by omega)
    refine g_callVi (ci := 11) (C := RX9) (T := TX9) (N := 24) (As := [.int (zI z)]) (rest := []) ⟨hx, hb, hml, hown, hts⟩ hK hM hC11 (cuV (n := 1) hts u_1497 u_1494 u_10 (by decide) u_1496 us_62 ⟨Nat.le_of_ble_eq_true rfl, Nat.le_of_ble_eq_true rfl⟩) ⟨by omega, by omega⟩ hf3 rfl rfl hl.1 rfl (Nat.le_of_ble_eq_true rfl) dX9_discard_21 ⟨Nat.zero_le _, Nat.zero_le _⟩ (fun r21 f12 H locs hM hp13 => ?_)
    obtain ⟨rfl, rfl⟩ := hp13
    refine g_ifb_eq (tgt := 33) hx hb dX9_discard_24 (by decide) (fun c24 => ?_) (fun c24 => ?_)
    · skip
      refine lv_aload_n hx hb dX9_discard_33 rfl (lv_at hl 0 rfl) ?_
      refine g_get (ci := 11) (v := .ref (h + 4)) (C := RX9) (T := TX9) (N := 24) hx hb hts iU_X9 hown hK hM ⟨by omega, by omega⟩ hf3 rfl 4 (by decide) (hts _ u_1148) (fun _ h9 => h9) rfl dX9_discard_34 ?_
      refine lv_iload_n hx hb dX9_discard_37 rfl (lv_at hl 1 rfl) ?_
      refine g_iald hx hb hK hM ⟨by omega, by omega⟩ hf4 (by omega) (by omega) (by decide) dX9_discard_38 ?_
      show W _ _ _ _ _ _ _ _ _ _ _ _ _ _ _ (F0 _ _ _ (.int (zI (Mn z.toNat)) :: _))
      refine lv_istore_n (lv' := [(2, .int (zI (Mn z.toNat))), (0, .ref h), (1, .int (zI z))]) hx hb dX9_discard_39 rfl hl (by decide) rfl (fun ls hl => ?_)
      refine lv_aload_n hx hb dX9_discard_40 rfl (lv_at hl 1 rfl) ?_
      refine g_get (ci := 11) (v := .ref (h + 4)) (C := RX9) (T := TX9) (N := 24) hx hb hts iU_X9 hown hK hM ⟨by omega, by omega⟩ hf3 rfl 4 (by decide) (hts _ u_1148) (fun _ h9 => h9) rfl dX9_discard_41 ?_
      refine lv_iload_n hx hb dX9_discard_44 rfl (lv_at hl 2 rfl) ?_
      refine g_iconst hx hb dX9_discard_45 ?_
      refine g_iast hx hb hK hM ⟨by omega, by omega⟩ hf4 (by omega) (by omega) (by decide) dX9_discard_46 (fun f14 H locs hM ha16 o15 => ?_)
      refine lv_iload_n hx hb dX9_discard_47 rfl (lv_at hl 0 rfl) ?_
      have hf17 : f14 (h) = .inr (11, [.int (zI 0), .ref (h + 1), .ref (h + 2), .ref (h + 3), .ref (h + 4), .ref (h + 5), .ref (h + 6), .ref (h + 7), .ref (h + 8), .int (zI (Z 9)), .int (zI (Z 10)), .int (zI (Z 11)), .int (zI (Z 12)), .int (zI (Z 13)), .int (zI (Z 14)), .int (zI (Z 15)), .int (zI (Z 16)), .ref (h + 9), .ref (h + 10), .ref (h + 11), .int (zI (Z 20)), .int (zI (Z 21)), .int (zI (Z 22)), .ref (h + 12)]) := (o15 (h) (by omega)).trans hf3
      refine g_iret hx hb hr hlk hK hM dX9_discard_48 ?_
      exact Or.inl ⟨c10, c24, by rw [((hmn z.toNat (by omega)).1 c10.2.2).1], hf17, ha16, (fun q hq => ((o15 (q) (by omega)).trans (o2 (q) (by omega))))⟩
    · skip
      refine lv_aload_n hx hb dX9_discard_27 rfl (lv_at hl 0 rfl) ?_
      refine g_iconst hx hb dX9_discard_28 ?_
      have hC18 := c_X9_fails l g b0 n f1 h (pu Z 0 0) 2 hf3 hrg
      refine g_callVi (ci := 11) (C := RX9) (T := TX9) (N := 24) (As := [.int (zI 2)]) (rest := []) ⟨hx, hb, hml, hown, hts⟩ hK hM hC18 (cuV (n := 1) hts u_1412 u_1409 u_10 (by decide) u_1411 us_55 ⟨Nat.le_of_ble_eq_true rfl, Nat.le_of_ble_eq_true rfl⟩) ⟨by omega, by omega⟩ hf3 rfl rfl hl.1 rfl (Nat.le_of_ble_eq_true rfl) dX9_discard_29 ⟨Nat.zero_le _, Nat.zero_le _⟩ (fun r29 f19 H locs hM hp20 => ?_)
      obtain ⟨rfl, hm21, o22⟩ := hp20
      have ho23 : f19 h = .inr (11, [.int (zI 2), .ref (h + 1), .ref (h + 2), .ref (h + 3), .ref (h + 4), .ref (h + 5), .ref (h + 6), .ref (h + 7), .ref (h + 8), .int (zI (Z 9)), .int (zI (Z 10)), .int (zI (Z 11)), .int (zI (Z 12)), .int (zI (Z 13)), .int (zI (Z 14)), .int (zI (Z 15)), .int (zI (Z 16)), .ref (h + 9), .ref (h + 10), .ref (h + 11), .int (zI (Z 20)), .int (zI (Z 21)), .int (zI (Z 22)), .ref (h + 12)]) := hm21
      refine g_iret hx hb hr hlk hK hM dX9_discard_32 ?_
      exact Or.inr (Or.inr ⟨c10, c24, ho23, (fun q hq => ((o22 (q) (by omega)).trans (o2 (q) (by omega))))⟩)
  · skip
    refine lv_aload_n hx hb dX9_discard_13 rfl (lv_at hl 0 rfl) ?_
    refine g_iconst hx hb dX9_discard_14 ?_
    have hC24 := c_X9_fails l g b0 n f1 h (pu Z 0 0) 1 hf3 hrg
    refine g_callVi (ci := 11) (C := RX9) (T := TX9) (N := 24) (As := [.int (zI 1)]) (rest := []) ⟨hx, hb, hml, hown, hts⟩ hK hM hC24 (cuV (n := 1) hts u_1412 u_1409 u_10 (by decide) u_1411 us_55 ⟨Nat.le_of_ble_eq_true rfl, Nat.le_of_ble_eq_true rfl⟩) ⟨by omega, by omega⟩ hf3 rfl rfl hl.1 rfl (Nat.le_of_ble_eq_true rfl) dX9_discard_15 ⟨Nat.zero_le _, Nat.zero_le _⟩ (fun r15 f25 H locs hM hp26 => ?_)
    obtain ⟨rfl, hm27, o28⟩ := hp26
    have ho29 : f25 h = .inr (11, [.int (zI 1), .ref (h + 1), .ref (h + 2), .ref (h + 3), .ref (h + 4), .ref (h + 5), .ref (h + 6), .ref (h + 7), .ref (h + 8), .int (zI (Z 9)), .int (zI (Z 10)), .int (zI (Z 11)), .int (zI (Z 12)), .int (zI (Z 13)), .int (zI (Z 14)), .int (zI (Z 15)), .int (zI (Z 16)), .ref (h + 9), .ref (h + 10), .ref (h + 11), .int (zI (Z 20)), .int (zI (Z 21)), .int (zI (Z 22)), .ref (h + 12)]) := hm27
    refine g_iret hx hb hr hlk hK hM dX9_discard_18 ?_
    exact Or.inr (Or.inl ⟨c10, ho29, (fun q hq => ((o28 (q) (by omega)).trans (o2 (q) (by omega))))⟩)

def po_X9_conflict (g : gE) (f : gF) (h : Nat) (Z : Nat → Int) (bb : Int) : Int32 → gF → Prop := fun r f1 => (0 ≤ Z 13 ∧ r = zI (if bb = 0 then Z 13 else Z 14) ∧ mdO f1 h (pu Z 0 0) ∧ ∀ q, q ≠ h → f1 q = f q) ∨ (Z 13 < 0 ∧ mdO f1 h (pu Z 0 1) ∧ ∀ q, q ≠ h → f1 q = f q)
set_option maxRecDepth 100000 in
set_option maxHeartbeats 1000000 in
/-- conflict -/
theorem c_X9_conflict (l : Launch) (g : gE) (b0 n : Nat) (f : gF) (h : Nat) (Z : Nat → Int) (bb : Int) (hO : mdO f h Z) (hrg : b0 ≤ h ∧ h + 13 ≤ b0 + n) (hr13 : rI (Z 13)) (hbb : bb = 0 ∨ bb = 1) : cI l yX9_conflict cX9_conflict 2 (some .int) 1 21 [.ref h, .int (zI bb)] g b0 n f (po_X9_conflict g f h Z bb) := by
  refine gs_i (cc := cX9_conflict) (maxL := 2) (ret := (some .int)) (by decide) (Nat.le_of_ble_eq_true rfl) ?_
  intro p e0 s m args below meth c ls hx hb hr hml hown hts hlk hK hM hl
  have hl : lv_has ls 2 [(0, .ref h), (1, .int (zI bb))] := hl
  refine lv_aload_n hx hb dX9_conflict_0 rfl (lv_at hl 0 rfl) ?_
  refine g_iconst hx hb dX9_conflict_1 ?_
  refine g_put (ci := 11) (v := .int (zI 0)) (ty := .int) (C := RX9) (T := TX9) (N := 24) hx hb hts iU_X9 tyX9 tyX9_ok nmX9 hown hK hM ⟨by omega, by omega⟩ hO rfl 0 (by decide) (hts _ u_1144) (fun _ h9 => h9) rfl (by decide +kernel) rfl rfl (Nat.le_of_ble_eq_true rfl) dX9_conflict_2 (fun f1 H locs hM hf3 o2 => ?_)
  have hf3 : f1 (h) = .inr (11, [.int (zI 0), .ref (h + 1), .ref (h + 2), .ref (h + 3), .ref (h + 4), .ref (h + 5), .ref (h + 6), .ref (h + 7), .ref (h + 8), .int (zI (Z 9)), .int (zI (Z 10)), .int (zI (Z 11)), .int (zI (Z 12)), .int (zI (Z 13)), .int (zI (Z 14)), .int (zI (Z 15)), .int (zI (Z 16)), .ref (h + 9), .ref (h + 10), .ref (h + 11), .int (zI (Z 20)), .int (zI (Z 21)), .int (zI (Z 22)), .ref (h + 12)]) := hf3
  refine lv_aload_n hx hb dX9_conflict_5 rfl (lv_at hl 0 rfl) ?_
  refine g_get (ci := 11) (v := .int (zI (Z 13))) (C := RX9) (T := TX9) (N := 24) hx hb hts iU_X9 hown hK hM ⟨by omega, by omega⟩ hf3 rfl 13 (by decide) (hts _ u_1157) (fun _ h9 => h9) rfl dX9_conflict_6 ?_
  refine g_if_ge (tgt := 18) hx hb dX9_conflict_9 (by decide) hr13 (fun c9 => ?_) (fun c9 => ?_)
  · skip
    refine lv_iload_n hx hb dX9_conflict_18 rfl (lv_at hl 1 rfl) ?_
    refine g_if_eq (tgt := 29) hx hb dX9_conflict_19 (by decide) ⟨by omega, by omega⟩ (fun c19 => ?_) (fun c19 => ?_)
    · skip
      refine lv_aload_n hx hb dX9_conflict_29 rfl (lv_at hl 0 rfl) ?_
      refine g_get (ci := 11) (v := .int (zI (Z 13))) (C := RX9) (T := TX9) (N := 24) hx hb hts iU_X9 hown hK hM ⟨by omega, by omega⟩ hf3 rfl 13 (by decide) (hts _ u_1157) (fun _ h9 => h9) rfl dX9_conflict_30 ?_
      refine g_iret hx hb hr hlk hK hM dX9_conflict_33 ?_
      exact Or.inl ⟨by omega, by rw [if_pos (by omega)], hf3, (fun q hq => (o2 (q) (by omega)))⟩
    · skip
      refine lv_aload_n hx hb dX9_conflict_22 rfl (lv_at hl 0 rfl) ?_
      refine g_get (ci := 11) (v := .int (zI (Z 14))) (C := RX9) (T := TX9) (N := 24) hx hb hts iU_X9 hown hK hM ⟨by omega, by omega⟩ hf3 rfl 14 (by decide) (hts _ u_1158) (fun _ h9 => h9) rfl dX9_conflict_23 ?_
      refine lv_goto (tgt := 33) hx hb dX9_conflict_26 (by decide) ?_
      refine g_iret hx hb hr hlk hK hM dX9_conflict_33 ?_
      exact Or.inl ⟨by omega, by rw [if_neg (by omega)], hf3, (fun q hq => (o2 (q) (by omega)))⟩
  · skip
    refine lv_aload_n hx hb dX9_conflict_12 rfl (lv_at hl 0 rfl) ?_
    refine g_iconst hx hb dX9_conflict_13 ?_
    have hC4 := c_X9_fails l g b0 n f1 h (pu Z 0 0) 1 hf3 hrg
    refine g_callVi (ci := 11) (C := RX9) (T := TX9) (N := 24) (As := [.int (zI 1)]) (rest := []) ⟨hx, hb, hml, hown, hts⟩ hK hM hC4 (cuV (n := 1) hts u_1412 u_1409 u_10 (by decide) u_1411 us_55 ⟨Nat.le_of_ble_eq_true rfl, Nat.le_of_ble_eq_true rfl⟩) ⟨by omega, by omega⟩ hf3 rfl rfl hl.1 rfl (Nat.le_of_ble_eq_true rfl) dX9_conflict_14 ⟨Nat.zero_le _, Nat.zero_le _⟩ (fun r14 f5 H locs hM hp6 => ?_)
    obtain ⟨rfl, hm7, o8⟩ := hp6
    have ho9 : f5 h = .inr (11, [.int (zI 1), .ref (h + 1), .ref (h + 2), .ref (h + 3), .ref (h + 4), .ref (h + 5), .ref (h + 6), .ref (h + 7), .ref (h + 8), .int (zI (Z 9)), .int (zI (Z 10)), .int (zI (Z 11)), .int (zI (Z 12)), .int (zI (Z 13)), .int (zI (Z 14)), .int (zI (Z 15)), .int (zI (Z 16)), .ref (h + 9), .ref (h + 10), .ref (h + 11), .int (zI (Z 20)), .int (zI (Z 21)), .int (zI (Z 22)), .ref (h + 12)]) := hm7
    refine g_iret hx hb hr hlk hK hM dX9_conflict_17 ?_
    exact Or.inr ⟨by omega, ho9, (fun q hq => ((o8 (q) (by omega)).trans (o2 (q) (by omega))))⟩

def po_X9_clearReason (g : gE) (f : gF) (h : Nat) (Z : Nat → Int) : Int32 → gF → Prop := fun r f1 => r = zI (Z 12) ∧ mdO f1 h (pu Z 12 0) ∧ ∀ q, q ≠ h → f1 q = f q
set_option maxRecDepth 100000 in
set_option maxHeartbeats 1000000 in
/-- clearReason -/
theorem c_X9_clearReason (l : Launch) (g : gE) (b0 n : Nat) (f : gF) (h : Nat) (Z : Nat → Int) (hO : mdO f h Z) (hrg : b0 ≤ h ∧ h + 13 ≤ b0 + n) : cI l yX9_clearReason cX9_clearReason 2 (some .int) 0 0 [.ref h] g b0 n f (po_X9_clearReason g f h Z) := by
  refine gs_i (cc := cX9_clearReason) (maxL := 2) (ret := (some .int)) (by decide) (Nat.le_of_ble_eq_true rfl) ?_
  intro p e0 s m args below meth c ls hx hb hr hml hown hts hlk hK hM hl
  have hl : lv_has ls 2 [(0, .ref h)] := hl
  refine lv_aload_n hx hb dX9_clearReason_0 rfl (lv_at hl 0 rfl) ?_
  refine g_get (ci := 11) (v := .int (zI (Z 12))) (C := RX9) (T := TX9) (N := 24) hx hb hts iU_X9 hown hK hM ⟨by omega, by omega⟩ hO rfl 12 (by decide) (hts _ u_1156) (fun _ h9 => h9) rfl dX9_clearReason_1 ?_
  refine lv_istore_n (lv' := [(1, .int (zI (Z 12))), (0, .ref h)]) hx hb dX9_clearReason_4 rfl hl (by decide) rfl (fun ls hl => ?_)
  refine lv_aload_n hx hb dX9_clearReason_5 rfl (lv_at hl 1 rfl) ?_
  refine g_iconst hx hb dX9_clearReason_6 ?_
  refine g_put (ci := 11) (v := .int (zI 0)) (ty := .int) (C := RX9) (T := TX9) (N := 24) hx hb hts iU_X9 tyX9 tyX9_ok nmX9 hown hK hM ⟨by omega, by omega⟩ hO rfl 12 (by decide) (hts _ u_1156) (fun _ h9 => h9) rfl (by decide +kernel) rfl rfl (Nat.le_of_ble_eq_true rfl) dX9_clearReason_7 (fun f1 H locs hM hf3 o2 => ?_)
  have hf3 : f1 (h) = .inr (11, [.int (zI (Z 0)), .ref (h + 1), .ref (h + 2), .ref (h + 3), .ref (h + 4), .ref (h + 5), .ref (h + 6), .ref (h + 7), .ref (h + 8), .int (zI (Z 9)), .int (zI (Z 10)), .int (zI (Z 11)), .int (zI 0), .int (zI (Z 13)), .int (zI (Z 14)), .int (zI (Z 15)), .int (zI (Z 16)), .ref (h + 9), .ref (h + 10), .ref (h + 11), .int (zI (Z 20)), .int (zI (Z 21)), .int (zI (Z 22)), .ref (h + 12)]) := hf3
  refine lv_iload_n hx hb dX9_clearReason_10 rfl (lv_at hl 0 rfl) ?_
  refine g_iret hx hb hr hlk hK hM dX9_clearReason_11 ?_
  exact ⟨rfl, hf3, (fun q hq => (o2 (q) (by omega)))⟩

def po_X9_step_ (g : gE) (f : gF) (h : Nat) (Z M St Mn Pr : Nat → Int) (B P T : Nat → Nat → Int) (sc : Nat → Nat) (pr ex : Nat → Int) (ps : Nat) (a b : Int) : Int32 → gF → Prop := fun r f1 => ∃ cd : Int, cd = cd2 (0 ≤ a ∧ a < ↑(sc ps)) (0 ≤ b ∧ b ≤ 4) ∧ (cd = 0 → r = zI (T ps (a.toNat * 5 + b.toNat))) ∧ mdO f1 h (pu Z 0 cd) ∧ ∀ q, q ≠ h → f1 q = f q
set_option maxRecDepth 100000 in
set_option maxHeartbeats 1000000 in
/-- step(k, what) -/
theorem c_X9_step_ (l : Launch) (g : gE) (b0 n : Nat) (f : gF) (h : Nat) (Z M St Mn Pr : Nat → Int) (B P T : Nat → Nat → Int) (sc : Nat → Nat) (pr ex : Nat → Int) (ps : Nat) (a b : Int) (hO : mdO f h Z) (hrg : b0 ≤ h ∧ h + 13 ≤ b0 + n) (hPl : arJ g f (h + 1) 2058 M) (hSt : arI g f (h + 3) 1800 St) (hMn : arI g f (h + 4) 6 Mn) (hPr : arI g f (h + 5) 6 Pr) (hR : mRel M St Mn Pr B P T sc pr ex) (hz9 : Z 9 = ↑ps) (hps : ps < 6) (hpx : ex ps = 1) (hscs : ∀ k, k < 6 → ex k = 1 → sc k ≤ 60) (hexi : ∀ k, k < 6 → ex k = 0 ∨ ex k = 1) (hpri : ∀ k, k < 6 → rI (pr k)) (hp0 : pr 0 = -1) (hra : rI a) (hrb : rI b) : cI l yX9_step_ cX9_step_ 3 (some .int) 1 25 [.ref h, .int (zI a), .int (zI b)] g b0 n f (po_X9_step_ g f h Z M St Mn Pr B P T sc pr ex ps a b) := by
  refine gs_i (cc := cX9_step_) (maxL := 3) (ret := (some .int)) (by decide) (Nat.le_of_ble_eq_true rfl) ?_
  intro p e0 s m args below meth c ls hx hb hr hml hown hts hlk hK hM hl
  have hl : lv_has ls 3 [(0, .ref h), (1, .int (zI a)), (2, .int (zI b))] := hl
  have hmn := mRel_mn hR hscs
  have hPq : ∀ k, k < 6 → ex k = 1 → Pr k = pr k := fun k hk hx => ((hR k hk).1 hx).2.2.2.2
  have hs60 := hscs ps hps hpx
  have hmn9 : Mn ps = ↑(sc ps) := ((hmn ps hps).1 hpx).1
  refine lv_aload_n hx hb dX9_step__0 rfl (lv_at hl 0 rfl) ?_
  refine g_iconst hx hb dX9_step__1 ?_
  refine g_put (ci := 11) (v := .int (zI 0)) (ty := .int) (C := RX9) (T := TX9) (N := 24) hx hb hts iU_X9 tyX9 tyX9_ok nmX9 hown hK hM ⟨by omega, by omega⟩ hO rfl 0 (by decide) (hts _ u_1144) (fun _ h9 => h9) rfl (by decide +kernel) rfl rfl (Nat.le_of_ble_eq_true rfl) dX9_step__2 (fun f1 H locs hM hf3 o2 => ?_)
  have hf3 : f1 (h) = .inr (11, [.int (zI 0), .ref (h + 1), .ref (h + 2), .ref (h + 3), .ref (h + 4), .ref (h + 5), .ref (h + 6), .ref (h + 7), .ref (h + 8), .int (zI (Z 9)), .int (zI (Z 10)), .int (zI (Z 11)), .int (zI (Z 12)), .int (zI (Z 13)), .int (zI (Z 14)), .int (zI (Z 15)), .int (zI (Z 16)), .ref (h + 9), .ref (h + 10), .ref (h + 11), .int (zI (Z 20)), .int (zI (Z 21)), .int (zI (Z 22)), .ref (h + 12)]) := hf3
  refine lv_iload_n hx hb dX9_step__5 rfl (lv_at hl 1 rfl) ?_
  refine g_i2l hx hb dX9_step__6 hra ?_
  refine g_lconst (z := 0) hx hb dX9_step__7 (by decide) ?_
  refine lv_aload_n hx hb dX9_step__8 rfl (lv_at hl 0 rfl) ?_
  refine g_get (ci := 11) (v := .ref (h + 4)) (C := RX9) (T := TX9) (N := 24) hx hb hts iU_X9 hown hK hM ⟨by omega, by omega⟩ hf3 rfl 4 (by decide) (hts _ u_1148) (fun _ h9 => h9) rfl dX9_step__9 ?_
  refine lv_aload_n hx hb dX9_step__12 rfl (lv_at hl 0 rfl) ?_
  refine g_get (ci := 11) (v := .int (zI (Z 9))) (C := RX9) (T := TX9) (N := 24) hx hb hts iU_X9 hown hK hM ⟨by omega, by omega⟩ hf3 rfl 9 (by decide) (hts _ u_1153) (fun _ h9 => h9) rfl dX9_step__13 ?_
  rw [hz9]
  have hf4 := hMn.kept (o2 (h + 4) (by omega))
  refine g_iald hx hb hK hM ⟨by omega, by omega⟩ hf4 (by omega) (by omega) (by decide) dX9_step__16 ?_
  show W _ _ _ _ _ _ _ _ _ _ _ _ _ _ _ (F0 _ _ _ (.int (zI (Mn ps)) :: _))
  rw [hmn9]
  refine g_iconst hx hb dX9_step__17 ?_
  refine g_isub hx hb dX9_step__18 ?_
  refine g_i2l hx hb dX9_step__19 ⟨by omega, by omega⟩ ?_
  have hC5 := c_X9_in l g b0 n f1 a 0 ((↑(sc ps) : Int) - 1) (rI_L hra) (by decide) ⟨by omega, by omega⟩
  refine g_callSi (As := [.long (zL a), .long (zL 0), .long (zL ((↑(sc ps) : Int) - 1))]) (rest := []) ⟨hx, hb, hml, hown, hts⟩ hK hM hC5 (cuS (n := 3) hts u_1240 u_1238 u_10 (by decide) u_1239 ⟨Nat.le_of_ble_eq_true rfl, Nat.le_of_ble_eq_true rfl⟩) rfl hl.1 rfl (Nat.le_of_ble_eq_true rfl) dX9_step__20 ⟨Nat.zero_le _, Nat.zero_le _⟩ (fun r20 f6 H locs hM hp7 => ?_)
  obtain ⟨rfl, rfl⟩ := hp7
  refine g_ifb_ne (tgt := 32) hx hb dX9_step__23 (by decide) (fun c23 => ?_) (fun c23 => ?_)
  · skip
    refine lv_iload_n hx hb dX9_step__32 rfl (lv_at hl 2 rfl) ?_
    refine g_i2l hx hb dX9_step__33 hrb ?_
    refine g_lconst (z := 0) hx hb dX9_step__34 (by decide) ?_
    refine g_ldc2 (z := 4) hx hb hown (hts _ u_1413) dX9_step__35 (by decide) ?_
    have hC8 := c_X9_in l g b0 n f1 b 0 4 (rI_L hrb) (by decide) (by decide)
    refine g_callSi (As := [.long (zL b), .long (zL 0), .long (zL 4)]) (rest := []) ⟨hx, hb, hml, hown, hts⟩ hK hM hC8 (cuS (n := 3) hts u_1240 u_1238 u_10 (by decide) u_1239 ⟨Nat.le_of_ble_eq_true rfl, Nat.le_of_ble_eq_true rfl⟩) rfl hl.1 rfl (Nat.le_of_ble_eq_true rfl) dX9_step__38 ⟨Nat.zero_le _, Nat.zero_le _⟩ (fun r38 f9 H locs hM hp10 => ?_)
    obtain ⟨rfl, rfl⟩ := hp10
    refine g_ifb_eq (tgt := 65) hx hb dX9_step__41 (by decide) (fun c41 => ?_) (fun c41 => ?_)
    · skip
      refine lv_aload_n hx hb dX9_step__65 rfl (lv_at hl 0 rfl) ?_
      refine g_iconst hx hb dX9_step__66 ?_
      have hC11 := c_X9_fails l g b0 n f1 h (pu Z 0 0) 2 hf3 hrg
      refine g_callVi (ci := 11) (C := RX9) (T := TX9) (N := 24) (As := [.int (zI 2)]) (rest := []) ⟨hx, hb, hml, hown, hts⟩ hK hM hC11 (cuV (n := 1) hts u_1412 u_1409 u_10 (by decide) u_1411 us_55 ⟨Nat.le_of_ble_eq_true rfl, Nat.le_of_ble_eq_true rfl⟩) ⟨by omega, by omega⟩ hf3 rfl rfl hl.1 rfl (Nat.le_of_ble_eq_true rfl) dX9_step__67 ⟨Nat.zero_le _, Nat.zero_le _⟩ (fun r67 f12 H locs hM hp13 => ?_)
      obtain ⟨rfl, hm14, o15⟩ := hp13
      have ho16 : f12 h = .inr (11, [.int (zI 2), .ref (h + 1), .ref (h + 2), .ref (h + 3), .ref (h + 4), .ref (h + 5), .ref (h + 6), .ref (h + 7), .ref (h + 8), .int (zI (Z 9)), .int (zI (Z 10)), .int (zI (Z 11)), .int (zI (Z 12)), .int (zI (Z 13)), .int (zI (Z 14)), .int (zI (Z 15)), .int (zI (Z 16)), .ref (h + 9), .ref (h + 10), .ref (h + 11), .int (zI (Z 20)), .int (zI (Z 21)), .int (zI (Z 22)), .ref (h + 12)]) := hm14
      refine g_iret hx hb hr hlk hK hM dX9_step__70 ?_
      exact ⟨2, (cd2_2 (by omega) (by omega)).symm, fun hh => absurd hh (by decide), ho16, (fun q hq => ((o15 (q) (by omega)).trans (o2 (q) (by omega))))⟩
    · skip
      refine lv_aload_n hx hb dX9_step__44 rfl (lv_at hl 0 rfl) ?_
      refine g_get (ci := 11) (v := .ref (h + 3)) (C := RX9) (T := TX9) (N := 24) hx hb hts iU_X9 hown hK hM ⟨by omega, by omega⟩ hf3 rfl 3 (by decide) (hts _ u_1147) (fun _ h9 => h9) rfl dX9_step__45 ?_
      refine g_iconst hx hb dX9_step__48 ?_
      refine g_bipush hx hb dX9_step__49 (by decide) ?_
      refine lv_aload_n hx hb dX9_step__51 rfl (lv_at hl 0 rfl) ?_
      refine g_get (ci := 11) (v := .int (zI (Z 9))) (C := RX9) (T := TX9) (N := 24) hx hb hts iU_X9 hown hK hM ⟨by omega, by omega⟩ hf3 rfl 9 (by decide) (hts _ u_1153) (fun _ h9 => h9) rfl dX9_step__52 ?_
      rw [hz9]
      refine g_imul hx hb dX9_step__55 ?_
      refine lv_iload_n hx hb dX9_step__56 rfl (lv_at hl 1 rfl) ?_
      refine g_iadd hx hb dX9_step__57 ?_
      refine g_imul hx hb dX9_step__58 ?_
      refine lv_iload_n hx hb dX9_step__59 rfl (lv_at hl 2 rfl) ?_
      refine g_iadd hx hb dX9_step__60 ?_
      have hf17 := hSt.kept (o2 (h + 3) (by omega))
      refine g_iald hx hb hK hM ⟨by omega, by omega⟩ hf17 (by omega) (by omega) (by decide) dX9_step__61 ?_
      show W _ _ _ _ _ _ _ _ _ _ _ _ _ _ _ (F0 _ _ _ (.int (zI (St ((5 * ((60 * (↑ps : Int)) + a)) + b).toNat)) :: _))
      refine lv_goto (tgt := 70) hx hb dX9_step__62 (by decide) ?_
      refine g_iret hx hb hr hlk hK hM dX9_step__70 ?_
      have hT9 := ((hR ps hps).1 hpx).2.2.1 (a.toNat * 5 + b.toNat) (by omega)
      have hv9 : (St ((5 * ((60 * (↑ps : Int)) + a)) + b).toNat) = T ps (a.toNat * 5 + b.toNat) := by rw [← hT9]; exact congrArg St (by omega)
      exact ⟨0, (cd2_y (by omega) (by omega)).symm, fun _ => by rw [hv9], hf3, (fun q hq => (o2 (q) (by omega)))⟩
  · skip
    refine lv_aload_n hx hb dX9_step__26 rfl (lv_at hl 0 rfl) ?_
    refine g_iconst hx hb dX9_step__27 ?_
    have hC18 := c_X9_fails l g b0 n f1 h (pu Z 0 0) 1 hf3 hrg
    refine g_callVi (ci := 11) (C := RX9) (T := TX9) (N := 24) (As := [.int (zI 1)]) (rest := []) ⟨hx, hb, hml, hown, hts⟩ hK hM hC18 (cuV (n := 1) hts u_1412 u_1409 u_10 (by decide) u_1411 us_55 ⟨Nat.le_of_ble_eq_true rfl, Nat.le_of_ble_eq_true rfl⟩) ⟨by omega, by omega⟩ hf3 rfl rfl hl.1 rfl (Nat.le_of_ble_eq_true rfl) dX9_step__28 ⟨Nat.zero_le _, Nat.zero_le _⟩ (fun r28 f19 H locs hM hp20 => ?_)
    obtain ⟨rfl, hm21, o22⟩ := hp20
    have ho23 : f19 h = .inr (11, [.int (zI 1), .ref (h + 1), .ref (h + 2), .ref (h + 3), .ref (h + 4), .ref (h + 5), .ref (h + 6), .ref (h + 7), .ref (h + 8), .int (zI (Z 9)), .int (zI (Z 10)), .int (zI (Z 11)), .int (zI (Z 12)), .int (zI (Z 13)), .int (zI (Z 14)), .int (zI (Z 15)), .int (zI (Z 16)), .ref (h + 9), .ref (h + 10), .ref (h + 11), .int (zI (Z 20)), .int (zI (Z 21)), .int (zI (Z 22)), .ref (h + 12)]) := hm21
    refine g_iret hx hb hr hlk hK hM dX9_step__31 ?_
    exact ⟨1, (cd2_1 (by omega)).symm, fun hh => absurd hh (by decide), ho23, (fun q hq => ((o22 (q) (by omega)).trans (o2 (q) (by omega))))⟩
