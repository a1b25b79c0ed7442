def po_X1_branchOrNull (g : gE) (f : gF) (h : Nat) (B P T : Nat → Nat → Int) (sc pr ex : Nat → Int) (ps : Nat) (z : Int) : Option Nat → gF → Prop := fun r f1 => r = fdR h ex z ∧ f = f1
set_option maxRecDepth 100000 in
set_option maxHeartbeats 1000000 in
/-- find(number) -/
theorem c_X1_branchOrNull (l : Launch) (g : gE) (b0 n : Nat) (f : gF) (h : Nat) (B P T : Nat → Nat → Int) (sc pr ex : Nat → Int) (ps : Nat) (z : Int) (hE : brsAt g f h B P T sc pr ex (↑ps)) (hrg : b0 ≤ h ∧ h + 290 ≤ b0 + n) (hex : ∀ k, k < 6 → ex k = 0 ∨ ex k = 1) (hrz : rI z) : cQ l yX1_branchOrNull cX1_branchOrNull 3 (some (.object "EnvelopePlanner$Branch")) 0 0 [.ref h, .int (zI z)] g b0 n f (po_X1_branchOrNull g f h B P T sc pr ex ps z) := by
  refine gs_q (cc := cX1_branchOrNull) (maxL := 3) (ret := (some (.object "EnvelopePlanner$Branch"))) (by decide) (Nat.le_of_ble_eq_true rfl) ?_
  intro p e0 s m args below meth c ls hx hb hr hml hown hts hlk hK hM hl
  have hl : lv_has ls 3 [(0, .ref h), (1, .int (zI z))] := hl
  refine lv_iload_n hx hb dX1_branchOrNull_0 rfl (lv_at hl 1 rfl) ?_
  refine g_if_lt (tgt := 10) hx hb dX1_branchOrNull_1 (by decide) hrz (fun c1 => ?_) (fun c1 => ?_)
  · skip
    refine lv_null hx hb dX1_branchOrNull_10 ?_
    refine g_aret (r := none) hx hb hr hlk hK hM dX1_branchOrNull_11 rfl ?_
    refine ⟨?_, rfl⟩
    unfold fdR
    first | rw [if_neg (by omega)] | (rw [Int.toNat_natCast, if_pos (by have := hex i (by omega); omega)]) | (rw [Int.toNat_natCast, if_neg (by omega)])
  · skip
    refine lv_iload_n hx hb dX1_branchOrNull_4 rfl (lv_at hl 1 rfl) ?_
    refine g_bipush hx hb dX1_branchOrNull_5 (by decide) ?_
    refine g_icmp_lt (tgt := 12) hx hb dX1_branchOrNull_7 (by decide) hrz (by decide) (fun c7 => ?_) (fun c7 => ?_)
    · skip
      obtain ⟨i, hzi⟩ : ∃ q : Nat, z = q := ⟨z.toNat, by omega⟩
      subst hzi
      refine lv_aload_n hx hb dX1_branchOrNull_12 rfl (lv_at hl 0 rfl) ?_
      obtain ⟨ho1, ho2, ho3⟩ := id hE
      refine g_get (ci := 3) (v := .ref (h + 49)) (C := RX1) (T := TX1) (N := 3) hx hb hts iU_X1 hown hK hM ⟨by omega, by omega⟩ ho1 rfl 1 (by decide) (hts _ u_235) (fun _ h9 => h9) rfl dX1_branchOrNull_13 ?_
      refine lv_iload_n hx hb dX1_branchOrNull_16 rfl (lv_at hl 1 rfl) ?_
      refine g_aald hx hb hK hM ⟨by omega, by omega⟩ ho2 (by omega) (by omega) (by decide) dX1_branchOrNull_17 (q := (brB h i)) rfl ?_
      refine lv_astore_n (lv' := [(2, .ref (brB h i)), (0, .ref h), (1, .int (zI (↑i : Int)))]) hx hb dX1_branchOrNull_18 rfl hl (by decide) rfl (fun ls hl => ?_)
      refine lv_aload_n hx hb dX1_branchOrNull_19 rfl (lv_at hl 0 rfl) ?_
      refine lv_ifnull hx hb dX1_branchOrNull_20 ?_
      have hbb4 := brB_in (h := h) (k := i) (by omega)
      have hbr4 := hE.2.2 i (by omega)
      refine lv_aload_n hx hb dX1_branchOrNull_23 rfl (lv_at hl 0 rfl) ?_
      obtain ⟨ho5, ho6, ho7, ho8⟩ := id hbr4
      refine g_getN (ci := 2) (v := .int (zI (ex i))) (C := RX0) (T := TX0) (N := 6) hx hb hts iU_X0 hown hK hM ⟨by omega, by omega⟩ ho5 rfl 5 (by decide) (hts _ u_217) (fun _ h9 => h9) rfl dX1_branchOrNull_24 ?_
      refine g_if_eq (tgt := 34) hx hb dX1_branchOrNull_27 (by decide) (by rcases hex i (by omega) with q | q <;> rw [q] <;> decide) (fun c27 => ?_) (fun c27 => ?_)
      · skip
        refine lv_null hx hb dX1_branchOrNull_34 ?_
        refine g_aret (r := none) hx hb hr hlk hK hM dX1_branchOrNull_35 rfl ?_
        refine ⟨?_, rfl⟩
        unfold fdR
        first | rw [if_neg (by omega)] | (rw [Int.toNat_natCast, if_pos (by have := hex i (by omega); omega)]) | (rw [Int.toNat_natCast, if_neg (by omega)])
      · skip
        refine lv_aload_n hx hb dX1_branchOrNull_30 rfl (lv_at hl 0 rfl) ?_
        refine lv_goto (tgt := 35) hx hb dX1_branchOrNull_31 (by decide) ?_
        refine g_aret (r := some (brB h i)) hx hb hr hlk hK hM dX1_branchOrNull_35 rfl ?_
        refine ⟨?_, rfl⟩
        unfold fdR
        first | rw [if_neg (by omega)] | (rw [Int.toNat_natCast, if_pos (by have := hex i (by omega); omega)]) | (rw [Int.toNat_natCast, if_neg (by omega)])
    · skip
      refine lv_null hx hb dX1_branchOrNull_10 ?_
      refine g_aret (r := none) hx hb hr hlk hK hM dX1_branchOrNull_11 rfl ?_
      refine ⟨?_, rfl⟩
      unfold fdR
      first | rw [if_neg (by omega)] | (rw [Int.toNat_natCast, if_pos (by have := hex i (by omega); omega)]) | (rw [Int.toNat_natCast, if_neg (by omega)])

def po_X1_here (g : gE) (f : gF) (h : Nat) (B P T : Nat → Nat → Int) (sc pr ex : Nat → Int) (ps : Nat) : Option Nat → gF → Prop := fun r f1 => r = some (brB h ps) ∧ f = f1
set_option maxRecDepth 100000 in
set_option maxHeartbeats 1000000 in
/-- here() -/
theorem c_X1_here (l : Launch) (g : gE) (b0 n : Nat) (f : gF) (h : Nat) (B P T : Nat → Nat → Int) (sc pr ex : Nat → Int) (ps : Nat) (hE : brsAt g f h B P T sc pr ex (↑ps)) (hrg : b0 ≤ h ∧ h + 290 ≤ b0 + n) (hex : ∀ k, k < 6 → ex k = 0 ∨ ex k = 1) (hps : ps < 6) (hpx : ex ps = 1) : cQ l yX1_here cX1_here 2 (some (.object "EnvelopePlanner$Branch")) 1 22 [.ref h] g b0 n f (po_X1_here g f h B P T sc pr ex ps) := by
  refine gs_q (cc := cX1_here) (maxL := 2) (ret := (some (.object "EnvelopePlanner$Branch"))) (by decide) (Nat.le_of_ble_eq_true rfl) ?_
  intro p e0 s m args below meth c ls hx hb hr hml hown hts hlk hK hM hl
  have hl : lv_has ls 2 [(0, .ref h)] := hl
  refine lv_aload_n hx hb dX1_here_0 rfl (lv_at hl 0 rfl) ?_
  refine lv_aload_n hx hb dX1_here_1 rfl (lv_at hl 0 rfl) ?_
  obtain ⟨ho1, ho2, ho3⟩ := id hE
  refine g_get (ci := 3) (v := .int (zI (↑ps : Int))) (C := RX1) (T := TX1) (N := 3) hx hb hts iU_X1 hown hK hM ⟨by omega, by omega⟩ ho1 rfl 2 (by decide) (hts _ u_236) (fun _ h9 => h9) rfl dX1_here_2 ?_
  have hC4 := c_X1_branchOrNull l g b0 n f h B P T sc pr ex ps (↑ps : Int) hE hrg hex ⟨by omega, by omega⟩
  refine g_callVq (ci := 3) (C := RX1) (T := TX1) (N := 3) (As := [.int (zI (↑ps : Int))]) (rest := []) ⟨hx, hb, hml, hown, hts⟩ hK hM hC4 (cuV (n := 1) hts u_370 u_367 u_2 (by decide) u_368 u_369 ⟨Nat.le_of_ble_eq_true rfl, Nat.le_of_ble_eq_true rfl⟩) ⟨by omega, by omega⟩ ho1 rfl rfl hl.1 rfl (Nat.le_of_ble_eq_true rfl) dX1_here_5 ⟨Nat.zero_le _, Nat.zero_le _⟩ (fun r5 f5 H locs hM hp6 => ?_)
  obtain ⟨rfl, rfl⟩ := hp6
  rw [fd_n (by omega)]
  rw [if_pos hpx]
  refine lv_astore_n (lv' := [(1, .ref (brB h ps)), (0, .ref h)]) hx hb dX1_here_8 rfl hl (by decide) rfl (fun ls hl => ?_)
  refine lv_aload_n hx hb dX1_here_9 rfl (lv_at hl 0 rfl) ?_
  refine lv_ifnull hx hb dX1_here_10 ?_
  refine lv_aload_n hx hb dX1_here_13 rfl (lv_at hl 0 rfl) ?_
  refine lv_goto (tgt := 21) hx hb dX1_here_14 (by decide) ?_
  refine g_aret (r := some (brB h ps)) hx hb hr hlk hK hM dX1_here_21 rfl ?_
  exact ⟨rfl, rfl⟩

def po_X1_count (g : gE) (f : gF) (h : Nat) (B P T : Nat → Nat → Int) (sc pr ex : Nat → Int) (ps : Nat) : Int32 → gF → Prop := fun r f1 => r = zI (sCnt ex 6) ∧ f = f1
set_option maxRecDepth 100000 in
set_option maxHeartbeats 1000000 in
/-- count() -/
theorem c_X1_count (l : Launch) (g : gE) (b0 n : Nat) (f : gF) (h : Nat) (B P T : Nat → Nat → Int) (sc pr ex : Nat → Int) (ps : Nat) (hE : brsAt g f h B P T sc pr ex (↑ps)) (hrg : b0 ≤ h ∧ h + 290 ≤ b0 + n) (hex : ∀ k, k < 6 → ex k = 0 ∨ ex k = 1) : cI l yX1_count cX1_count 3 (some .int) 1 22 [.ref h] g b0 n f (po_X1_count g f h B P T sc pr ex ps) := by
  refine gs_i (cc := cX1_count) (maxL := 3) (ret := (some .int)) (by decide) (Nat.le_of_ble_eq_true rfl) ?_
  intro p e0 s m args below meth c ls hx hb hr hml hown hts hlk hK hM hl
  have hl : lv_has ls 3 [(0, .ref h)] := hl
  refine g_iconst hx hb dX1_count_0 ?_
  refine lv_istore_n (lv' := [(1, .int (zI 0)), (0, .ref h)]) hx hb dX1_count_1 rfl hl (by decide) rfl (fun ls hl => ?_)
  refine g_iconst hx hb dX1_count_2 ?_
  refine lv_istore_n (lv' := [(2, .int (zI 0)), (1, .int (zI 0)), (0, .ref h)]) hx hb dX1_count_3 rfl hl (by decide) rfl (fun ls hl => ?_)
  have lp4 : ∀ (k : Nat), ∀ (i : Nat) (cv : Int) (H : Heap) (locs : List Loc) (ls : Array Slot), (6 - i < k) → (i ≤ 6) → (cv = sCnt ex i) → gH g b0 n f s.heap H locs → lv_has ls 3 [(0, .ref h), (1, .int (zI cv)), (2, .int (zI (↑i : Int)))] → W p l e0 { frames := 1, cells := 0, slots := 0, locals := 22 } s m args below meth c H locs 0 0 (MQ below (va_Qi (po_X1_count g f h B P T sc pr ex ps) (gB g b0 n) (gA b0)) args s 0 0 (gA b0)) (F0 m 4 ls []) := by
    intro k
    induction k with
    | zero =>
      intro i cv H locs ls hk hi hcv hM hl
      exact absurd hk (Nat.not_lt_zero _)
    | succ k ih4 =>
      intro i cv H locs ls hk hi hcv hM hl
      refine lv_iload_n hx hb dX1_count_4 rfl (lv_at hl 2 rfl) ?_
      refine g_bipush hx hb dX1_count_5 (by decide) ?_
      refine g_icmp_ge (tgt := 27) hx hb dX1_count_7 (by decide) ⟨by omega, by omega⟩ (by decide) (fun c7 => ?_) (fun c7 => ?_)
      · skip
        refine lv_iload_n hx hb dX1_count_27 rfl (lv_at hl 1 rfl) ?_
        refine g_iret hx hb hr hlk hK hM dX1_count_28 ?_
        have hi6 : i = 6 := by omega
        subst hi6
        exact ⟨by rw [hcv], rfl⟩
      · skip
        refine lv_aload_n hx hb dX1_count_10 rfl (lv_at hl 0 rfl) ?_
        refine lv_iload_n hx hb dX1_count_11 rfl (lv_at hl 2 rfl) ?_
        have hC1 := c_X1_branchOrNull l g b0 n f h B P T sc pr ex ps (↑i : Int) hE hrg hex ⟨by omega, by omega⟩
        obtain ⟨ho4, ho5, ho6⟩ := id hE
        refine g_callVq (ci := 3) (C := RX1) (T := TX1) (N := 3) (As := [.int (zI (↑i : Int))]) (rest := []) ⟨hx, hb, hml, hown, hts⟩ hK hM hC1 (cuV (n := 1) hts u_370 u_367 u_2 (by decide) u_368 u_369 ⟨Nat.le_of_ble_eq_true rfl, Nat.le_of_ble_eq_true rfl⟩) ⟨by omega, by omega⟩ ho4 rfl rfl hl.1 rfl (Nat.le_of_ble_eq_true rfl) dX1_count_12 ⟨Nat.zero_le _, Nat.zero_le _⟩ (fun r12 f2 H locs hM hp3 => ?_)
        obtain ⟨rfl, rfl⟩ := hp3
        rw [fd_n (by omega)]
        by_cases cs12 : ex i = 1
        · rw [if_pos cs12]
          refine lv_ifnull hx hb dX1_count_15 ?_
          refine lv_iinc (v := zI (cv + 1)) (lv' := [(1, .int (zI (cv + 1))), (0, .ref h), (2, .int (zI (↑i : Int)))]) hx hb dX1_count_18 hl (k := 1) rfl (zI_add _ _) (by decide) rfl (fun ls hl => ?_)
          refine lv_iinc (v := zI ((↑i : Int) + 1)) (lv' := [(2, .int (zI ((↑i : Int) + 1))), (1, .int (zI (cv + 1))), (0, .ref h)]) hx hb dX1_count_21 hl (k := 2) rfl (zI_add _ _) (by decide) rfl (fun ls hl => ?_)
          refine lv_goto (tgt := 4) hx hb dX1_count_24 (by decide) ?_
          exact ih4 (i + 1) (cv + 1) _ _ _ (by omega) (by omega) (by rw [hcv]; show _ = sCnt ex i + (if ex i = 1 then 1 else 0); first | rw [if_pos (by assumption)] | (rw [if_neg (by assumption)]; omega)) hM (lv_sub hl [2, 1, 0] rfl)
        · rw [if_neg cs12]
          refine lv_ifnullN (tgt := 21) hx hb dX1_count_15 (by decide) ?_
          refine lv_iinc (v := zI ((↑i : Int) + 1)) (lv' := [(2, .int (zI ((↑i : Int) + 1))), (0, .ref h), (1, .int (zI cv))]) hx hb dX1_count_21 hl (k := 2) rfl (zI_add _ _) (by decide) rfl (fun ls hl => ?_)
          refine lv_goto (tgt := 4) hx hb dX1_count_24 (by decide) ?_
          exact ih4 (i + 1) cv _ _ _ (by omega) (by omega) (by rw [hcv]; show _ = sCnt ex i + (if ex i = 1 then 1 else 0); first | rw [if_pos (by assumption)] | (rw [if_neg (by assumption)]; omega)) hM (lv_sub hl [1, 2, 0] rfl)
  exact lp4 (7) 0 0 _ _ _ (by omega) (by omega) rfl hM (lv_sub hl [2, 1, 0] rfl)

def po_X1_childrenOf (g : gE) (f : gF) (h : Nat) (B P T : Nat → Nat → Int) (sc pr ex : Nat → Int) (ps : Nat) (x : Int) : Int32 → gF → Prop := fun r f1 => r = zI (sChd pr ex x 6) ∧ f = f1
set_option maxRecDepth 100000 in
set_option maxHeartbeats 1000000 in
/-- childrenOf(number) -/
theorem c_X1_childrenOf (l : Launch) (g : gE) (b0 n : Nat) (f : gF) (h : Nat) (B P T : Nat → Nat → Int) (sc pr ex : Nat → Int) (ps : Nat) (x : Int) (hE : brsAt g f h B P T sc pr ex (↑ps)) (hrg : b0 ≤ h ∧ h + 290 ≤ b0 + n) (hex : ∀ k, k < 6 → ex k = 0 ∨ ex k = 1) (hpr : ∀ k, k < 6 → rI (pr k)) (hrx : rI x) : cI l yX1_childrenOf cX1_childrenOf 5 (some .int) 1 22 [.ref h, .int (zI x)] g b0 n f (po_X1_childrenOf g f h B P T sc pr ex ps x) := by
  refine gs_i (cc := cX1_childrenOf) (maxL := 5) (ret := (some .int)) (by decide) (Nat.le_of_ble_eq_true rfl) ?_
  intro p e0 s m args below meth c ls hx hb hr hml hown hts hlk hK hM hl
  have hl : lv_has ls 5 [(0, .ref h), (1, .int (zI x))] := hl
  refine g_iconst hx hb dX1_childrenOf_0 ?_
  refine lv_istore_n (lv' := [(2, .int (zI 0)), (0, .ref h), (1, .int (zI x))]) hx hb dX1_childrenOf_1 rfl hl (by decide) rfl (fun ls hl => ?_)
  refine g_iconst hx hb dX1_childrenOf_2 ?_
  refine lv_istore_n (lv' := [(3, .int (zI 0)), (2, .int (zI 0)), (0, .ref h), (1, .int (zI x))]) hx hb dX1_childrenOf_3 rfl hl (by decide) rfl (fun ls hl => ?_)
  have lp4 : ∀ (k : Nat), ∀ (i : Nat) (cv : Int) (H : Heap) (locs : List Loc) (ls : Array Slot), (6 - i < k) → (i ≤ 6) → (cv = sChd pr ex x i) → gH g b0 n f s.heap H locs → lv_has ls 5 [(0, .ref h), (1, .int (zI x)), (2, .int (zI cv)), (3, .int (zI (↑i : Int)))] → W p l e0 { frames := 1, cells := 0, slots := 0, locals := 22 } s m args below meth c H locs 0 0 (MQ below (va_Qi (po_X1_childrenOf g f h B P T sc pr ex ps x) (gB g b0 n) (gA b0)) args s 0 0 (gA b0)) (F0 m 4 ls []) := by
    intro k
    induction k with
    | zero =>
      intro i cv H locs ls hk hi hcv hM hl
      exact absurd hk (Nat.not_lt_zero _)
    | succ k ih4 =>
      intro i cv H locs ls hk hi hcv hM hl
      refine lv_iload_n hx hb dX1_childrenOf_4 rfl (lv_at hl 3 rfl) ?_
      refine g_bipush hx hb dX1_childrenOf_5 (by decide) ?_
      refine g_icmp_ge (tgt := 40) hx hb dX1_childrenOf_7 (by decide) ⟨by omega, by omega⟩ (by decide) (fun c7 => ?_) (fun c7 => ?_)
      · skip
        refine lv_iload_n hx hb dX1_childrenOf_40 rfl (lv_at hl 2 rfl) ?_
        refine g_iret hx hb hr hlk hK hM dX1_childrenOf_41 ?_
        have hi6 : i = 6 := by omega
        subst hi6
        exact ⟨by rw [hcv], rfl⟩
      · skip
        refine lv_aload_n hx hb dX1_childrenOf_10 rfl (lv_at hl 0 rfl) ?_
        refine lv_iload_n hx hb dX1_childrenOf_11 rfl (lv_at hl 3 rfl) ?_
        have hC1 := c_X1_branchOrNull l g b0 n f h B P T sc pr ex ps (↑i : Int) hE hrg hex ⟨by omega, by omega⟩
        obtain ⟨ho4, ho5, ho6⟩ := id hE
        refine g_callVq (ci := 3) (C := RX1) (T := TX1) (N := 3) (As := [.int (zI (↑i : Int))]) (rest := []) ⟨hx, hb, hml, hown, hts⟩ hK hM hC1 (cuV (n := 1) hts u_370 u_367 u_2 (by decide) u_368 u_369 ⟨Nat.le_of_ble_eq_true rfl, Nat.le_of_ble_eq_true rfl⟩) ⟨by omega, by omega⟩ ho4 rfl rfl hl.1 rfl (Nat.le_of_ble_eq_true rfl) dX1_childrenOf_12 ⟨Nat.zero_le _, Nat.zero_le _⟩ (fun r12 f2 H locs hM hp3 => ?_)
        obtain ⟨rfl, rfl⟩ := hp3
        rw [fd_n (by omega)]
        by_cases cs12 : ex i = 1
        · rw [if_pos cs12]
          refine lv_astore (lv' := [(4, .ref (brB h i)), (0, .ref h), (1, .int (zI x)), (2, .int (zI cv)), (3, .int (zI (↑i : Int)))]) hx hb dX1_childrenOf_15 hl (by decide) rfl (fun ls hl => ?_)
          refine lv_aload hx hb dX1_childrenOf_17 (lv_at hl 0 rfl) ?_
          refine lv_ifnull hx hb dX1_childrenOf_19 ?_
          have hbb7 := brB_in (h := h) (k := i) (by omega)
          have hbr7 := hE.2.2 i (by omega)
          refine lv_aload hx hb dX1_childrenOf_22 (lv_at hl 0 rfl) ?_
          obtain ⟨ho8, ho9, ho10, ho11⟩ := id hbr7
          refine g_getN (ci := 2) (v := .int (zI (pr i))) (C := RX0) (T := TX0) (N := 6) hx hb hts iU_X0 hown hK hM ⟨by omega, by omega⟩ ho8 rfl 4 (by decide) (hts _ u_215) (fun _ h9 => h9) rfl dX1_childrenOf_24 ?_
          refine lv_iload_n hx hb dX1_childrenOf_27 rfl (lv_at hl 2 rfl) ?_
          refine g_icmp_ne (tgt := 34) hx hb dX1_childrenOf_28 (by decide) (hpr i (by omega)) hrx (fun c28 => ?_) (fun c28 => ?_)
          · skip
            refine lv_iinc (v := zI ((↑i : Int) + 1)) (lv' := [(3, .int (zI ((↑i : Int) + 1))), (4, .ref (brB h i)), (0, .ref h), (1, .int (zI x)), (2, .int (zI cv))]) hx hb dX1_childrenOf_34 hl (k := 4) rfl (zI_add _ _) (by decide) rfl (fun ls hl => ?_)
            refine lv_goto (tgt := 4) hx hb dX1_childrenOf_37 (by decide) ?_
            exact ih4 (i + 1) cv _ _ _ (by omega) (by omega) (by rw [hcv]; show _ = sChd pr ex x i + (if ex i = 1 ∧ pr i = x then 1 else 0); first | rw [if_pos ⟨by assumption, by omega⟩] | (rw [if_neg (by omega)]; omega)) hM (lv_sub hl [2, 3, 4, 0] rfl)
          · skip
            refine lv_iinc (v := zI (cv + 1)) (lv' := [(2, .int (zI (cv + 1))), (4, .ref (brB h i)), (0, .ref h), (1, .int (zI x)), (3, .int (zI (↑i : Int)))]) hx hb dX1_childrenOf_31 hl (k := 3) rfl (zI_add _ _) (by decide) rfl (fun ls hl => ?_)
            refine lv_iinc (v := zI ((↑i : Int) + 1)) (lv' := [(3, .int (zI ((↑i : Int) + 1))), (2, .int (zI (cv + 1))), (4, .ref (brB h i)), (0, .ref h), (1, .int (zI x))]) hx hb dX1_childrenOf_34 hl (k := 4) rfl (zI_add _ _) (by decide) rfl (fun ls hl => ?_)
            refine lv_goto (tgt := 4) hx hb dX1_childrenOf_37 (by decide) ?_
            exact ih4 (i + 1) (cv + 1) _ _ _ (by omega) (by omega) (by rw [hcv]; show _ = sChd pr ex x i + (if ex i = 1 ∧ pr i = x then 1 else 0); first | rw [if_pos ⟨by assumption, by omega⟩] | (rw [if_neg (by omega)]; omega)) hM (lv_sub hl [3, 4, 1, 0] rfl)
        · rw [if_neg cs12]
          refine lv_astoreN (lv' := [(4, .null), (0, .ref h), (1, .int (zI x)), (2, .int (zI cv)), (3, .int (zI (↑i : Int)))]) hx hb dX1_childrenOf_15 hl (by decide) rfl (fun ls hl => ?_)
          refine lv_aloadN hx hb dX1_childrenOf_17 (lv_at hl 0 rfl) ?_
          refine lv_ifnullN (tgt := 34) hx hb dX1_childrenOf_19 (by decide) ?_
          refine lv_iinc (v := zI ((↑i : Int) + 1)) (lv' := [(3, .int (zI ((↑i : Int) + 1))), (4, .null), (0, .ref h), (1, .int (zI x)), (2, .int (zI cv))]) hx hb dX1_childrenOf_34 hl (k := 4) rfl (zI_add _ _) (by decide) rfl (fun ls hl => ?_)
          refine lv_goto (tgt := 4) hx hb dX1_childrenOf_37 (by decide) ?_
          exact ih4 (i + 1) cv _ _ _ (by omega) (by omega) (by rw [hcv]; show _ = sChd pr ex x i + (if ex i = 1 ∧ pr i = x then 1 else 0); first | rw [if_pos ⟨by assumption, by omega⟩] | (rw [if_neg (by omega)]; omega)) hM (lv_sub hl [2, 3, 4, 0] rfl)
  exact lp4 (7) 0 0 _ _ _ (by omega) (by omega) rfl hM (lv_sub hl [2, 3, 1, 0] rfl)

def po_X1_isRemovable (g : gE) (f : gF) (h : Nat) (B P T : Nat → Nat → Int) (sc pr ex : Nat → Int) (ps : Nat) (x : Int) : Int32 → gF → Prop := fun r f1 => r = bI (x ≠ 0 ∧ x ≠ ps ∧ sChd pr ex x 6 = 0) ∧ f = f1
set_option maxRecDepth 100000 in
set_option maxHeartbeats 1000000 in
/-- isRemovable(number) -/
theorem c_X1_isRemovable (l : Launch) (g : gE) (b0 n : Nat) (f : gF) (h : Nat) (B P T : Nat → Nat → Int) (sc pr ex : Nat → Int) (ps : Nat) (x : Int) (hE : brsAt g f h B P T sc pr ex (↑ps)) (hrg : b0 ≤ h ∧ h + 290 ≤ b0 + n) (hex : ∀ k, k < 6 → ex k = 0 ∨ ex k = 1) (hpr : ∀ k, k < 6 → rI (pr k)) (hrx : rI x) (hps : ps < 6) (hcr : rI (sChd pr ex x 6)) : cI l yX1_isRemovable cX1_isRemovable 2 (some .boolean) 2 46 [.ref h, .int (zI x)] g b0 n f (po_X1_isRemovable g f h B P T sc pr ex ps x) := by
  refine gs_i (cc := cX1_isRemovable) (maxL := 2) (ret := (some .boolean)) (by decide) (Nat.le_of_ble_eq_true rfl) ?_
  intro p e0 s m args below meth c ls hx hb hr hml hown hts hlk hK hM hl
  have hl : lv_has ls 2 [(0, .ref h), (1, .int (zI x))] := hl
  refine lv_iload_n hx hb dX1_isRemovable_0 rfl (lv_at hl 1 rfl) ?_
  refine g_if_eq (tgt := 24) hx hb dX1_isRemovable_1 (by decide) hrx (fun c1 => ?_) (fun c1 => ?_)
  · skip
    refine g_iconst hx hb dX1_isRemovable_24 ?_
    refine g_zret hx hb hr hlk hK hM dX1_isRemovable_25 rfl ?_
    refine ⟨?_, rfl⟩
    show zI 0 = _
    first | exact (bI_t (by omega)).symm | exact (bI_f (by omega)).symm
  · skip
    refine lv_iload_n hx hb dX1_isRemovable_4 rfl (lv_at hl 1 rfl) ?_
    refine lv_aload_n hx hb dX1_isRemovable_5 rfl (lv_at hl 0 rfl) ?_
    obtain ⟨ho1, ho2, ho3⟩ := id hE
    refine g_get (ci := 3) (v := .int (zI (↑ps : Int))) (C := RX1) (T := TX1) (N := 3) hx hb hts iU_X1 hown hK hM ⟨by omega, by omega⟩ ho1 rfl 2 (by decide) (hts _ u_236) (fun _ h9 => h9) rfl dX1_isRemovable_6 ?_
    refine g_icmp_eq (tgt := 24) hx hb dX1_isRemovable_9 (by decide) hrx ⟨by omega, by omega⟩ (fun c9 => ?_) (fun c9 => ?_)
    · skip
      refine g_iconst hx hb dX1_isRemovable_24 ?_
      refine g_zret hx hb hr hlk hK hM dX1_isRemovable_25 rfl ?_
      refine ⟨?_, rfl⟩
      show zI 0 = _
      first | exact (bI_t (by omega)).symm | exact (bI_f (by omega)).symm
    · skip
      refine lv_aload_n hx hb dX1_isRemovable_12 rfl (lv_at hl 0 rfl) ?_
      refine lv_iload_n hx hb dX1_isRemovable_13 rfl (lv_at hl 1 rfl) ?_
      have hC4 := c_X1_childrenOf l g b0 n f h B P T sc pr ex ps x hE hrg hex hpr hrx
      refine g_callVi (ci := 3) (C := RX1) (T := TX1) (N := 3) (As := [.int (zI x)]) (rest := []) ⟨hx, hb, hml, hown, hts⟩ hK hM hC4 (cuV (n := 1) hts u_1018 u_1015 u_2 (by decide) u_1016 u_1017 ⟨Nat.le_of_ble_eq_true rfl, Nat.le_of_ble_eq_true rfl⟩) ⟨by omega, by omega⟩ ho1 rfl rfl hl.1 rfl (Nat.le_of_ble_eq_true rfl) dX1_isRemovable_14 ⟨Nat.zero_le _, Nat.zero_le _⟩ (fun r14 f5 H locs hM hp6 => ?_)
      obtain ⟨rfl, rfl⟩ := hp6
      refine g_if_ne (tgt := 24) hx hb dX1_isRemovable_17 (by decide) hcr (fun c17 => ?_) (fun c17 => ?_)
      · skip
        refine g_iconst hx hb dX1_isRemovable_24 ?_
        refine g_zret hx hb hr hlk hK hM dX1_isRemovable_25 rfl ?_
        refine ⟨?_, rfl⟩
        show zI 0 = _
        first | exact (bI_t (by omega)).symm | exact (bI_f (by omega)).symm
      · skip
        refine g_iconst hx hb dX1_isRemovable_20 ?_
        refine lv_goto (tgt := 25) hx hb dX1_isRemovable_21 (by decide) ?_
        refine g_zret hx hb hr hlk hK hM dX1_isRemovable_25 rfl ?_
        refine ⟨?_, rfl⟩
        show zI 1 = _
        first | exact (bI_t (by omega)).symm | exact (bI_f (by omega)).symm

def po_X1_firstFree (g : gE) (f : gF) (h : Nat) (B P T : Nat → Nat → Int) (sc pr ex : Nat → Int) (ps : Nat) : Int32 → gF → Prop := fun r f1 => ((∃ k : Nat, k < 6 ∧ r = zI k ∧ ex k ≠ 1 ∧ ∀ j, j < k → ex j = 1) ∨ (r = zI (-1) ∧ ∀ j, j < 6 → ex j = 1)) ∧ f = f1
set_option maxRecDepth 100000 in
set_option maxHeartbeats 1000000 in
/-- firstFree() -/
theorem c_X1_firstFree (l : Launch) (g : gE) (b0 n : Nat) (f : gF) (h : Nat) (B P T : Nat → Nat → Int) (sc pr ex : Nat → Int) (ps : Nat) (hE : brsAt g f h B P T sc pr ex (↑ps)) (hrg : b0 ≤ h ∧ h + 290 ≤ b0 + n) (hex : ∀ k, k < 6 → ex k = 0 ∨ ex k = 1) : cI l yX1_firstFree cX1_firstFree 2 (some .int) 1 22 [.ref h] g b0 n f (po_X1_firstFree g f h B P T sc pr ex ps) := by
  refine gs_i (cc := cX1_firstFree) (maxL := 2) (ret := (some .int)) (by decide) (Nat.le_of_ble_eq_true rfl) ?_
  intro p e0 s m args below meth c ls hx hb hr hml hown hts hlk hK hM hl
  have hl : lv_has ls 2 [(0, .ref h)] := hl
  refine g_iconst hx hb dX1_firstFree_0 ?_
  refine lv_istore_n (lv' := [(1, .int (zI 0)), (0, .ref h)]) hx hb dX1_firstFree_1 rfl hl (by decide) rfl (fun ls hl => ?_)
  have lp2 : ∀ (k : Nat), ∀ (i : Nat) (H : Heap) (locs : List Loc) (ls : Array Slot), (6 - i < k) → (i ≤ 6) → (∀ j, j < i → ex j = 1) → gH g b0 n f s.heap H locs → lv_has ls 2 [(0, .ref h), (1, .int (zI (↑i : Int)))] → W p l e0 { frames := 1, cells := 0, slots := 0, locals := 22 } s m args below meth c H locs 0 0 (MQ below (va_Qi (po_X1_firstFree g f h B P T sc pr ex ps) (gB g b0 n) (gA b0)) args s 0 0 (gA b0)) (F0 m 2 ls []) := by
    intro k
    induction k with
    | zero =>
      intro i H locs ls hk hi hall hM hl
      exact absurd hk (Nat.not_lt_zero _)
    | succ k ih2 =>
      intro i H locs ls hk hi hall hM hl
      refine lv_iload_n hx hb dX1_firstFree_2 rfl (lv_at hl 1 rfl) ?_
      refine g_bipush hx hb dX1_firstFree_3 (by decide) ?_
      refine g_icmp_ge (tgt := 24) hx hb dX1_firstFree_5 (by decide) ⟨by omega, by omega⟩ (by decide) (fun c5 => ?_) (fun c5 => ?_)
      · skip
        refine g_iconst hx hb dX1_firstFree_24 ?_
        refine g_iret hx hb hr hlk hK hM dX1_firstFree_25 ?_
        exact ⟨Or.inr ⟨rfl, fun j hj => hall j (by omega)⟩, rfl⟩
      · skip
        refine lv_aload_n hx hb dX1_firstFree_8 rfl (lv_at hl 0 rfl) ?_
        refine lv_iload_n hx hb dX1_firstFree_9 rfl (lv_at hl 1 rfl) ?_
        have hC1 := c_X1_branchOrNull l g b0 n f h B P T sc pr ex ps (↑i : Int) hE hrg hex ⟨by omega, by omega⟩
        obtain ⟨ho4, ho5, ho6⟩ := id hE
        refine g_callVq (ci := 3) (C := RX1) (T := TX1) (N := 3) (As := [.int (zI (↑i : Int))]) (rest := []) ⟨hx, hb, hml, hown, hts⟩ hK hM hC1 (cuV (n := 1) hts u_370 u_367 u_2 (by decide) u_368 u_369 ⟨Nat.le_of_ble_eq_true rfl, Nat.le_of_ble_eq_true rfl⟩) ⟨by omega, by omega⟩ ho4 rfl rfl hl.1 rfl (Nat.le_of_ble_eq_true rfl) dX1_firstFree_10 ⟨Nat.zero_le _, Nat.zero_le _⟩ (fun r10 f2 H locs hM hp3 => ?_)
        obtain ⟨rfl, rfl⟩ := hp3
        rw [fd_n (by omega)]
        by_cases cs10 : ex i = 1
        · rw [if_pos cs10]
          refine lv_ifnonnull (tgt := 18) hx hb dX1_firstFree_13 (by decide) ?_
          refine lv_iinc (v := zI ((↑i : Int) + 1)) (lv' := [(1, .int (zI ((↑i : Int) + 1))), (0, .ref h)]) hx hb dX1_firstFree_18 hl (k := 1) rfl (zI_add _ _) (by decide) rfl (fun ls hl => ?_)
          refine lv_goto (tgt := 2) hx hb dX1_firstFree_21 (by decide) ?_
          exact ih2 (i + 1) _ _ _ (by omega) (by omega) (fun j hj => (Nat.lt_or_ge j i).elim (hall j) (fun q => by rw [show j = i by omega]; assumption)) hM (lv_sub hl [1, 0] rfl)
        · rw [if_neg cs10]
          refine lv_ifnonnullN hx hb dX1_firstFree_13 ?_
          refine lv_iload_n hx hb dX1_firstFree_16 rfl (lv_at hl 1 rfl) ?_
          refine g_iret hx hb hr hlk hK hM dX1_firstFree_17 ?_
          exact ⟨Or.inl ⟨i, by omega, rfl, by assumption, hall⟩, rfl⟩
  exact lp2 (7) 0 _ _ _ (by omega) (by omega) (fun j hj => absurd hj (Nat.not_lt_zero _)) hM (lv_sub hl [1, 0] rfl)
