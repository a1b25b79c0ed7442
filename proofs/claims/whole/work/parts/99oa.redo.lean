/-! five contracts of the reference anew: where it refuses, only its own object changes -/
def po_X9_forkB (g : gE) (f : gF) (h : Nat) (Z M St Mn Pr : Nat → Int) (B P T : Nat → Nat → Int) (sc : Nat → Nat) (pr ex : Nat → Int) (ps : Nat) : Int32 → gF → Prop := fun r f1 => (∃ b : Nat, b < 6 ∧ ex b ≠ 1 ∧ (∀ j, j < b → ex j = 1) ∧ r = zI ↑b ∧ mdO f1 h (pu Z 0 0) ∧ ∃ M1 : Nat → Int, arJ g f1 (h + 1) 2058 M1 ∧ arI g f1 (h + 4) 6 (pu Mn b 0) ∧ arI g f1 (h + 5) 6 (pu Pr b ↑ps) ∧ mRel M1 St (pu Mn b 0) (pu Pr b ↑ps) (fu B b (P ps)) (fu P b (P ps)) T (fu sc b 0) (fu pr b ↑ps) (fu ex b 1) ∧ ∀ q, (q ≠ h ∧ q ≠ h + 1 ∧ q ≠ h + 4 ∧ q ≠ h + 5) → f1 q = f q) ∨ ((∀ j, j < 6 → ex j = 1) ∧ mdO f1 h (pu Z 0 1) ∧ ∀ q, q ≠ h → f1 q = f q)
set_option maxRecDepth 100000 in
set_option maxHeartbeats 1000000 in
/-- fork -/
theorem c_X9_forkB (l : Launch) (g : gE) (b0 n : Nat) (f : gF) (h : Nat) (Z M St Mn Pr : Nat → Int) (B P T : Nat → Nat → Int) (sc : Nat → Nat) (pr ex : Nat → Int) (ps : Nat) (hO : mdO f h Z) (hrg : b0 ≤ h ∧ h + 13 ≤ b0 + n) (hPl : arJ g f (h + 1) 2058 M) (hSt : arI g f (h + 3) 1800 St) (hMn : arI g f (h + 4) 6 Mn) (hPr : arI g f (h + 5) 6 Pr) (hR : mRel M St Mn Pr B P T sc pr ex) (hz9 : Z 9 = ↑ps) (hps : ps < 6) (hpx : ex ps = 1) (hscs : ∀ k, k < 6 → ex k = 1 → sc k ≤ 60) (hexi : ∀ k, k < 6 → ex k = 0 ∨ ex k = 1) (hpri : ∀ k, k < 6 → rI (pr k)) (hp0 : pr 0 = -1) : cI l yX9_fork cX9_fork 2 (some .int) 1 23 [.ref h] g b0 n f (po_X9_forkB g f h Z M St Mn Pr B P T sc pr ex ps) := by
  refine gs_i (cc := cX9_fork) (maxL := 2) (ret := (some .int)) (by decide) (Nat.le_of_ble_eq_true rfl) ?_
  intro p e0 s m args below meth c ls hx hb hr hml hown hts hlk hK hM hl
  have hl : lv_has ls 2 [(0, .ref h)] := hl
  have hmn := mRel_mn hR hscs
  have hPq : ∀ k, k < 6 → ex k = 1 → Pr k = pr k := fun k hk hx => ((hR k hk).1 hx).2.2.2.2
  refine lv_aload_n hx hb dX9_fork_0 rfl (lv_at hl 0 rfl) ?_
  refine g_iconst hx hb dX9_fork_1 ?_
  refine g_put (ci := 11) (v := .int (zI 0)) (ty := .int) (C := RX9) (T := TX9) (N := 24) hx hb hts iU_X9 tyX9 tyX9_ok nmX9 hown hK hM ⟨by omega, by omega⟩ hO rfl 0 (by decide) (hts _ u_1144) (fun _ h9 => h9) rfl (by decide +kernel) rfl rfl (Nat.le_of_ble_eq_true rfl) dX9_fork_2 (fun f1 H locs hM hf3 o2 => ?_)
  have hf3 : f1 (h) = .inr (11, [.int (zI 0), .ref (h + 1), .ref (h + 2), .ref (h + 3), .ref (h + 4), .ref (h + 5), .ref (h + 6), .ref (h + 7), .ref (h + 8), .int (zI (Z 9)), .int (zI (Z 10)), .int (zI (Z 11)), .int (zI (Z 12)), .int (zI (Z 13)), .int (zI (Z 14)), .int (zI (Z 15)), .int (zI (Z 16)), .ref (h + 9), .ref (h + 10), .ref (h + 11), .int (zI (Z 20)), .int (zI (Z 21)), .int (zI (Z 22)), .ref (h + 12)]) := hf3
  refine g_iconst hx hb dX9_fork_5 ?_
  refine lv_istore_n (lv' := [(1, .int (zI 0)), (0, .ref h)]) hx hb dX9_fork_6 rfl hl (by decide) rfl (fun ls hl => ?_)
  have lp7 : ∀ (k : Nat), ∀ (i : Nat) (ls : Array Slot), (6 - i < k) → (i ≤ 6) → (∀ j, j < i → ex j = 1) → lv_has ls 2 [(0, .ref h), (1, .int (zI (↑i : Int)))] → W p l e0 { frames := 1, cells := 0, slots := 0, locals := 23 } s m args below meth c H locs 0 0 (MQ below (va_Qi (po_X9_forkB g f h Z M St Mn Pr B P T sc pr ex ps) (gB g b0 n) (gA b0)) args s 0 0 (gA b0)) (F0 m 7 ls []) := by
    intro k
    induction k with
    | zero =>
      intro i ls hk hi hall hl
      exact absurd hk (Nat.not_lt_zero _)
    | succ k ih7 =>
      intro i ls hk hi hall hl
      refine lv_iload_n hx hb dX9_fork_7 rfl (lv_at hl 1 rfl) ?_
      refine g_bipush hx hb dX9_fork_8 (by decide) ?_
      refine g_icmp_ge (tgt := 28) hx hb dX9_fork_10 (by decide) ⟨by omega, by omega⟩ (by decide) (fun c10 => ?_) (fun c10 => ?_)
      · skip
        refine lv_iload_n hx hb dX9_fork_28 rfl (lv_at hl 1 rfl) ?_
        refine g_bipush hx hb dX9_fork_29 (by decide) ?_
        refine g_icmp_ne (tgt := 40) hx hb dX9_fork_31 (by decide) ⟨by omega, by omega⟩ (by decide) (fun c31 => ?_) (fun c31 => ?_)
        · skip
          have hfx : ex i ≠ 1 := by omega
          have hne : i ≠ ps := fun hh => by subst hh; exact hfx hpx
          refine lv_aload_n hx hb dX9_fork_40 rfl (lv_at hl 0 rfl) ?_
          refine g_get (ci := 11) (v := .ref (h + 4)) (C := RX9) (T := TX9) (N := 24) hx hb hts iU_X9 hown hK hM ⟨by omega, by omega⟩ hf3 rfl 4 (by decide) (hts _ u_1148) (fun _ h9 => h9) rfl dX9_fork_41 ?_
          refine lv_iload_n hx hb dX9_fork_44 rfl (lv_at hl 1 rfl) ?_
          refine g_iconst hx hb dX9_fork_45 ?_
          have hf4 := hMn.kept (o2 (h + 4) (by omega))
          refine g_iast hx hb hK hM ⟨by omega, by omega⟩ hf4 (by omega) (by omega) (by decide) dX9_fork_46 (fun f5 H locs hM ha7 o6 => ?_)
          refine lv_aload_n hx hb dX9_fork_47 rfl (lv_at hl 0 rfl) ?_
          have hf8 : f5 (h) = .inr (11, [.int (zI 0), .ref (h + 1), .ref (h + 2), .ref (h + 3), .ref (h + 4), .ref (h + 5), .ref (h + 6), .ref (h + 7), .ref (h + 8), .int (zI (Z 9)), .int (zI (Z 10)), .int (zI (Z 11)), .int (zI (Z 12)), .int (zI (Z 13)), .int (zI (Z 14)), .int (zI (Z 15)), .int (zI (Z 16)), .ref (h + 9), .ref (h + 10), .ref (h + 11), .int (zI (Z 20)), .int (zI (Z 21)), .int (zI (Z 22)), .ref (h + 12)]) := (o6 (h) (by omega)).trans hf3
          refine g_get (ci := 11) (v := .ref (h + 5)) (C := RX9) (T := TX9) (N := 24) hx hb hts iU_X9 hown hK hM ⟨by omega, by omega⟩ hf8 rfl 5 (by decide) (hts _ u_1149) (fun _ h9 => h9) rfl dX9_fork_48 ?_
          refine lv_iload_n hx hb dX9_fork_51 rfl (lv_at hl 1 rfl) ?_
          refine lv_aload_n hx hb dX9_fork_52 rfl (lv_at hl 0 rfl) ?_
          refine g_get (ci := 11) (v := .int (zI (Z 9))) (C := RX9) (T := TX9) (N := 24) hx hb hts iU_X9 hown hK hM ⟨by omega, by omega⟩ hf8 rfl 9 (by decide) (hts _ u_1153) (fun _ h9 => h9) rfl dX9_fork_53 ?_
          rw [hz9]
          have hf9 := hPr.kept ((o6 (h + 5) (by omega)).trans (o2 (h + 5) (by omega)))
          refine g_iast hx hb hK hM ⟨by omega, by omega⟩ hf9 (by omega) (by omega) (by decide) dX9_fork_56 (fun f10 H locs hM ha12 o11 => ?_)
          refine lv_aload_n hx hb dX9_fork_57 rfl (lv_at hl 0 rfl) ?_
          refine lv_aload_n hx hb dX9_fork_58 rfl (lv_at hl 0 rfl) ?_
          have hf13 : f10 (h) = .inr (11, [.int (zI 0), .ref (h + 1), .ref (h + 2), .ref (h + 3), .ref (h + 4), .ref (h + 5), .ref (h + 6), .ref (h + 7), .ref (h + 8), .int (zI (Z 9)), .int (zI (Z 10)), .int (zI (Z 11)), .int (zI (Z 12)), .int (zI (Z 13)), .int (zI (Z 14)), .int (zI (Z 15)), .int (zI (Z 16)), .ref (h + 9), .ref (h + 10), .ref (h + 11), .int (zI (Z 20)), .int (zI (Z 21)), .int (zI (Z 22)), .ref (h + 12)]) := (o11 (h) (by omega)).trans hf8
          refine g_get (ci := 11) (v := .int (zI (Z 9))) (C := RX9) (T := TX9) (N := 24) hx hb hts iU_X9 hown hK hM ⟨by omega, by omega⟩ hf13 rfl 9 (by decide) (hts _ u_1153) (fun _ h9 => h9) rfl dX9_fork_59 ?_
          rw [hz9]
          have hC14 := c_X9_planOf l g b0 n f10 ps (by omega)
          refine g_callSi (As := [.int (zI (↑ps : Int))]) (rest := [.ref h]) ⟨hx, hb, hml, hown, hts⟩ hK hM hC14 (cuS (n := 1) hts u_1228 u_1226 u_10 (by decide) u_1227 ⟨Nat.le_of_ble_eq_true rfl, Nat.le_of_ble_eq_true rfl⟩) rfl hl.1 rfl (Nat.le_of_ble_eq_true rfl) dX9_fork_62 ⟨Nat.zero_le _, Nat.zero_le _⟩ (fun r62 f15 H locs hM hp16 => ?_)
          obtain ⟨rfl, rfl⟩ := hp16
          refine lv_iload_n hx hb dX9_fork_65 rfl (lv_at hl 1 rfl) ?_
          have hC17 := c_X9_planOf l g b0 n f10 i (by omega)
          refine g_callSi (As := [.int (zI (↑i : Int))]) (rest := [.int (zI (↑(294 * ps) : Int)), .ref h]) ⟨hx, hb, hml, hown, hts⟩ hK hM hC17 (cuS (n := 1) hts u_1228 u_1226 u_10 (by decide) u_1227 ⟨Nat.le_of_ble_eq_true rfl, Nat.le_of_ble_eq_true rfl⟩) rfl hl.1 rfl (Nat.le_of_ble_eq_true rfl) dX9_fork_66 ⟨Nat.zero_le _, Nat.zero_le _⟩ (fun r66 f18 H locs hM hp19 => ?_)
          obtain ⟨rfl, rfl⟩ := hp19
          have hf20 := hPl.kept ((o11 (h + 1) (by omega)).trans ((o6 (h + 1) (by omega)).trans (o2 (h + 1) (by omega))))
          have hC21 := c_X9_copies l g b0 n f10 h (pu Z 0 0) M (294 * ps) (294 * i) hf13 hf20 hrg (by omega) (by omega) (by omega)
          refine g_callVv (ci := 11) (C := RX9) (T := TX9) (N := 24) (As := [.int (zI (↑(294 * ps) : Int)), .int (zI (↑(294 * i) : Int))]) (rest := []) ⟨hx, hb, hml, hown, hts⟩ hK hM hC21 (cuV (n := 2) hts u_1425 u_1422 u_10 (by decide) u_1424 us_56 ⟨Nat.le_of_ble_eq_true rfl, Nat.le_of_ble_eq_true rfl⟩) ⟨by omega, by omega⟩ hf13 rfl rfl hl.1 rfl (Nat.le_of_ble_eq_true rfl) dX9_fork_69 ⟨Nat.zero_le _, Nat.zero_le _⟩ (fun f22 H locs hM hp23 => ?_)
          obtain ⟨hn24, o25⟩ := hp23
          refine lv_aload_n hx hb dX9_fork_72 rfl (lv_at hl 0 rfl) ?_
          refine lv_aload_n hx hb dX9_fork_73 rfl (lv_at hl 0 rfl) ?_
          have hf26 : f22 (h) = .inr (11, [.int (zI 0), .ref (h + 1), .ref (h + 2), .ref (h + 3), .ref (h + 4), .ref (h + 5), .ref (h + 6), .ref (h + 7), .ref (h + 8), .int (zI (Z 9)), .int (zI (Z 10)), .int (zI (Z 11)), .int (zI (Z 12)), .int (zI (Z 13)), .int (zI (Z 14)), .int (zI (Z 15)), .int (zI (Z 16)), .ref (h + 9), .ref (h + 10), .ref (h + 11), .int (zI (Z 20)), .int (zI (Z 21)), .int (zI (Z 22)), .ref (h + 12)]) := (o25 (h) (by omega)).trans hf13
          refine g_get (ci := 11) (v := .int (zI (Z 9))) (C := RX9) (T := TX9) (N := 24) hx hb hts iU_X9 hown hK hM ⟨by omega, by omega⟩ hf26 rfl 9 (by decide) (hts _ u_1153) (fun _ h9 => h9) rfl dX9_fork_74 ?_
          rw [hz9]
          have hC27 := c_X9_planOf l g b0 n f22 ps (by omega)
          refine g_callSi (As := [.int (zI (↑ps : Int))]) (rest := [.ref h]) ⟨hx, hb, hml, hown, hts⟩ hK hM hC27 (cuS (n := 1) hts u_1228 u_1226 u_10 (by decide) u_1227 ⟨Nat.le_of_ble_eq_true rfl, Nat.le_of_ble_eq_true rfl⟩) rfl hl.1 rfl (Nat.le_of_ble_eq_true rfl) dX9_fork_77 ⟨Nat.zero_le _, Nat.zero_le _⟩ (fun r77 f28 H locs hM hp29 => ?_)
          obtain ⟨rfl, rfl⟩ := hp29
          refine lv_iload_n hx hb dX9_fork_80 rfl (lv_at hl 1 rfl) ?_
          have hC30 := c_X9_startOf l g b0 n f22 i (by omega)
          refine g_callSi (As := [.int (zI (↑i : Int))]) (rest := [.int (zI (↑(294 * ps) : Int)), .ref h]) ⟨hx, hb, hml, hown, hts⟩ hK hM hC30 (cuS (n := 1) hts u_1481 u_1479 u_10 (by decide) u_1480 ⟨Nat.le_of_ble_eq_true rfl, Nat.le_of_ble_eq_true rfl⟩) rfl hl.1 rfl (Nat.le_of_ble_eq_true rfl) dX9_fork_81 ⟨Nat.zero_le _, Nat.zero_le _⟩ (fun r81 f31 H locs hM hp32 => ?_)
          obtain ⟨rfl, rfl⟩ := hp32
          have hC33 := c_X9_copies l g b0 n f22 h (pu Z 0 0) (cpM M (294 * ps) (294 * i)) (294 * ps) (294 * i + 147) hf26 hn24 hrg (by omega) (by omega) (by omega)
          refine g_callVv (ci := 11) (C := RX9) (T := TX9) (N := 24) (As := [.int (zI (↑(294 * ps) : Int)), .int (zI (↑(294 * i + 147) : Int))]) (rest := []) ⟨hx, hb, hml, hown, hts⟩ hK hM hC33 (cuV (n := 2) hts u_1425 u_1422 u_10 (by decide) u_1424 us_56 ⟨Nat.le_of_ble_eq_true rfl, Nat.le_of_ble_eq_true rfl⟩) ⟨by omega, by omega⟩ hf26 rfl rfl hl.1 rfl (Nat.le_of_ble_eq_true rfl) dX9_fork_84 ⟨Nat.zero_le _, Nat.zero_le _⟩ (fun f34 H locs hM hp35 => ?_)
          obtain ⟨hn36, o37⟩ := hp35
          refine lv_iload_n hx hb dX9_fork_87 rfl (lv_at hl 1 rfl) ?_
          have hf38 : f34 (h) = .inr (11, [.int (zI 0), .ref (h + 1), .ref (h + 2), .ref (h + 3), .ref (h + 4), .ref (h + 5), .ref (h + 6), .ref (h + 7), .ref (h + 8), .int (zI (Z 9)), .int (zI (Z 10)), .int (zI (Z 11)), .int (zI (Z 12)), .int (zI (Z 13)), .int (zI (Z 14)), .int (zI (Z 15)), .int (zI (Z 16)), .ref (h + 9), .ref (h + 10), .ref (h + 11), .int (zI (Z 20)), .int (zI (Z 21)), .int (zI (Z 22)), .ref (h + 12)]) := (o37 (h) (by omega)).trans hf26
          have hf39 := ha7.kept ((o37 (h + 4) (by omega)).trans ((o25 (h + 4) (by omega)).trans (o11 (h + 4) (by omega))))
          have hf40 := ha12.kept ((o37 (h + 5) (by omega)).trans (o25 (h + 5) (by omega)))
          refine g_iret hx hb hr hlk hK hM dX9_fork_88 ?_
          have hbr := ((hR ps hps).1 hpx).1
          refine Or.inl ⟨i, by omega, hfx, hall, rfl, hf38, _, hn36, hf39, hf40, mRel_fork (b := i) hR (fun k9 hk9 => ?_) (fun k9 hk9 => ?_) (fun k9 hk9 hj9 => ?_), fun q hq => ?_⟩
          · unfold cpM
            rw [mov_n (by omega), mov_at rfl hk9]
            exact hbr k9 hk9
          · unfold cpM
            rw [mov_at rfl hk9, mov_n (by omega)]
            exact hbr k9 hk9
          · unfold cpM
            rw [mov_n (by omega), mov_n (by omega)]
          · exact ((o37 (q) (by omega)).trans ((o25 (q) (by omega)).trans ((o11 (q) (by omega)).trans ((o6 (q) (by omega)).trans (o2 (q) (by omega))))))
        · skip
          have hi6 : i = 6 := by omega
          refine lv_aload_n hx hb dX9_fork_34 rfl (lv_at hl 0 rfl) ?_
          refine g_iconst hx hb dX9_fork_35 ?_
          have hC41 := c_X9_fails l g b0 n f1 h (pu Z 0 0) 1 hf3 hrg
          refine g_callVi (ci := 11) (C := RX9) (T := TX9) (N := 24) (As := [.int (zI 1)]) (rest := []) ⟨hx, hb, hml, hown, hts⟩ hK hM hC41 (cuV (n := 1) hts u_1412 u_1409 u_10 (by decide) u_1411 us_55 ⟨Nat.le_of_ble_eq_true rfl, Nat.le_of_ble_eq_true rfl⟩) ⟨by omega, by omega⟩ hf3 rfl rfl hl.1 rfl (Nat.le_of_ble_eq_true rfl) dX9_fork_36 ⟨Nat.zero_le _, Nat.zero_le _⟩ (fun r36 f42 H locs hM hp43 => ?_)
          obtain ⟨rfl, hm44, o45⟩ := hp43
          have ho46 : f42 h = .inr (11, [.int (zI 1), .ref (h + 1), .ref (h + 2), .ref (h + 3), .ref (h + 4), .ref (h + 5), .ref (h + 6), .ref (h + 7), .ref (h + 8), .int (zI (Z 9)), .int (zI (Z 10)), .int (zI (Z 11)), .int (zI (Z 12)), .int (zI (Z 13)), .int (zI (Z 14)), .int (zI (Z 15)), .int (zI (Z 16)), .ref (h + 9), .ref (h + 10), .ref (h + 11), .int (zI (Z 20)), .int (zI (Z 21)), .int (zI (Z 22)), .ref (h + 12)]) := hm44
          refine g_iret hx hb hr hlk hK hM dX9_fork_39 ?_
          have hi6 : i = 6 := by omega
          subst hi6
          exact Or.inr ⟨hall, ho46, (fun q hq => ((o45 (q) (by omega)).trans (o2 (q) (by omega))))⟩
      · skip
        obtain ⟨hq1, hq2⟩ := mnOk_ex (k := i) hmn (by omega)
        refine lv_aload_n hx hb dX9_fork_13 rfl (lv_at hl 0 rfl) ?_
        refine g_get (ci := 11) (v := .ref (h + 4)) (C := RX9) (T := TX9) (N := 24) hx hb hts iU_X9 hown hK hM ⟨by omega, by omega⟩ hf3 rfl 4 (by decide) (hts _ u_1148) (fun _ h9 => h9) rfl dX9_fork_14 ?_
        refine lv_iload_n hx hb dX9_fork_17 rfl (lv_at hl 1 rfl) ?_
        have hf47 := hMn.kept (o2 (h + 4) (by omega))
        refine g_iald hx hb hK hM ⟨by omega, by omega⟩ hf47 (by omega) (by omega) (by decide) dX9_fork_18 ?_
        show W _ _ _ _ _ _ _ _ _ _ _ _ _ _ _ (F0 _ _ _ (.int (zI (Mn i)) :: _))
        refine g_if_lt (tgt := 28) hx hb dX9_fork_19 (by decide) hq1 (fun c19 => ?_) (fun c19 => ?_)
        · skip
          refine lv_iload_n hx hb dX9_fork_28 rfl (lv_at hl 1 rfl) ?_
          refine g_bipush hx hb dX9_fork_29 (by decide) ?_
          refine g_icmp_ne (tgt := 40) hx hb dX9_fork_31 (by decide) ⟨by omega, by omega⟩ (by decide) (fun c31 => ?_) (fun c31 => ?_)
          · skip
            have hfx : ex i ≠ 1 := by omega
            have hne : i ≠ ps := fun hh => by subst hh; exact hfx hpx
            refine lv_aload_n hx hb dX9_fork_40 rfl (lv_at hl 0 rfl) ?_
            refine g_get (ci := 11) (v := .ref (h + 4)) (C := RX9) (T := TX9) (N := 24) hx hb hts iU_X9 hown hK hM ⟨by omega, by omega⟩ hf3 rfl 4 (by decide) (hts _ u_1148) (fun _ h9 => h9) rfl dX9_fork_41 ?_
            refine lv_iload_n hx hb dX9_fork_44 rfl (lv_at hl 1 rfl) ?_
            refine g_iconst hx hb dX9_fork_45 ?_
            refine g_iast hx hb hK hM ⟨by omega, by omega⟩ hf47 (by omega) (by omega) (by decide) dX9_fork_46 (fun f48 H locs hM ha50 o49 => ?_)
            refine lv_aload_n hx hb dX9_fork_47 rfl (lv_at hl 0 rfl) ?_
            have hf51 : f48 (h) = .inr (11, [.int (zI 0), .ref (h + 1), .ref (h + 2), .ref (h + 3), .ref (h + 4), .ref (h + 5), .ref (h + 6), .ref (h + 7), .ref (h + 8), .int (zI (Z 9)), .int (zI (Z 10)), .int (zI (Z 11)), .int (zI (Z 12)), .int (zI (Z 13)), .int (zI (Z 14)), .int (zI (Z 15)), .int (zI (Z 16)), .ref (h + 9), .ref (h + 10), .ref (h + 11), .int (zI (Z 20)), .int (zI (Z 21)), .int (zI (Z 22)), .ref (h + 12)]) := (o49 (h) (by omega)).trans hf3
            refine g_get (ci := 11) (v := .ref (h + 5)) (C := RX9) (T := TX9) (N := 24) hx hb hts iU_X9 hown hK hM ⟨by omega, by omega⟩ hf51 rfl 5 (by decide) (hts _ u_1149) (fun _ h9 => h9) rfl dX9_fork_48 ?_
            refine lv_iload_n hx hb dX9_fork_51 rfl (lv_at hl 1 rfl) ?_
            refine lv_aload_n hx hb dX9_fork_52 rfl (lv_at hl 0 rfl) ?_
            refine g_get (ci := 11) (v := .int (zI (Z 9))) (C := RX9) (T := TX9) (N := 24) hx hb hts iU_X9 hown hK hM ⟨by omega, by omega⟩ hf51 rfl 9 (by decide) (hts _ u_1153) (fun _ h9 => h9) rfl dX9_fork_53 ?_
            rw [hz9]
            have hf52 := hPr.kept ((o49 (h + 5) (by omega)).trans (o2 (h + 5) (by omega)))
            refine g_iast hx hb hK hM ⟨by omega, by omega⟩ hf52 (by omega) (by omega) (by decide) dX9_fork_56 (fun f53 H locs hM ha55 o54 => ?_)
            refine lv_aload_n hx hb dX9_fork_57 rfl (lv_at hl 0 rfl) ?_
            refine lv_aload_n hx hb dX9_fork_58 rfl (lv_at hl 0 rfl) ?_
            have hf56 : f53 (h) = .inr (11, [.int (zI 0), .ref (h + 1), .ref (h + 2), .ref (h + 3), .ref (h + 4), .ref (h + 5), .ref (h + 6), .ref (h + 7), .ref (h + 8), .int (zI (Z 9)), .int (zI (Z 10)), .int (zI (Z 11)), .int (zI (Z 12)), .int (zI (Z 13)), .int (zI (Z 14)), .int (zI (Z 15)), .int (zI (Z 16)), .ref (h + 9), .ref (h + 10), .ref (h + 11), .int (zI (Z 20)), .int (zI (Z 21)), .int (zI (Z 22)), .ref (h + 12)]) := (o54 (h) (by omega)).trans hf51
            refine g_get (ci := 11) (v := .int (zI (Z 9))) (C := RX9) (T := TX9) (N := 24) hx hb hts iU_X9 hown hK hM ⟨by omega, by omega⟩ hf56 rfl 9 (by decide) (hts _ u_1153) (fun _ h9 => h9) rfl dX9_fork_59 ?_
            rw [hz9]
            have hC57 := c_X9_planOf l g b0 n f53 ps (by omega)
            refine g_callSi (As := [.int (zI (↑ps : Int))]) (rest := [.ref h]) ⟨hx, hb, hml, hown, hts⟩ hK hM hC57 (cuS (n := 1) hts u_1228 u_1226 u_10 (by decide) u_1227 ⟨Nat.le_of_ble_eq_true rfl, Nat.le_of_ble_eq_true rfl⟩) rfl hl.1 rfl (Nat.le_of_ble_eq_true rfl) dX9_fork_62 ⟨Nat.zero_le _, Nat.zero_le _⟩ (fun r62 f58 H locs hM hp59 => ?_)
            obtain ⟨rfl, rfl⟩ := hp59
            refine lv_iload_n hx hb dX9_fork_65 rfl (lv_at hl 1 rfl) ?_
            have hC60 := c_X9_planOf l g b0 n f53 i (by omega)
            refine g_callSi (As := [.int (zI (↑i : Int))]) (rest := [.int (zI (↑(294 * ps) : Int)), .ref h]) ⟨hx, hb, hml, hown, hts⟩ hK hM hC60 (cuS (n := 1) hts u_1228 u_1226 u_10 (by decide) u_1227 ⟨Nat.le_of_ble_eq_true rfl, Nat.le_of_ble_eq_true rfl⟩) rfl hl.1 rfl (Nat.le_of_ble_eq_true rfl) dX9_fork_66 ⟨Nat.zero_le _, Nat.zero_le _⟩ (fun r66 f61 H locs hM hp62 => ?_)
            obtain ⟨rfl, rfl⟩ := hp62
            have hf63 := hPl.kept ((o54 (h + 1) (by omega)).trans ((o49 (h + 1) (by omega)).trans (o2 (h + 1) (by omega))))
            have hC64 := c_X9_copies l g b0 n f53 h (pu Z 0 0) M (294 * ps) (294 * i) hf56 hf63 hrg (by omega) (by omega) (by omega)
            refine g_callVv (ci := 11) (C := RX9) (T := TX9) (N := 24) (As := [.int (zI (↑(294 * ps) : Int)), .int (zI (↑(294 * i) : Int))]) (rest := []) ⟨hx, hb, hml, hown, hts⟩ hK hM hC64 (cuV (n := 2) hts u_1425 u_1422 u_10 (by decide) u_1424 us_56 ⟨Nat.le_of_ble_eq_true rfl, Nat.le_of_ble_eq_true rfl⟩) ⟨by omega, by omega⟩ hf56 rfl rfl hl.1 rfl (Nat.le_of_ble_eq_true rfl) dX9_fork_69 ⟨Nat.zero_le _, Nat.zero_le _⟩ (fun f65 H locs hM hp66 => ?_)
            obtain ⟨hn67, o68⟩ := hp66
            refine lv_aload_n hx hb dX9_fork_72 rfl (lv_at hl 0 rfl) ?_
            refine lv_aload_n hx hb dX9_fork_73 rfl (lv_at hl 0 rfl) ?_
            have hf69 : f65 (h) = .inr (11, [.int (zI 0), .ref (h + 1), .ref (h + 2), .ref (h + 3), .ref (h + 4), .ref (h + 5), .ref (h + 6), .ref (h + 7), .ref (h + 8), .int (zI (Z 9)), .int (zI (Z 10)), .int (zI (Z 11)), .int (zI (Z 12)), .int (zI (Z 13)), .int (zI (Z 14)), .int (zI (Z 15)), .int (zI (Z 16)), .ref (h + 9), .ref (h + 10), .ref (h + 11), .int (zI (Z 20)), .int (zI (Z 21)), .int (zI (Z 22)), .ref (h + 12)]) := (o68 (h) (by omega)).trans hf56
            refine g_get (ci := 11) (v := .int (zI (Z 9))) (C := RX9) (T := TX9) (N := 24) hx hb hts iU_X9 hown hK hM ⟨by omega, by omega⟩ hf69 rfl 9 (by decide) (hts _ u_1153) (fun _ h9 => h9) rfl dX9_fork_74 ?_
            rw [hz9]
            have hC70 := c_X9_planOf l g b0 n f65 ps (by omega)
            refine g_callSi (As := [.int (zI (↑ps : Int))]) (rest := [.ref h]) ⟨hx, hb, hml, hown, hts⟩ hK hM hC70 (cuS (n := 1) hts u_1228 u_1226 u_10 (by decide) u_1227 ⟨Nat.le_of_ble_eq_true rfl, Nat.le_of_ble_eq_true rfl⟩) rfl hl.1 rfl (Nat.le_of_ble_eq_true rfl) dX9_fork_77 ⟨Nat.zero_le _, Nat.zero_le _⟩ (fun r77 f71 H locs hM hp72 => ?_)
            obtain ⟨rfl, rfl⟩ := hp72
            refine lv_iload_n hx hb dX9_fork_80 rfl (lv_at hl 1 rfl) ?_
            have hC73 := c_X9_startOf l g b0 n f65 i (by omega)
            refine g_callSi (As := [.int (zI (↑i : Int))]) (rest := [.int (zI (↑(294 * ps) : Int)), .ref h]) ⟨hx, hb, hml, hown, hts⟩ hK hM hC73 (cuS (n := 1) hts u_1481 u_1479 u_10 (by decide) u_1480 ⟨Nat.le_of_ble_eq_true rfl, Nat.le_of_ble_eq_true rfl⟩) rfl hl.1 rfl (Nat.le_of_ble_eq_true rfl) dX9_fork_81 ⟨Nat.zero_le _, Nat.zero_le _⟩ (fun r81 f74 H locs hM hp75 => ?_)
            obtain ⟨rfl, rfl⟩ := hp75
            have hC76 := c_X9_copies l g b0 n f65 h (pu Z 0 0) (cpM M (294 * ps) (294 * i)) (294 * ps) (294 * i + 147) hf69 hn67 hrg (by omega) (by omega) (by omega)
            refine g_callVv (ci := 11) (C := RX9) (T := TX9) (N := 24) (As := [.int (zI (↑(294 * ps) : Int)), .int (zI (↑(294 * i + 147) : Int))]) (rest := []) ⟨hx, hb, hml, hown, hts⟩ hK hM hC76 (cuV (n := 2) hts u_1425 u_1422 u_10 (by decide) u_1424 us_56 ⟨Nat.le_of_ble_eq_true rfl, Nat.le_of_ble_eq_true rfl⟩) ⟨by omega, by omega⟩ hf69 rfl rfl hl.1 rfl (Nat.le_of_ble_eq_true rfl) dX9_fork_84 ⟨Nat.zero_le _, Nat.zero_le _⟩ (fun f77 H locs hM hp78 => ?_)
            obtain ⟨hn79, o80⟩ := hp78
            refine lv_iload_n hx hb dX9_fork_87 rfl (lv_at hl 1 rfl) ?_
            have hf81 : f77 (h) = .inr (11, [.int (zI 0), .ref (h + 1), .ref (h + 2), .ref (h + 3), .ref (h + 4), .ref (h + 5), .ref (h + 6), .ref (h + 7), .ref (h + 8), .int (zI (Z 9)), .int (zI (Z 10)), .int (zI (Z 11)), .int (zI (Z 12)), .int (zI (Z 13)), .int (zI (Z 14)), .int (zI (Z 15)), .int (zI (Z 16)), .ref (h + 9), .ref (h + 10), .ref (h + 11), .int (zI (Z 20)), .int (zI (Z 21)), .int (zI (Z 22)), .ref (h + 12)]) := (o80 (h) (by omega)).trans hf69
            have hf82 := ha50.kept ((o80 (h + 4) (by omega)).trans ((o68 (h + 4) (by omega)).trans (o54 (h + 4) (by omega))))
            have hf83 := ha55.kept ((o80 (h + 5) (by omega)).trans (o68 (h + 5) (by omega)))
            refine g_iret hx hb hr hlk hK hM dX9_fork_88 ?_
            have hbr := ((hR ps hps).1 hpx).1
            refine Or.inl ⟨i, by omega, hfx, hall, rfl, hf81, _, hn79, hf82, hf83, mRel_fork (b := i) hR (fun k9 hk9 => ?_) (fun k9 hk9 => ?_) (fun k9 hk9 hj9 => ?_), fun q hq => ?_⟩
            · unfold cpM
              rw [mov_n (by omega), mov_at rfl hk9]
              exact hbr k9 hk9
            · unfold cpM
              rw [mov_at rfl hk9, mov_n (by omega)]
              exact hbr k9 hk9
            · unfold cpM
              rw [mov_n (by omega), mov_n (by omega)]
            · exact ((o80 (q) (by omega)).trans ((o68 (q) (by omega)).trans ((o54 (q) (by omega)).trans ((o49 (q) (by omega)).trans (o2 (q) (by omega))))))
          · skip
            have hi6 : i = 6 := by omega
            refine lv_aload_n hx hb dX9_fork_34 rfl (lv_at hl 0 rfl) ?_
            refine g_iconst hx hb dX9_fork_35 ?_
            have hC84 := c_X9_fails l g b0 n f1 h (pu Z 0 0) 1 hf3 hrg
            refine g_callVi (ci := 11) (C := RX9) (T := TX9) (N := 24) (As := [.int (zI 1)]) (rest := []) ⟨hx, hb, hml, hown, hts⟩ hK hM hC84 (cuV (n := 1) hts u_1412 u_1409 u_10 (by decide) u_1411 us_55 ⟨Nat.le_of_ble_eq_true rfl, Nat.le_of_ble_eq_true rfl⟩) ⟨by omega, by omega⟩ hf3 rfl rfl hl.1 rfl (Nat.le_of_ble_eq_true rfl) dX9_fork_36 ⟨Nat.zero_le _, Nat.zero_le _⟩ (fun r36 f85 H locs hM hp86 => ?_)
            obtain ⟨rfl, hm87, o88⟩ := hp86
            have ho89 : f85 h = .inr (11, [.int (zI 1), .ref (h + 1), .ref (h + 2), .ref (h + 3), .ref (h + 4), .ref (h + 5), .ref (h + 6), .ref (h + 7), .ref (h + 8), .int (zI (Z 9)), .int (zI (Z 10)), .int (zI (Z 11)), .int (zI (Z 12)), .int (zI (Z 13)), .int (zI (Z 14)), .int (zI (Z 15)), .int (zI (Z 16)), .ref (h + 9), .ref (h + 10), .ref (h + 11), .int (zI (Z 20)), .int (zI (Z 21)), .int (zI (Z 22)), .ref (h + 12)]) := hm87
            refine g_iret hx hb hr hlk hK hM dX9_fork_39 ?_
            have hi6 : i = 6 := by omega
            subst hi6
            exact Or.inr ⟨hall, ho89, (fun q hq => ((o88 (q) (by omega)).trans (o2 (q) (by omega))))⟩
        · skip
          refine lv_iinc (v := zI ((↑i : Int) + 1)) (lv' := [(1, .int (zI ((↑i : Int) + 1))), (0, .ref h)]) hx hb dX9_fork_22 hl (k := 1) rfl (zI_add _ _) (by decide) rfl (fun ls hl => ?_)
          refine lv_goto (tgt := 7) hx hb dX9_fork_25 (by decide) ?_
          exact ih7 (i + 1) _ (by omega) (by omega) (fun j hj => (Nat.lt_or_ge j i).elim (hall j) (fun q => by rw [show j = i by omega]; omega)) (lv_sub hl [1, 0] rfl)
  exact lp7 (7) 0 _ (by omega) (by omega) (fun j hj => absurd hj (Nat.not_lt_zero _)) (lv_sub hl [1, 0] rfl)
def po_X9_discardB (g : gE) (f : gF) (h : Nat) (Z M St Mn Pr : Nat → Int) (B P T : Nat → Nat → Int) (sc : Nat → Nat) (pr ex : Nat → Int) (ps : Nat) (z : Int) : Int32 → gF → Prop := fun r f1 => (FD ex z ∧ ¬ HELD pr ex ps z ∧ r = zI ↑(sc z.toNat) ∧ mdO f1 h (pu Z 0 0) ∧ arI g f1 (h + 4) 6 (pu Mn z.toNat (-1)) ∧ ∀ q, (q ≠ h ∧ q ≠ h + 4) → f1 q = f q) ∨ (¬ FD ex z ∧ mdO f1 h (pu Z 0 1) ∧ ∀ q, q ≠ h → f1 q = f q) ∨ (FD ex z ∧ HELD pr ex ps z ∧ mdO f1 h (pu Z 0 2) ∧ ∀ q, q ≠ h → f1 q = f q)
set_option maxRecDepth 100000 in
set_option maxHeartbeats 1000000 in
/-- discard -/
theorem c_X9_discardB (l : Launch) (g : gE) (b0 n : Nat) (f : gF) (h : Nat) (Z M St Mn Pr : Nat → Int) (B P T : Nat → Nat → Int) (sc : Nat → Nat) (pr ex : Nat → Int) (ps : Nat) (z : Int) (hO : mdO f h Z) (hrg : b0 ≤ h ∧ h + 13 ≤ b0 + n) (hPl : arJ g f (h + 1) 2058 M) (hSt : arI g f (h + 3) 1800 St) (hMn : arI g f (h + 4) 6 Mn) (hPr : arI g f (h + 5) 6 Pr) (hR : mRel M St Mn Pr B P T sc pr ex) (hz9 : Z 9 = ↑ps) (hps : ps < 6) (hpx : ex ps = 1) (hscs : ∀ k, k < 6 → ex k = 1 → sc k ≤ 60) (hexi : ∀ k, k < 6 → ex k = 0 ∨ ex k = 1) (hpri : ∀ k, k < 6 → rI (pr k)) (hp0 : pr 0 = -1) (hrz : rI z) : cI l yX9_discard cX9_discard 3 (some .int) 2 46 [.ref h, .int (zI z)] g b0 n f (po_X9_discardB g f h Z M St Mn Pr B P T sc pr ex ps z) := by
  refine gs_i (cc := cX9_discard) (maxL := 3) (ret := (some .int)) (by decide) (Nat.le_of_ble_eq_true rfl) ?_
  intro p e0 s m args below meth c ls hx hb hr hml hown hts hlk hK hM hl
  have hl : lv_has ls 3 [(0, .ref h), (1, .int (zI z))] := hl
  have hmn := mRel_mn hR hscs
  have hPq : ∀ k, k < 6 → ex k = 1 → Pr k = pr k := fun k hk hx => ((hR k hk).1 hx).2.2.2.2
  refine lv_aload_n hx hb dX9_discard_0 rfl (lv_at hl 0 rfl) ?_
  refine g_iconst hx hb dX9_discard_1 ?_
  refine g_put (ci := 11) (v := .int (zI 0)) (ty := .int) (C := RX9) (T := TX9) (N := 24) hx hb hts iU_X9 tyX9 tyX9_ok nmX9 hown hK hM ⟨by omega, by omega⟩ hO rfl 0 (by decide) (hts _ u_1144) (fun _ h9 => h9) rfl (by decide +kernel) rfl rfl (Nat.le_of_ble_eq_true rfl) dX9_discard_2 (fun f1 H locs hM hf3 o2 => ?_)
  have hf3 : f1 (h) = .inr (11, [.int (zI 0), .ref (h + 1), .ref (h + 2), .ref (h + 3), .ref (h + 4), .ref (h + 5), .ref (h + 6), .ref (h + 7), .ref (h + 8), .int (zI (Z 9)), .int (zI (Z 10)), .int (zI (Z 11)), .int (zI (Z 12)), .int (zI (Z 13)), .int (zI (Z 14)), .int (zI (Z 15)), .int (zI (Z 16)), .ref (h + 9), .ref (h + 10), .ref (h + 11), .int (zI (Z 20)), .int (zI (Z 21)), .int (zI (Z 22)), .ref (h + 12)]) := hf3
  refine lv_aload_n hx hb dX9_discard_5 rfl (lv_at hl 0 rfl) ?_
  refine lv_iload_n hx hb dX9_discard_6 rfl (lv_at hl 1 rfl) ?_
  have hf4 := hMn.kept (o2 (h + 4) (by omega))
  have hC5 := c_X9_isBranch l g b0 n f1 h (pu Z 0 0) Mn sc ex z hf3 hrg hf4 hmn hrz
  refine g_callVi (ci := 11) (C := RX9) (T := TX9) (N := 24) (As := [.int (zI z)]) (rest := []) ⟨hx, hb, hml, hown, hts⟩ hK hM hC5 (cuV (n := 1) hts u_1489 u_1486 u_10 (by decide) u_1488 us_61 ⟨Nat.le_of_ble_eq_true rfl, Nat.le_of_ble_eq_true rfl⟩) ⟨by omega, by omega⟩ hf3 rfl rfl hl.1 rfl (Nat.le_of_ble_eq_true rfl) dX9_discard_7 ⟨Nat.zero_le _, Nat.zero_le _⟩ (fun r7 f6 H locs hM hp7 => ?_)
  obtain ⟨rfl, rfl⟩ := hp7
  refine g_ifb_ne (tgt := 19) hx hb dX9_discard_10 (by decide) (fun c10 => ?_) (fun c10 => ?_)
  · skip
    refine lv_aload_n hx hb dX9_discard_19 rfl (lv_at hl 0 rfl) ?_
    refine lv_iload_n hx hb dX9_discard_20 rfl (lv_at hl 1 rfl) ?_
    have hf8 := hPl.kept (o2 (h + 1) (by omega))
    have hf9 := hSt.kept (o2 (h + 3) (by omega))
    have hf10 := hPr.kept (o2 (h + 5) (by omega))
    have hC11 := c_X9_isHeld l g b0 n f1 h (pu Z 0 0) M St Mn Pr B P T sc pr ex ps z hf3 hrg hf8 hf9 hf4 hf10 hR hz9 hps hpx hscs hexi hpri hp0 hrz (by omega)
    refine g_callVi (ci := 11) (C := RX9) (T := TX9) (N := 24) (As := [.int (zI z)]) (rest := []) ⟨hx, hb, hml, hown, hts⟩ hK hM hC11 (cuV (n := 1) hts u_1497 u_1494 u_10 (by decide) u_1496 us_62 ⟨Nat.le_of_ble_eq_true rfl, Nat.le_of_ble_eq_true rfl⟩) ⟨by omega, by omega⟩ hf3 rfl rfl hl.1 rfl (Nat.le_of_ble_eq_true rfl) dX9_discard_21 ⟨Nat.zero_le _, Nat.zero_le _⟩ (fun r21 f12 H locs hM hp13 => ?_)
    obtain ⟨rfl, rfl⟩ := hp13
    refine g_ifb_eq (tgt := 33) hx hb dX9_discard_24 (by decide) (fun c24 => ?_) (fun c24 => ?_)
    · skip
      refine lv_aload_n hx hb dX9_discard_33 rfl (lv_at hl 0 rfl) ?_
      refine g_get (ci := 11) (v := .ref (h + 4)) (C := RX9) (T := TX9) (N := 24) hx hb hts iU_X9 hown hK hM ⟨by omega, by omega⟩ hf3 rfl 4 (by decide) (hts _ u_1148) (fun _ h9 => h9) rfl dX9_discard_34 ?_
      refine lv_iload_n hx hb dX9_discard_37 rfl (lv_at hl 1 rfl) ?_
      refine g_iald hx hb hK hM ⟨by omega, by omega⟩ hf4 (by omega) (by omega) (by decide) dX9_discard_38 ?_
      show W _ _ _ _ _ _ _ _ _ _ _ _ _ _ _ (F0 _ _ _ (.int (zI (Mn z.toNat)) :: _))
      refine lv_istore_n (lv' := [(2, .int (zI (Mn z.toNat))), (0, .ref h), (1, .int (zI z))]) hx hb dX9_discard_39 rfl hl (by decide) rfl (fun ls hl => ?_)
      refine lv_aload_n hx hb dX9_discard_40 rfl (lv_at hl 1 rfl) ?_
      refine g_get (ci := 11) (v := .ref (h + 4)) (C := RX9) (T := TX9) (N := 24) hx hb hts iU_X9 hown hK hM ⟨by omega, by omega⟩ hf3 rfl 4 (by decide) (hts _ u_1148) (fun _ h9 => h9) rfl dX9_discard_41 ?_
      refine lv_iload_n hx hb dX9_discard_44 rfl (lv_at hl 2 rfl) ?_
      refine g_iconst hx hb dX9_discard_45 ?_
      refine g_iast hx hb hK hM ⟨by omega, by omega⟩ hf4 (by omega) (by omega) (by decide) dX9_discard_46 (fun f14 H locs hM ha16 o15 => ?_)
      refine lv_iload_n hx hb dX9_discard_47 rfl (lv_at hl 0 rfl) ?_
      have hf17 : f14 (h) = .inr (11, [.int (zI 0), .ref (h + 1), .ref (h + 2), .ref (h + 3), .ref (h + 4), .ref (h + 5), .ref (h + 6), .ref (h + 7), .ref (h + 8), .int (zI (Z 9)), .int (zI (Z 10)), .int (zI (Z 11)), .int (zI (Z 12)), .int (zI (Z 13)), .int (zI (Z 14)), .int (zI (Z 15)), .int (zI (Z 16)), .ref (h + 9), .ref (h + 10), .ref (h + 11), .int (zI (Z 20)), .int (zI (Z 21)), .int (zI (Z 22)), .ref (h + 12)]) := (o15 (h) (by omega)).trans hf3
      refine g_iret hx hb hr hlk hK hM dX9_discard_48 ?_
      exact Or.inl ⟨c10, c24, by rw [((hmn z.toNat (by omega)).1 c10.2.2).1], hf17, ha16, (fun q hq => ((o15 (q) (by omega)).trans (o2 (q) (by omega))))⟩
    · skip
      refine lv_aload_n hx hb dX9_discard_27 rfl (lv_at hl 0 rfl) ?_
      refine g_iconst hx hb dX9_discard_28 ?_
      have hC18 := c_X9_fails l g b0 n f1 h (pu Z 0 0) 2 hf3 hrg
      refine g_callVi (ci := 11) (C := RX9) (T := TX9) (N := 24) (As := [.int (zI 2)]) (rest := []) ⟨hx, hb, hml, hown, hts⟩ hK hM hC18 (cuV (n := 1) hts u_1412 u_1409 u_10 (by decide) u_1411 us_55 ⟨Nat.le_of_ble_eq_true rfl, Nat.le_of_ble_eq_true rfl⟩) ⟨by omega, by omega⟩ hf3 rfl rfl hl.1 rfl (Nat.le_of_ble_eq_true rfl) dX9_discard_29 ⟨Nat.zero_le _, Nat.zero_le _⟩ (fun r29 f19 H locs hM hp20 => ?_)
      obtain ⟨rfl, hm21, o22⟩ := hp20
      have ho23 : f19 h = .inr (11, [.int (zI 2), .ref (h + 1), .ref (h + 2), .ref (h + 3), .ref (h + 4), .ref (h + 5), .ref (h + 6), .ref (h + 7), .ref (h + 8), .int (zI (Z 9)), .int (zI (Z 10)), .int (zI (Z 11)), .int (zI (Z 12)), .int (zI (Z 13)), .int (zI (Z 14)), .int (zI (Z 15)), .int (zI (Z 16)), .ref (h + 9), .ref (h + 10), .ref (h + 11), .int (zI (Z 20)), .int (zI (Z 21)), .int (zI (Z 22)), .ref (h + 12)]) := hm21
      refine g_iret hx hb hr hlk hK hM dX9_discard_32 ?_
      exact Or.inr (Or.inr ⟨c10, c24, ho23, (fun q hq => ((o22 (q) (by omega)).trans (o2 (q) (by omega))))⟩)
  · skip
    refine lv_aload_n hx hb dX9_discard_13 rfl (lv_at hl 0 rfl) ?_
    refine g_iconst hx hb dX9_discard_14 ?_
    have hC24 := c_X9_fails l g b0 n f1 h (pu Z 0 0) 1 hf3 hrg
    refine g_callVi (ci := 11) (C := RX9) (T := TX9) (N := 24) (As := [.int (zI 1)]) (rest := []) ⟨hx, hb, hml, hown, hts⟩ hK hM hC24 (cuV (n := 1) hts u_1412 u_1409 u_10 (by decide) u_1411 us_55 ⟨Nat.le_of_ble_eq_true rfl, Nat.le_of_ble_eq_true rfl⟩) ⟨by omega, by omega⟩ hf3 rfl rfl hl.1 rfl (Nat.le_of_ble_eq_true rfl) dX9_discard_15 ⟨Nat.zero_le _, Nat.zero_le _⟩ (fun r15 f25 H locs hM hp26 => ?_)
    obtain ⟨rfl, hm27, o28⟩ := hp26
    have ho29 : f25 h = .inr (11, [.int (zI 1), .ref (h + 1), .ref (h + 2), .ref (h + 3), .ref (h + 4), .ref (h + 5), .ref (h + 6), .ref (h + 7), .ref (h + 8), .int (zI (Z 9)), .int (zI (Z 10)), .int (zI (Z 11)), .int (zI (Z 12)), .int (zI (Z 13)), .int (zI (Z 14)), .int (zI (Z 15)), .int (zI (Z 16)), .ref (h + 9), .ref (h + 10), .ref (h + 11), .int (zI (Z 20)), .int (zI (Z 21)), .int (zI (Z 22)), .ref (h + 12)]) := hm27
    refine g_iret hx hb hr hlk hK hM dX9_discard_18 ?_
    exact Or.inr (Or.inl ⟨c10, ho29, (fun q hq => ((o28 (q) (by omega)).trans (o2 (q) (by omega))))⟩)
def po_X9_undoB (g : gE) (f : gF) (h : Nat) (Z M St Mn Pr : Nat → Int) (B P T : Nat → Nat → Int) (sc : Nat → Nat) (pr ex : Nat → Int) (ps : Nat) (v0 : Int) : Int32 → gF → Prop := fun r f1 => (sc ps = 0 ∧ mdO f1 h (pu Z 0 1) ∧ ∀ q, q ≠ h → f1 q = f q) ∨ (0 < sc ps ∧ r = zI (↑(sc ps) - 1) ∧ (∃ M1 St1 : Nat → Int, arJ g f1 (h + 1) 2058 M1 ∧ arI g f1 (h + 3) 1800 St1 ∧ arI g f1 (h + 4) 6 (pu Mn ps (↑(sc ps) - 1)) ∧ mRel M1 St1 (pu Mn ps (↑(sc ps) - 1)) Pr B (fu P ps (sRp (T ps) (↑(sc ps - 1 : Nat)) 0 (B ps) (sc ps)).2.2) (fu T ps (shP (T ps) ((sc ps - 1) * 5) ((sc ps - 1) * 5))) (fu sc ps (sc ps - 1)) pr ex) ∧ (∃ Z1 : Nat → Int, mdO f1 h Z1 ∧ zKeep Z Z1 ∧ Z1 0 = 0) ∧ scrAt g f1 h ∧ ∀ q, (q < h ∨ q = h + 2 ∨ (h + 5 ≤ q ∧ q < h + 9) ∨ h + 11 ≤ q) → f1 q = f q)
set_option maxRecDepth 100000 in
set_option maxHeartbeats 1000000 in
/-- undo -/
theorem c_X9_undoB (l : Launch) (g : gE) (b0 n : Nat) (f : gF) (h : Nat) (Z M St Mn Pr : Nat → Int) (B P T : Nat → Nat → Int) (sc : Nat → Nat) (pr ex : Nat → Int) (ps : Nat) (v0 : Int) (hO : mdO f h Z) (hrg : b0 ≤ h ∧ h + 13 ≤ b0 + n) (hPl : arJ g f (h + 1) 2058 M) (hSt : arI g f (h + 3) 1800 St) (hMn : arI g f (h + 4) 6 Mn) (hPr : arI g f (h + 5) 6 Pr) (hR : mRel M St Mn Pr B P T sc pr ex) (hz9 : Z 9 = ↑ps) (hps : ps < 6) (hpx : ex ps = 1) (hscs : ∀ k, k < 6 → ex k = 1 → sc k ≤ 60) (hexi : ∀ k, k < 6 → ex k = 0 ∨ ex k = 1) (hpri : ∀ k, k < 6 → rI (pr k)) (hp0 : pr 0 = -1) (hsc : scrAt g f h) (hokB : pOk (B ps) v0) (hv1 : 0 ≤ v0) (hv0 : v0 + 541 * 61 ≤ 800000000) (htO : tOk (T ps) (sc ps)) (hgo : 0 < sc ps → (sRp (T ps) (↑(sc ps - 1 : Nat)) 0 (B ps) (sc ps)).1 = false) : cI l yX9_undo cX9_undo 2 (some .int) 10 297 [.ref h] g b0 n f (po_X9_undoB g f h Z M St Mn Pr B P T sc pr ex ps v0) := by
  refine gs_i (cc := cX9_undo) (maxL := 2) (ret := (some .int)) (by decide) (Nat.le_of_ble_eq_true rfl) ?_
  intro p e0 s m args below meth c ls hx hb hr hml hown hts hlk hK hM hl
  have hl : lv_has ls 2 [(0, .ref h)] := hl
  have hmn := mRel_mn hR hscs
  have hPq : ∀ k, k < 6 → ex k = 1 → Pr k = pr k := fun k hk hx => ((hR k hk).1 hx).2.2.2.2
  have hbr := (hR ps hps).1 hpx
  have hmn9 : Mn ps = ↑(sc ps) := ((hmn ps hps).1 hpx).1
  have hs60 := hscs ps hps hpx
  refine lv_aload_n hx hb dX9_undo_0 rfl (lv_at hl 0 rfl) ?_
  refine g_iconst hx hb dX9_undo_1 ?_
  refine g_put (ci := 11) (v := .int (zI 0)) (ty := .int) (C := RX9) (T := TX9) (N := 24) hx hb hts iU_X9 tyX9 tyX9_ok nmX9 hown hK hM ⟨by omega, by omega⟩ hO rfl 0 (by decide) (hts _ u_1144) (fun _ h9 => h9) rfl (by decide +kernel) rfl rfl (Nat.le_of_ble_eq_true rfl) dX9_undo_2 (fun f1 H locs hM hf3 o2 => ?_)
  have hf3 : f1 (h) = .inr (11, [.int (zI 0), .ref (h + 1), .ref (h + 2), .ref (h + 3), .ref (h + 4), .ref (h + 5), .ref (h + 6), .ref (h + 7), .ref (h + 8), .int (zI (Z 9)), .int (zI (Z 10)), .int (zI (Z 11)), .int (zI (Z 12)), .int (zI (Z 13)), .int (zI (Z 14)), .int (zI (Z 15)), .int (zI (Z 16)), .ref (h + 9), .ref (h + 10), .ref (h + 11), .int (zI (Z 20)), .int (zI (Z 21)), .int (zI (Z 22)), .ref (h + 12)]) := hf3
  refine lv_aload_n hx hb dX9_undo_5 rfl (lv_at hl 0 rfl) ?_
  refine g_get (ci := 11) (v := .ref (h + 4)) (C := RX9) (T := TX9) (N := 24) hx hb hts iU_X9 hown hK hM ⟨by omega, by omega⟩ hf3 rfl 4 (by decide) (hts _ u_1148) (fun _ h9 => h9) rfl dX9_undo_6 ?_
  refine lv_aload_n hx hb dX9_undo_9 rfl (lv_at hl 0 rfl) ?_
  refine g_get (ci := 11) (v := .int (zI (Z 9))) (C := RX9) (T := TX9) (N := 24) hx hb hts iU_X9 hown hK hM ⟨by omega, by omega⟩ hf3 rfl 9 (by decide) (hts _ u_1153) (fun _ h9 => h9) rfl dX9_undo_10 ?_
  rw [hz9]
  have hf4 := hMn.kept (o2 (h + 4) (by omega))
  refine g_iald hx hb hK hM ⟨by omega, by omega⟩ hf4 (by omega) (by omega) (by decide) dX9_undo_13 ?_
  show W _ _ _ _ _ _ _ _ _ _ _ _ _ _ _ (F0 _ _ _ (.int (zI (Mn ps)) :: _))
  rw [hmn9]
  refine g_if_ne (tgt := 23) hx hb dX9_undo_14 (by decide) ⟨by omega, by omega⟩ (fun c14 => ?_) (fun c14 => ?_)
  · skip
    have hw9 : ((sc ps - 1 : Nat) : Int) = ↑(sc ps) - 1 := by omega
    refine lv_aload_n hx hb dX9_undo_23 rfl (lv_at hl 0 rfl) ?_
    refine lv_aload_n hx hb dX9_undo_24 rfl (lv_at hl 0 rfl) ?_
    refine g_get (ci := 11) (v := .ref (h + 4)) (C := RX9) (T := TX9) (N := 24) hx hb hts iU_X9 hown hK hM ⟨by omega, by omega⟩ hf3 rfl 4 (by decide) (hts _ u_1148) (fun _ h9 => h9) rfl dX9_undo_25 ?_
    refine lv_aload_n hx hb dX9_undo_28 rfl (lv_at hl 0 rfl) ?_
    refine g_get (ci := 11) (v := .int (zI (Z 9))) (C := RX9) (T := TX9) (N := 24) hx hb hts iU_X9 hown hK hM ⟨by omega, by omega⟩ hf3 rfl 9 (by decide) (hts _ u_1153) (fun _ h9 => h9) rfl dX9_undo_29 ?_
    rw [hz9]
    refine g_iald hx hb hK hM ⟨by omega, by omega⟩ hf4 (by omega) (by omega) (by decide) dX9_undo_32 ?_
    show W _ _ _ _ _ _ _ _ _ _ _ _ _ _ _ (F0 _ _ _ (.int (zI (Mn ps)) :: _))
    rw [hmn9]
    refine g_iconst hx hb dX9_undo_33 ?_
    refine g_isub hx hb dX9_undo_34 ?_
    have hf5 := hPl.kept (o2 (h + 1) (by omega))
    have hf6 := hSt.kept (o2 (h + 3) (by omega))
    have hf7 := hPr.kept (o2 (h + 5) (by omega))
    have hf8 := hsc.kept (fun q h1 h2 => (o2 (q) (by omega)))
    have hq9 := c_X9_isRemade l g b0 n f1 h (pu Z 0 0) M St Mn Pr B P T sc pr ex ps (sc ps - 1) v0 hf3 hrg hf5 hf6 hf4 hf7 hR (by exact hz9) hps hpx hscs hexi hpri hp0 hf8 hokB hv1 hv0 htO (by omega)
    rw [hw9] at hq9
    have hC10 := hq9
    refine g_callVi (ci := 11) (C := RX9) (T := TX9) (N := 24) (As := [.int (zI ((↑(sc ps) : Int) - 1))]) (rest := []) ⟨hx, hb, hml, hown, hts⟩ hK hM hC10 (cuV (n := 1) hts u_1537 u_1534 u_10 (by decide) u_1536 us_66 ⟨Nat.le_of_ble_eq_true rfl, Nat.le_of_ble_eq_true rfl⟩) ⟨by omega, by omega⟩ hf3 rfl rfl hl.1 rfl (Nat.le_of_ble_eq_true rfl) dX9_undo_35 ⟨Nat.zero_le _, Nat.zero_le _⟩ (fun r35 f11 H locs hM hp12 => ?_)
    have hd13 := Or.resolve_left hp12 (fun hh => by have h9 := hgo (by omega); rw [hh.1] at h9; exact absurd h9 (by decide))
    obtain ⟨hqq23, rfl, ⟨M1, St1, hj14, hi3_15, hi4_16, hr17⟩, ⟨Z1, hm18, hk_19, hz0_20⟩, hs21, o22⟩ := hd13
    have hz91 : Z1 9 = ↑ps := by rw [hk_19 9 (by decide) (by decide) (by decide)]; exact hz9
    refine lv_istore_n (lv' := [(1, .int (zI 1)), (0, .ref h)]) hx hb dX9_undo_38 rfl hl (by decide) rfl (fun ls hl => ?_)
    refine lv_aload_n hx hb dX9_undo_39 rfl (lv_at hl 1 rfl) ?_
    refine g_get (ci := 11) (v := .ref (h + 4)) (C := RX9) (T := TX9) (N := 24) hx hb hts iU_X9 hown hK hM ⟨by omega, by omega⟩ hm18 rfl 4 (by decide) (hts _ u_1148) (fun _ h9 => h9) rfl dX9_undo_40 ?_
    refine lv_aload_n hx hb dX9_undo_43 rfl (lv_at hl 1 rfl) ?_
    refine g_get (ci := 11) (v := .int (zI (Z1 9))) (C := RX9) (T := TX9) (N := 24) hx hb hts iU_X9 hown hK hM ⟨by omega, by omega⟩ hm18 rfl 9 (by decide) (hts _ u_1153) (fun _ h9 => h9) rfl dX9_undo_44 ?_
    rw [hz91]
    refine g_iald hx hb hK hM ⟨by omega, by omega⟩ hi4_16 (by omega) (by omega) (by decide) dX9_undo_47 ?_
    show W _ _ _ _ _ _ _ _ _ _ _ _ _ _ _ (F0 _ _ _ (.int (zI ((pu Mn ps (↑(sc ps) - 1)) ps)) :: _))
    rw [pu_s]
    refine g_iret hx hb hr hlk hK hM dX9_undo_48 ?_
    exact Or.inr ⟨by omega, rfl, ⟨M1, St1, hj14, hi3_15, hi4_16, hr17⟩, ⟨Z1, hm18, (((zKeep.rf.pu (by decide))).tr hk_19), hz0_20⟩, hs21, (fun q hq => ((o22 (q) (by omega)).trans (o2 (q) (by omega))))⟩
  · skip
    refine lv_aload_n hx hb dX9_undo_17 rfl (lv_at hl 0 rfl) ?_
    refine g_iconst hx hb dX9_undo_18 ?_
    have hC24 := c_X9_fails l g b0 n f1 h (pu Z 0 0) 1 hf3 hrg
    refine g_callVi (ci := 11) (C := RX9) (T := TX9) (N := 24) (As := [.int (zI 1)]) (rest := []) ⟨hx, hb, hml, hown, hts⟩ hK hM hC24 (cuV (n := 1) hts u_1412 u_1409 u_10 (by decide) u_1411 us_55 ⟨Nat.le_of_ble_eq_true rfl, Nat.le_of_ble_eq_true rfl⟩) ⟨by omega, by omega⟩ hf3 rfl rfl hl.1 rfl (Nat.le_of_ble_eq_true rfl) dX9_undo_19 ⟨Nat.zero_le _, Nat.zero_le _⟩ (fun r19 f25 H locs hM hp26 => ?_)
    obtain ⟨rfl, hm27, o28⟩ := hp26
    have ho29 : f25 h = .inr (11, [.int (zI 1), .ref (h + 1), .ref (h + 2), .ref (h + 3), .ref (h + 4), .ref (h + 5), .ref (h + 6), .ref (h + 7), .ref (h + 8), .int (zI (Z 9)), .int (zI (Z 10)), .int (zI (Z 11)), .int (zI (Z 12)), .int (zI (Z 13)), .int (zI (Z 14)), .int (zI (Z 15)), .int (zI (Z 16)), .ref (h + 9), .ref (h + 10), .ref (h + 11), .int (zI (Z 20)), .int (zI (Z 21)), .int (zI (Z 22)), .ref (h + 12)]) := hm27
    refine g_iret hx hb hr hlk hK hM dX9_undo_22 ?_
    exact Or.inl ⟨by omega, ho29, (fun q hq => ((o28 (q) (by omega)).trans (o2 (q) (by omega))))⟩
def po_X9_dropStepB (g : gE) (f : gF) (h : Nat) (Z M St Mn Pr : Nat → Int) (B P T : Nat → Nat → Int) (sc : Nat → Nat) (pr ex : Nat → Int) (ps : Nat) (a v0 : Int) : Int32 → gF → Prop := fun r f1 => (¬ (0 ≤ a ∧ a < ↑(sc ps) - 1) ∧ mdO f1 h (pu Z 0 1) ∧ ∀ q, q ≠ h → f1 q = f q) ∨ ((0 ≤ a ∧ a < ↑(sc ps) - 1) ∧ (sRp (T ps) (↑a.toNat) 0 (B ps) (sc ps)).1 = true ∧ (∃ M1 : Nat → Int, arJ g f1 (h + 1) 2058 M1 ∧ ∀ j, j < 1764 → M1 j = M j) ∧ arI g f1 (h + 3) 1800 St ∧ arI g f1 (h + 4) 6 Mn ∧ (∃ Z1 : Nat → Int, mdO f1 h Z1 ∧ zKeep Z Z1 ∧ Z1 0 = 2) ∧ scrAt g f1 h ∧ ∀ q, (q < h ∨ q = h + 2 ∨ (h + 5 ≤ q ∧ q < h + 9) ∨ h + 11 ≤ q) → f1 q = f q) ∨ ((0 ≤ a ∧ a < ↑(sc ps) - 1) ∧ (sRp (T ps) (↑a.toNat) 0 (B ps) (sc ps)).1 = false ∧ r = zI (↑(sc ps) - 1) ∧ (∃ M1 St1 : Nat → Int, arJ g f1 (h + 1) 2058 M1 ∧ arI g f1 (h + 3) 1800 St1 ∧ arI g f1 (h + 4) 6 (pu Mn ps (↑(sc ps) - 1)) ∧ mRel M1 St1 (pu Mn ps (↑(sc ps) - 1)) Pr B (fu P ps (sRp (T ps) (↑a.toNat) 0 (B ps) (sc ps)).2.2) (fu T ps (shP (T ps) (a.toNat * 5) ((sc ps - 1) * 5))) (fu sc ps (sc ps - 1)) pr ex) ∧ (∃ Z1 : Nat → Int, mdO f1 h Z1 ∧ zKeep Z Z1 ∧ Z1 0 = 0) ∧ scrAt g f1 h ∧ ∀ q, (q < h ∨ q = h + 2 ∨ (h + 5 ≤ q ∧ q < h + 9) ∨ h + 11 ≤ q) → f1 q = f q)
set_option maxRecDepth 100000 in
set_option maxHeartbeats 1000000 in
/-- dropStep -/
theorem c_X9_dropStepB (l : Launch) (g : gE) (b0 n : Nat) (f : gF) (h : Nat) (Z M St Mn Pr : Nat → Int) (B P T : Nat → Nat → Int) (sc : Nat → Nat) (pr ex : Nat → Int) (ps : Nat) (a v0 : Int) (hO : mdO f h Z) (hrg : b0 ≤ h ∧ h + 13 ≤ b0 + n) (hPl : arJ g f (h + 1) 2058 M) (hSt : arI g f (h + 3) 1800 St) (hMn : arI g f (h + 4) 6 Mn) (hPr : arI g f (h + 5) 6 Pr) (hR : mRel M St Mn Pr B P T sc pr ex) (hz9 : Z 9 = ↑ps) (hps : ps < 6) (hpx : ex ps = 1) (hscs : ∀ k, k < 6 → ex k = 1 → sc k ≤ 60) (hexi : ∀ k, k < 6 → ex k = 0 ∨ ex k = 1) (hpri : ∀ k, k < 6 → rI (pr k)) (hp0 : pr 0 = -1) (hsc : scrAt g f h) (hokB : pOk (B ps) v0) (hv1 : 0 ≤ v0) (hv0 : v0 + 541 * 61 ≤ 800000000) (htO : tOk (T ps) (sc ps)) (hra : rI a) : cI l yX9_dropStep cX9_dropStep 2 (some .int) 10 297 [.ref h, .int (zI a)] g b0 n f (po_X9_dropStepB g f h Z M St Mn Pr B P T sc pr ex ps a v0) := by
  refine gs_i (cc := cX9_dropStep) (maxL := 2) (ret := (some .int)) (by decide) (Nat.le_of_ble_eq_true rfl) ?_
  intro p e0 s m args below meth c ls hx hb hr hml hown hts hlk hK hM hl
  have hl : lv_has ls 2 [(0, .ref h), (1, .int (zI a))] := hl
  have hmn := mRel_mn hR hscs
  have hPq : ∀ k, k < 6 → ex k = 1 → Pr k = pr k := fun k hk hx => ((hR k hk).1 hx).2.2.2.2
  have hbr := (hR ps hps).1 hpx
  have hmn9 : Mn ps = ↑(sc ps) := ((hmn ps hps).1 hpx).1
  have hs60 := hscs ps hps hpx
  refine lv_aload_n hx hb dX9_dropStep_0 rfl (lv_at hl 0 rfl) ?_
  refine g_iconst hx hb dX9_dropStep_1 ?_
  refine g_put (ci := 11) (v := .int (zI 0)) (ty := .int) (C := RX9) (T := TX9) (N := 24) hx hb hts iU_X9 tyX9 tyX9_ok nmX9 hown hK hM ⟨by omega, by omega⟩ hO rfl 0 (by decide) (hts _ u_1144) (fun _ h9 => h9) rfl (by decide +kernel) rfl rfl (Nat.le_of_ble_eq_true rfl) dX9_dropStep_2 (fun f1 H locs hM hf3 o2 => ?_)
  have hf3 : f1 (h) = .inr (11, [.int (zI 0), .ref (h + 1), .ref (h + 2), .ref (h + 3), .ref (h + 4), .ref (h + 5), .ref (h + 6), .ref (h + 7), .ref (h + 8), .int (zI (Z 9)), .int (zI (Z 10)), .int (zI (Z 11)), .int (zI (Z 12)), .int (zI (Z 13)), .int (zI (Z 14)), .int (zI (Z 15)), .int (zI (Z 16)), .ref (h + 9), .ref (h + 10), .ref (h + 11), .int (zI (Z 20)), .int (zI (Z 21)), .int (zI (Z 22)), .ref (h + 12)]) := hf3
  refine lv_iload_n hx hb dX9_dropStep_5 rfl (lv_at hl 1 rfl) ?_
  refine g_i2l hx hb dX9_dropStep_6 hra ?_
  refine g_lconst (z := 0) hx hb dX9_dropStep_7 (by decide) ?_
  refine lv_aload_n hx hb dX9_dropStep_8 rfl (lv_at hl 0 rfl) ?_
  refine g_get (ci := 11) (v := .ref (h + 4)) (C := RX9) (T := TX9) (N := 24) hx hb hts iU_X9 hown hK hM ⟨by omega, by omega⟩ hf3 rfl 4 (by decide) (hts _ u_1148) (fun _ h9 => h9) rfl dX9_dropStep_9 ?_
  refine lv_aload_n hx hb dX9_dropStep_12 rfl (lv_at hl 0 rfl) ?_
  refine g_get (ci := 11) (v := .int (zI (Z 9))) (C := RX9) (T := TX9) (N := 24) hx hb hts iU_X9 hown hK hM ⟨by omega, by omega⟩ hf3 rfl 9 (by decide) (hts _ u_1153) (fun _ h9 => h9) rfl dX9_dropStep_13 ?_
  rw [hz9]
  have hf4 := hMn.kept (o2 (h + 4) (by omega))
  refine g_iald hx hb hK hM ⟨by omega, by omega⟩ hf4 (by omega) (by omega) (by decide) dX9_dropStep_16 ?_
  show W _ _ _ _ _ _ _ _ _ _ _ _ _ _ _ (F0 _ _ _ (.int (zI (Mn ps)) :: _))
  rw [hmn9]
  refine g_iconst hx hb dX9_dropStep_17 ?_
  refine g_isub hx hb dX9_dropStep_18 ?_
  refine g_i2l hx hb dX9_dropStep_19 ⟨by omega, by omega⟩ ?_
  have hC5 := c_X9_in l g b0 n f1 a 0 ((↑(sc ps) : Int) - 2) (rI_L hra) (by decide) ⟨by omega, by omega⟩
  refine g_callSi (As := [.long (zL a), .long (zL 0), .long (zL ((↑(sc ps) : Int) - 2))]) (rest := []) ⟨hx, hb, hml, hown, hts⟩ hK hM hC5 (cuS (n := 3) hts u_1240 u_1238 u_10 (by decide) u_1239 ⟨Nat.le_of_ble_eq_true rfl, Nat.le_of_ble_eq_true rfl⟩) rfl hl.1 rfl (Nat.le_of_ble_eq_true rfl) dX9_dropStep_20 ⟨Nat.zero_le _, Nat.zero_le _⟩ (fun r20 f6 H locs hM hp7 => ?_)
  obtain ⟨rfl, rfl⟩ := hp7
  refine g_ifb_ne (tgt := 32) hx hb dX9_dropStep_23 (by decide) (fun c23 => ?_) (fun c23 => ?_)
  · skip
    have hae : ((a.toNat : Nat) : Int) = a := by omega
    refine lv_aload_n hx hb dX9_dropStep_32 rfl (lv_at hl 0 rfl) ?_
    refine lv_iload_n hx hb dX9_dropStep_33 rfl (lv_at hl 1 rfl) ?_
    have hf8 := hPl.kept (o2 (h + 1) (by omega))
    have hf9 := hSt.kept (o2 (h + 3) (by omega))
    have hf10 := hPr.kept (o2 (h + 5) (by omega))
    have hf11 := hsc.kept (fun q h1 h2 => (o2 (q) (by omega)))
    have hq12 := c_X9_isRemade l g b0 n f1 h (pu Z 0 0) M St Mn Pr B P T sc pr ex ps a.toNat v0 hf3 hrg hf8 hf9 hf4 hf10 hR (by exact hz9) hps hpx hscs hexi hpri hp0 hf11 hokB hv1 hv0 htO (by omega)
    rw [hae] at hq12
    have hC13 := hq12
    refine g_callVi (ci := 11) (C := RX9) (T := TX9) (N := 24) (As := [.int (zI a)]) (rest := []) ⟨hx, hb, hml, hown, hts⟩ hK hM hC13 (cuV (n := 1) hts u_1537 u_1534 u_10 (by decide) u_1536 us_66 ⟨Nat.le_of_ble_eq_true rfl, Nat.le_of_ble_eq_true rfl⟩) ⟨by omega, by omega⟩ hf3 rfl rfl hl.1 rfl (Nat.le_of_ble_eq_true rfl) dX9_dropStep_34 ⟨Nat.zero_le _, Nat.zero_le _⟩ (fun r34 f14 H locs hM hp15 => ?_)
    rcases hp15 with ⟨hqq25, rfl, ⟨M1, hj16, hk_21m⟩, hi3_17, hi4_18, ⟨Z1, hm20, hk_21, hz0_22⟩, hs23, o24⟩ | ⟨hqq35, rfl, ⟨M1, St1, hj26, hi3_27, hi4_28, hr29⟩, ⟨Z1, hm30, hk_31, hz0_32⟩, hs33, o34⟩
    · skip
      have hz91 : Z1 9 = ↑ps := by rw [hk_21 9 (by decide) (by decide) (by decide)]; exact hz9
      refine g_if_eq (tgt := 52) hx hb dX9_dropStep_37 (by decide) (by decide) (fun c37 => ?_) (fun c37 => ?_)
      · skip
        refine lv_aload_n hx hb dX9_dropStep_52 rfl (lv_at hl 0 rfl) ?_
        refine g_iconst hx hb dX9_dropStep_53 ?_
        have hC36 := c_X9_fails l g b0 n f14 h Z1 2 hm20 hrg
        refine g_callVi (ci := 11) (C := RX9) (T := TX9) (N := 24) (As := [.int (zI 2)]) (rest := []) ⟨hx, hb, hml, hown, hts⟩ hK hM hC36 (cuV (n := 1) hts u_1412 u_1409 u_10 (by decide) u_1411 us_55 ⟨Nat.le_of_ble_eq_true rfl, Nat.le_of_ble_eq_true rfl⟩) ⟨by omega, by omega⟩ hm20 rfl rfl hl.1 rfl (Nat.le_of_ble_eq_true rfl) dX9_dropStep_54 ⟨Nat.zero_le _, Nat.zero_le _⟩ (fun r54 f37 H locs hM hp38 => ?_)
        obtain ⟨rfl, hm39, o40⟩ := hp38
        have ho41 : f37 h = .inr (11, [.int (zI 2), .ref (h + 1), .ref (h + 2), .ref (h + 3), .ref (h + 4), .ref (h + 5), .ref (h + 6), .ref (h + 7), .ref (h + 8), .int (zI (Z1 9)), .int (zI (Z1 10)), .int (zI (Z1 11)), .int (zI (Z1 12)), .int (zI (Z1 13)), .int (zI (Z1 14)), .int (zI (Z1 15)), .int (zI (Z1 16)), .ref (h + 9), .ref (h + 10), .ref (h + 11), .int (zI (Z1 20)), .int (zI (Z1 21)), .int (zI (Z1 22)), .ref (h + 12)]) := hm39
        have hf42 := hj16.kept (o40 (h + 1) (by omega))
        have hf43 := hi3_17.kept (o40 (h + 3) (by omega))
        have hf44 := hi4_18.kept (o40 (h + 4) (by omega))
        have hf45 := hs23.kept (fun q h1 h2 => (o40 (q) (by omega)))
        refine g_iret hx hb hr hlk hK hM dX9_dropStep_57 ?_
        exact Or.inr (Or.inl ⟨by omega, hqq25, ⟨M1, hf42, hk_21m⟩, hf43, hf44, ⟨(pu Z1 0 2), ho41, ((((zKeep.rf.pu (by decide))).tr hk_21).pu (by decide)), rfl⟩, hf45, (fun q hq => ((o40 (q) (by omega)).trans ((o24 (q) (by omega)).trans (o2 (q) (by omega)))))⟩)
      · exact absurd c37 (by decide)
    · skip
      have hz91 : Z1 9 = ↑ps := by rw [hk_31 9 (by decide) (by decide) (by decide)]; exact hz9
      refine g_if_eq (tgt := 52) hx hb dX9_dropStep_37 (by decide) (by decide) (fun c37 => ?_) (fun c37 => ?_)
      · exact absurd c37 (by decide)
      · skip
        refine lv_aload_n hx hb dX9_dropStep_40 rfl (lv_at hl 0 rfl) ?_
        refine g_get (ci := 11) (v := .ref (h + 4)) (C := RX9) (T := TX9) (N := 24) hx hb hts iU_X9 hown hK hM ⟨by omega, by omega⟩ hm30 rfl 4 (by decide) (hts _ u_1148) (fun _ h9 => h9) rfl dX9_dropStep_41 ?_
        refine lv_aload_n hx hb dX9_dropStep_44 rfl (lv_at hl 0 rfl) ?_
        refine g_get (ci := 11) (v := .int (zI (Z1 9))) (C := RX9) (T := TX9) (N := 24) hx hb hts iU_X9 hown hK hM ⟨by omega, by omega⟩ hm30 rfl 9 (by decide) (hts _ u_1153) (fun _ h9 => h9) rfl dX9_dropStep_45 ?_
        rw [hz91]
        refine g_iald hx hb hK hM ⟨by omega, by omega⟩ hi4_28 (by omega) (by omega) (by decide) dX9_dropStep_48 ?_
        show W _ _ _ _ _ _ _ _ _ _ _ _ _ _ _ (F0 _ _ _ (.int (zI ((pu Mn ps (↑(sc ps) - 1)) ps)) :: _))
        rw [pu_s]
        refine lv_goto (tgt := 57) hx hb dX9_dropStep_49 (by decide) ?_
        refine g_iret hx hb hr hlk hK hM dX9_dropStep_57 ?_
        exact Or.inr (Or.inr ⟨by omega, hqq35, rfl, ⟨M1, St1, hj26, hi3_27, hi4_28, hr29⟩, ⟨Z1, hm30, (((zKeep.rf.pu (by decide))).tr hk_31), hz0_32⟩, hs33, (fun q hq => ((o34 (q) (by omega)).trans (o2 (q) (by omega))))⟩)
  · skip
    refine lv_aload_n hx hb dX9_dropStep_26 rfl (lv_at hl 0 rfl) ?_
    refine g_iconst hx hb dX9_dropStep_27 ?_
    have hC46 := c_X9_fails l g b0 n f1 h (pu Z 0 0) 1 hf3 hrg
    refine g_callVi (ci := 11) (C := RX9) (T := TX9) (N := 24) (As := [.int (zI 1)]) (rest := []) ⟨hx, hb, hml, hown, hts⟩ hK hM hC46 (cuV (n := 1) hts u_1412 u_1409 u_10 (by decide) u_1411 us_55 ⟨Nat.le_of_ble_eq_true rfl, Nat.le_of_ble_eq_true rfl⟩) ⟨by omega, by omega⟩ hf3 rfl rfl hl.1 rfl (Nat.le_of_ble_eq_true rfl) dX9_dropStep_28 ⟨Nat.zero_le _, Nat.zero_le _⟩ (fun r28 f47 H locs hM hp48 => ?_)
    obtain ⟨rfl, hm49, o50⟩ := hp48
    have ho51 : f47 h = .inr (11, [.int (zI 1), .ref (h + 1), .ref (h + 2), .ref (h + 3), .ref (h + 4), .ref (h + 5), .ref (h + 6), .ref (h + 7), .ref (h + 8), .int (zI (Z 9)), .int (zI (Z 10)), .int (zI (Z 11)), .int (zI (Z 12)), .int (zI (Z 13)), .int (zI (Z 14)), .int (zI (Z 15)), .int (zI (Z 16)), .ref (h + 9), .ref (h + 10), .ref (h + 11), .int (zI (Z 20)), .int (zI (Z 21)), .int (zI (Z 22)), .ref (h + 12)]) := hm49
    refine g_iret hx hb hr hlk hK hM dX9_dropStep_31 ?_
    exact Or.inl ⟨by omega, ho51, (fun q hq => ((o50 (q) (by omega)).trans (o2 (q) (by omega))))⟩
def po_X9_mergeB (g : gE) (f : gF) (h : Nat) (Z M St Mn Pr : Nat → Int) (B P T : Nat → Nat → Int) (sc : Nat → Nat) (pr ex : Nat → Int) (ps : Nat) (z : Int) (pz : Nat) (v0 : Int) : Int32 → gF → Prop := fun r f1 => (¬ FD ex z ∧ mdO f1 h (pu Z 0 1) ∧ ∀ q, q ≠ h → f1 q = f q) ∨ (FD ex z ∧ HELD pr ex ps z ∧ mdO f1 h (pu Z 0 2) ∧ ∀ q, q ≠ h → f1 q = f q) ∨ (FD ex z ∧ ¬ HELD pr ex ps z ∧ (sRp (T z.toNat) (-1) (↑(sc pz)) (P pz) (sc z.toNat)).1 = true ∧ (∃ M1 : Nat → Int, arJ g f1 (h + 1) 2058 M1 ∧ ∀ j, j < 1764 → M1 j = M j) ∧ arI g f1 (h + 3) 1800 St ∧ arI g f1 (h + 4) 6 Mn ∧ (∃ Z1 : Nat → Int, mdO f1 h Z1 ∧ (∀ k, k ≠ 0 → k ≠ 11 → k ≠ 15 → k ≠ 13 → k ≠ 14 → Z1 k = Z k) ∧ Z1 0 = 3 ∧ Z1 13 = ↑(sRp (T z.toNat) (-1) (↑(sc pz)) (P pz) (sc z.toNat)).2.1 ∧ Z1 14 = sRef (sRp (T z.toNat) (-1) (↑(sc pz)) (P pz) (sc z.toNat)).2.2 (T z.toNat ((sRp (T z.toNat) (-1) (↑(sc pz)) (P pz) (sc z.toNat)).2.1 * 5)) (T z.toNat ((sRp (T z.toNat) (-1) (↑(sc pz)) (P pz) (sc z.toNat)).2.1 * 5 + 1)) (T z.toNat ((sRp (T z.toNat) (-1) (↑(sc pz)) (P pz) (sc z.toNat)).2.1 * 5 + 2)) (T z.toNat ((sRp (T z.toNat) (-1) (↑(sc pz)) (P pz) (sc z.toNat)).2.1 * 5 + 3)) (T z.toNat ((sRp (T z.toNat) (-1) (↑(sc pz)) (P pz) (sc z.toNat)).2.1 * 5 + 4)) (60 ≤ (↑(sc pz) : Int) + ↑(sRp (T z.toNat) (-1) (↑(sc pz)) (P pz) (sc z.toNat)).2.1)) ∧ scrAt g f1 h ∧ ∀ q, (q < h ∨ q = h + 2 ∨ (h + 5 ≤ q ∧ q < h + 9) ∨ h + 11 ≤ q) → f1 q = f q) ∨ (FD ex z ∧ ¬ HELD pr ex ps z ∧ (sRp (T z.toNat) (-1) (↑(sc pz)) (P pz) (sc z.toNat)).1 = false ∧ r = zI ↑(sc z.toNat) ∧ (∃ M1 St1 Mn1 : Nat → Int, arJ g f1 (h + 1) 2058 M1 ∧ arI g f1 (h + 3) 1800 St1 ∧ arI g f1 (h + 4) 6 Mn1 ∧ mRel M1 St1 Mn1 Pr B (fu P pz (sRp (T z.toNat) (-1) (↑(sc pz)) (P pz) (sc z.toNat)).2.2) (fu T pz (rcAll (T pz) (sc pz) (T z.toNat) (sc z.toNat))) (fu sc pz (sc pz + sc z.toNat)) pr (fu ex z.toNat 0)) ∧ (∃ Z1 : Nat → Int, mdO f1 h Z1 ∧ zKeep Z Z1 ∧ Z1 0 = 0) ∧ scrAt g f1 h ∧ ∀ q, (q < h ∨ q = h + 2 ∨ (h + 5 ≤ q ∧ q < h + 9) ∨ h + 11 ≤ q) → f1 q = f q)
set_option maxRecDepth 100000 in
set_option maxHeartbeats 4000000 in
/-- merge -/
theorem c_X9_mergeB (l : Launch) (g : gE) (b0 n : Nat) (f : gF) (h : Nat) (Z M St Mn Pr : Nat → Int) (B P T : Nat → Nat → Int) (sc : Nat → Nat) (pr ex : Nat → Int) (ps : Nat) (z : Int) (pz : Nat) (v0 : Int) (hO : mdO f h Z) (hrg : b0 ≤ h ∧ h + 13 ≤ b0 + n) (hPl : arJ g f (h + 1) 2058 M) (hSt : arI g f (h + 3) 1800 St) (hMn : arI g f (h + 4) 6 Mn) (hPr : arI g f (h + 5) 6 Pr) (hR : mRel M St Mn Pr B P T sc pr ex) (hz9 : Z 9 = ↑ps) (hps : ps < 6) (hpx : ex ps = 1) (hscs : ∀ k, k < 6 → ex k = 1 → sc k ≤ 60) (hexi : ∀ k, k < 6 → ex k = 0 ∨ ex k = 1) (hpri : ∀ k, k < 6 → rI (pr k)) (hp0 : pr 0 = -1) (hsc : scrAt g f h) (hokk : ∀ k, k < 6 → pOk (P k) v0) (hv1 : 0 ≤ v0) (hv0 : v0 + 541 * 61 ≤ 800000000) (htO : ∀ k, k < 6 → ex k = 1 → tOk (T k) (sc k)) (hrz : rI z) (hpz : FD ex z → ¬ HELD pr ex ps z → pr z.toNat = ↑pz ∧ pz < 6 ∧ ex pz = 1 ∧ pz ≠ z.toNat) : cI l yX9_merge cX9_merge 6 (some .int) 9 274 [.ref h, .int (zI z)] g b0 n f (po_X9_mergeB g f h Z M St Mn Pr B P T sc pr ex ps z pz v0) := by
  refine gs_i (cc := cX9_merge) (maxL := 6) (ret := (some .int)) (by decide) (Nat.le_of_ble_eq_true rfl) ?_
  intro p e0 s m args below meth c ls hx hb hr hml hown hts hlk hK hM hl
  have hl : lv_has ls 6 [(0, .ref h), (1, .int (zI z))] := hl
  have hmn := mRel_mn hR hscs
  have hPq : ∀ k, k < 6 → ex k = 1 → Pr k = pr k := fun k hk hx => ((hR k hk).1 hx).2.2.2.2
  refine lv_aload_n hx hb dX9_merge_0 rfl (lv_at hl 0 rfl) ?_
  refine g_iconst hx hb dX9_merge_1 ?_
  refine g_put (ci := 11) (v := .int (zI 0)) (ty := .int) (C := RX9) (T := TX9) (N := 24) hx hb hts iU_X9 tyX9 tyX9_ok nmX9 hown hK hM ⟨by omega, by omega⟩ hO rfl 0 (by decide) (hts _ u_1144) (fun _ h9 => h9) rfl (by decide +kernel) rfl rfl (Nat.le_of_ble_eq_true rfl) dX9_merge_2 (fun f1 H locs hM hf3 o2 => ?_)
  have hf3 : f1 (h) = .inr (11, [.int (zI 0), .ref (h + 1), .ref (h + 2), .ref (h + 3), .ref (h + 4), .ref (h + 5), .ref (h + 6), .ref (h + 7), .ref (h + 8), .int (zI (Z 9)), .int (zI (Z 10)), .int (zI (Z 11)), .int (zI (Z 12)), .int (zI (Z 13)), .int (zI (Z 14)), .int (zI (Z 15)), .int (zI (Z 16)), .ref (h + 9), .ref (h + 10), .ref (h + 11), .int (zI (Z 20)), .int (zI (Z 21)), .int (zI (Z 22)), .ref (h + 12)]) := hf3
  refine lv_aload_n hx hb dX9_merge_5 rfl (lv_at hl 0 rfl) ?_
  refine lv_iload_n hx hb dX9_merge_6 rfl (lv_at hl 1 rfl) ?_
  have hf4 := hMn.kept (o2 (h + 4) (by omega))
  have hC5 := c_X9_isBranch l g b0 n f1 h (pu Z 0 0) Mn sc ex z hf3 hrg hf4 hmn hrz
  refine g_callVi (ci := 11) (C := RX9) (T := TX9) (N := 24) (As := [.int (zI z)]) (rest := []) ⟨hx, hb, hml, hown, hts⟩ hK hM hC5 (cuV (n := 1) hts u_1489 u_1486 u_10 (by decide) u_1488 us_61 ⟨Nat.le_of_ble_eq_true rfl, Nat.le_of_ble_eq_true rfl⟩) ⟨by omega, by omega⟩ hf3 rfl rfl hl.1 rfl (Nat.le_of_ble_eq_true rfl) dX9_merge_7 ⟨Nat.zero_le _, Nat.zero_le _⟩ (fun r7 f6 H locs hM hp7 => ?_)
  obtain ⟨rfl, rfl⟩ := hp7
  refine g_ifb_ne (tgt := 19) hx hb dX9_merge_10 (by decide) (fun c10 => ?_) (fun c10 => ?_)
  · skip
    refine lv_aload_n hx hb dX9_merge_19 rfl (lv_at hl 0 rfl) ?_
    refine lv_iload_n hx hb dX9_merge_20 rfl (lv_at hl 1 rfl) ?_
    have hf8 := hPl.kept (o2 (h + 1) (by omega))
    have hf9 := hSt.kept (o2 (h + 3) (by omega))
    have hf10 := hPr.kept (o2 (h + 5) (by omega))
    have hC11 := c_X9_isHeld l g b0 n f1 h (pu Z 0 0) M St Mn Pr B P T sc pr ex ps z hf3 hrg hf8 hf9 hf4 hf10 hR hz9 hps hpx hscs hexi hpri hp0 hrz (by omega)
    refine g_callVi (ci := 11) (C := RX9) (T := TX9) (N := 24) (As := [.int (zI z)]) (rest := []) ⟨hx, hb, hml, hown, hts⟩ hK hM hC11 (cuV (n := 1) hts u_1497 u_1494 u_10 (by decide) u_1496 us_62 ⟨Nat.le_of_ble_eq_true rfl, Nat.le_of_ble_eq_true rfl⟩) ⟨by omega, by omega⟩ hf3 rfl rfl hl.1 rfl (Nat.le_of_ble_eq_true rfl) dX9_merge_21 ⟨Nat.zero_le _, Nat.zero_le _⟩ (fun r21 f12 H locs hM hp13 => ?_)
    obtain ⟨rfl, rfl⟩ := hp13
    refine g_ifb_eq (tgt := 33) hx hb dX9_merge_24 (by decide) (fun c24 => ?_) (fun c24 => ?_)
    · skip
      obtain ⟨zn, hzz⟩ : ∃ q : Nat, z = q := ⟨z.toNat, by have := c10.1; omega⟩
      have hzt : z.toNat = zn := by omega
      have hzn : ex zn = 1 := by have h9 := c10.2.2; rw [hzt] at h9; exact h9
      have hzn6 : zn < 6 := by have := c10.2.1; omega
      rw [hzz] at hl
      have hbz := (hR zn (by omega)).1 hzn
      have hs60 := hscs zn (by omega) hzn
      obtain ⟨hp1, hp2, hp3, hp4⟩ := hpz c10 c24
      rw [hzt] at hp1 hp4
      have hsp60 := hscs pz hp2 hp3
      have hprz : Pr zn = ↑pz := hbz.2.2.2.2.trans hp1
      have hmnz : Mn zn = ↑(sc zn) := hbz.2.2.2.1
      have hbp := (hR pz hp2).1 hp3
      have hmnp : Mn pz = ↑(sc pz) := hbp.2.2.2.1
      refine lv_aload_n hx hb dX9_merge_33 rfl (lv_at hl 0 rfl) ?_
      refine g_get (ci := 11) (v := .ref (h + 5)) (C := RX9) (T := TX9) (N := 24) hx hb hts iU_X9 hown hK hM ⟨by omega, by omega⟩ hf3 rfl 5 (by decide) (hts _ u_1149) (fun _ h9 => h9) rfl dX9_merge_34 ?_
      refine lv_iload_n hx hb dX9_merge_37 rfl (lv_at hl 1 rfl) ?_
      refine g_iald hx hb hK hM ⟨by omega, by omega⟩ hf10 (by omega) (by omega) (by decide) dX9_merge_38 ?_
      show W _ _ _ _ _ _ _ _ _ _ _ _ _ _ _ (F0 _ _ _ (.int (zI (Pr zn)) :: _))
      rw [hprz]
      refine lv_istore_n (lv' := [(2, .int (zI (↑pz : Int))), (0, .ref h), (1, .int (zI (↑zn : Int)))]) hx hb dX9_merge_39 rfl hl (by decide) rfl (fun ls hl => ?_)
      refine lv_aload_n hx hb dX9_merge_40 rfl (lv_at hl 1 rfl) ?_
      refine lv_iload_n hx hb dX9_merge_41 rfl (lv_at hl 0 rfl) ?_
      have hC14 := c_X9_planOf l g b0 n f1 pz (by omega)
      refine g_callSi (As := [.int (zI (↑pz : Int))]) (rest := [.ref h]) ⟨hx, hb, hml, hown, hts⟩ hK hM hC14 (cuS (n := 1) hts u_1228 u_1226 u_10 (by decide) u_1227 ⟨Nat.le_of_ble_eq_true rfl, Nat.le_of_ble_eq_true rfl⟩) rfl hl.1 rfl (Nat.le_of_ble_eq_true rfl) dX9_merge_42 ⟨Nat.zero_le _, Nat.zero_le _⟩ (fun r42 f15 H locs hM hp16 => ?_)
      obtain ⟨rfl, rfl⟩ := hp16
      refine g_sipush hx hb dX9_merge_45 (by decide) ?_
      have hC17 := c_X9_copies l g b0 n f1 h (pu Z 0 0) M (294 * pz) 1911 hf3 hf8 hrg (by omega) (by omega) (by omega)
      refine g_callVv (ci := 11) (C := RX9) (T := TX9) (N := 24) (As := [.int (zI (↑(294 * pz) : Int)), .int (zI 1911)]) (rest := []) ⟨hx, hb, hml, hown, hts⟩ hK hM hC17 (cuV (n := 2) hts u_1425 u_1422 u_10 (by decide) u_1424 us_56 ⟨Nat.le_of_ble_eq_true rfl, Nat.le_of_ble_eq_true rfl⟩) ⟨by omega, by omega⟩ hf3 rfl rfl hl.1 rfl (Nat.le_of_ble_eq_true rfl) dX9_merge_48 ⟨Nat.zero_le _, Nat.zero_le _⟩ (fun f18 H locs hM hp19 => ?_)
      obtain ⟨hn20, o21⟩ := hp19
      have hp22 : mpAt g f18 h M 1911 (P pz) := mpAt.cong (show mpAt g f18 h M 1911 (fun i => M (294 * pz + i)) from hn20) (fun i hi => (hbp.1 i hi).symm)
      refine lv_aload_n hx hb dX9_merge_51 rfl (lv_at hl 1 rfl) ?_
      refine g_sipush hx hb dX9_merge_52 (by decide) ?_
      have hf23 : f18 (h) = .inr (11, [.int (zI 0), .ref (h + 1), .ref (h + 2), .ref (h + 3), .ref (h + 4), .ref (h + 5), .ref (h + 6), .ref (h + 7), .ref (h + 8), .int (zI (Z 9)), .int (zI (Z 10)), .int (zI (Z 11)), .int (zI (Z 12)), .int (zI (Z 13)), .int (zI (Z 14)), .int (zI (Z 15)), .int (zI (Z 16)), .ref (h + 9), .ref (h + 10), .ref (h + 11), .int (zI (Z 20)), .int (zI (Z 21)), .int (zI (Z 22)), .ref (h + 12)]) := (o21 (h) (by omega)).trans hf3
      refine g_put (ci := 11) (v := .int (zI 1911)) (ty := .int) (C := RX9) (T := TX9) (N := 24) hx hb hts iU_X9 tyX9 tyX9_ok nmX9 hown hK hM ⟨by omega, by omega⟩ hf23 rfl 11 (by decide) (hts _ u_1155) (fun _ h9 => h9) rfl (by decide +kernel) rfl rfl (Nat.le_of_ble_eq_true rfl) dX9_merge_55 (fun f24 H locs hM hf26 o25 => ?_)
      have hf26 : f24 (h) = .inr (11, [.int (zI 0), .ref (h + 1), .ref (h + 2), .ref (h + 3), .ref (h + 4), .ref (h + 5), .ref (h + 6), .ref (h + 7), .ref (h + 8), .int (zI (Z 9)), .int (zI (Z 10)), .int (zI 1911), .int (zI (Z 12)), .int (zI (Z 13)), .int (zI (Z 14)), .int (zI (Z 15)), .int (zI (Z 16)), .ref (h + 9), .ref (h + 10), .ref (h + 11), .int (zI (Z 20)), .int (zI (Z 21)), .int (zI (Z 22)), .ref (h + 12)]) := hf26
      refine g_iconst hx hb dX9_merge_58 ?_
      refine lv_istore_n (lv' := [(3, .int (zI 0)), (2, .int (zI (↑pz : Int))), (0, .ref h), (1, .int (zI (↑zn : Int)))]) hx hb dX9_merge_59 rfl hl (by decide) rfl (fun ls hl => ?_)
      have lp60 : ∀ (k : Nat), ∀ (i : Nat) (Xi : Nat → Int) (z15 : Int) (fL : gF) (H : Heap) (locs : List Loc) (ls : Array Slot), (sc zn - i < k) → (i ≤ sc zn) → (sRp (T zn) (-1) ↑(sc pz) (P pz) i = (false, i, Xi)) → (pOk Xi (v0 + 541 * i)) → (∀ j, j < i → sc pz + j < 60) → (∀ q, (q < h ∨ q = h + 2 ∨ (h + 5 ≤ q ∧ q < h + 9) ∨ h + 11 ≤ q) → fL q = f q) → gH g b0 n fL s.heap H locs → (mdO fL h (pu (pu (pu Z 0 0) 11 1911) 15 z15)) → (mpAt g fL h M 1911 Xi) → (scrAt g fL h) → (arI g fL (h + 3) 1800 St) → (arI g fL (h + 4) 6 Mn) → (arI g fL (h + 5) 6 Pr) → lv_has ls 6 [(0, .ref h), (1, .int (zI (↑zn : Int))), (2, .int (zI (↑pz : Int))), (3, .int (zI (↑i : Int)))] → W p l e0 { frames := 9, cells := 0, slots := 0, locals := 274 } s m args below meth c H locs 0 0 (MQ below (va_Qi (po_X9_mergeB g f h Z M St Mn Pr B P T sc pr ex ps z pz v0) (gB g b0 n) (gA b0)) args s 0 0 (gA b0)) (F0 m 60 ls []) := by
        intro k
        induction k with
        | zero =>
          intro i Xi z15 fL H locs ls hk hi hst hod h60 hfr hM hL0 hL1 hL2 hL3 hL4 hL5 hl
          exact absurd hk (Nat.not_lt_zero _)
        | succ k ih60 =>
          intro i Xi z15 fL H locs ls hk hi hst hod h60 hfr hM hL0 hL1 hL2 hL3 hL4 hL5 hl
          refine lv_iload_n hx hb dX9_merge_60 rfl (lv_at hl 3 rfl) ?_
          refine lv_aload_n hx hb dX9_merge_61 rfl (lv_at hl 0 rfl) ?_
          refine g_get (ci := 11) (v := .ref (h + 4)) (C := RX9) (T := TX9) (N := 24) hx hb hts iU_X9 hown hK hM ⟨by omega, by omega⟩ hL0 rfl 4 (by decide) (hts _ u_1148) (fun _ h9 => h9) rfl dX9_merge_62 ?_
          refine lv_iload_n hx hb dX9_merge_65 rfl (lv_at hl 1 rfl) ?_
          refine g_iald hx hb hK hM ⟨by omega, by omega⟩ hL4 (by omega) (by omega) (by decide) dX9_merge_66 ?_
          show W _ _ _ _ _ _ _ _ _ _ _ _ _ _ _ (F0 _ _ _ (.int (zI (Mn zn)) :: _))
          rw [hmnz]
          refine g_icmp_ge (tgt := 131) hx hb dX9_merge_67 (by decide) ⟨by omega, by omega⟩ ⟨by omega, by omega⟩ (fun c67 => ?_) (fun c67 => ?_)
          · skip
            have hii : i = sc zn := by omega
            have hfin := hst
            rw [hii] at hfin
            have hall60 : ∀ j, j < sc zn → sc pz + j < 60 := fun j hj => h60 j (by omega)
            have hsum : sc pz + sc zn ≤ 60 := by
              rcases Nat.eq_zero_or_pos (sc zn) with q | q
              · omega
              · have := hall60 (sc zn - 1) (by omega); omega
            refine lv_aload_n hx hb dX9_merge_131 rfl (lv_at hl 0 rfl) ?_
            refine g_sipush hx hb dX9_merge_132 (by decide) ?_
            refine lv_iload_n hx hb dX9_merge_135 rfl (lv_at hl 2 rfl) ?_
            have hC27 := c_X9_planOf l g b0 n fL pz (by omega)
            refine g_callSi (As := [.int (zI (↑pz : Int))]) (rest := [.int (zI 1911), .ref h]) ⟨hx, hb, hml, hown, hts⟩ hK hM hC27 (cuS (n := 1) hts u_1228 u_1226 u_10 (by decide) u_1227 ⟨Nat.le_of_ble_eq_true rfl, Nat.le_of_ble_eq_true rfl⟩) rfl hl.1 rfl (Nat.le_of_ble_eq_true rfl) dX9_merge_136 ⟨Nat.zero_le _, Nat.zero_le _⟩ (fun r136 f28 H locs hM hp29 => ?_)
            obtain ⟨rfl, rfl⟩ := hp29
            have hC30 := c_X9_copies l g b0 n fL h (pu (pu (pu Z 0 0) 11 1911) 15 z15) (mov M 1911 Xi) 1911 (294 * pz) hL0 hL1 hrg (by omega) (by omega) (by omega)
            refine g_callVv (ci := 11) (C := RX9) (T := TX9) (N := 24) (As := [.int (zI 1911), .int (zI (↑(294 * pz) : Int))]) (rest := []) ⟨hx, hb, hml, hown, hts⟩ hK hM hC30 (cuV (n := 2) hts u_1425 u_1422 u_10 (by decide) u_1424 us_56 ⟨Nat.le_of_ble_eq_true rfl, Nat.le_of_ble_eq_true rfl⟩) ⟨by omega, by omega⟩ hL0 rfl rfl hl.1 rfl (Nat.le_of_ble_eq_true rfl) dX9_merge_139 ⟨Nat.zero_le _, Nat.zero_le _⟩ (fun f31 H locs hM hp32 => ?_)
            obtain ⟨hn33, o34⟩ := hp32
            have hp35 : mpAt g f31 h (mov M 1911 Xi) (294 * pz) Xi := mpAt.cong (show mpAt g f31 h (mov M 1911 Xi) (294 * pz) (fun i => (mov M 1911 Xi) (1911 + i)) from hn33) (fun i hi => (mov_at rfl hi).symm)
            refine lv_aload_n hx hb dX9_merge_142 rfl (lv_at hl 0 rfl) ?_
            have hf36 : f31 (h) = .inr (11, [.int (zI 0), .ref (h + 1), .ref (h + 2), .ref (h + 3), .ref (h + 4), .ref (h + 5), .ref (h + 6), .ref (h + 7), .ref (h + 8), .int (zI (Z 9)), .int (zI (Z 10)), .int (zI 1911), .int (zI (Z 12)), .int (zI (Z 13)), .int (zI (Z 14)), .int (zI z15), .int (zI (Z 16)), .ref (h + 9), .ref (h + 10), .ref (h + 11), .int (zI (Z 20)), .int (zI (Z 21)), .int (zI (Z 22)), .ref (h + 12)]) := (o34 (h) (by omega)).trans hL0
            refine g_get (ci := 11) (v := .ref (h + 4)) (C := RX9) (T := TX9) (N := 24) hx hb hts iU_X9 hown hK hM ⟨by omega, by omega⟩ hf36 rfl 4 (by decide) (hts _ u_1148) (fun _ h9 => h9) rfl dX9_merge_143 ?_
            refine lv_iload_n hx hb dX9_merge_146 rfl (lv_at hl 1 rfl) ?_
            have hf37 := hL4.kept (o34 (h + 4) (by omega))
            refine g_iald hx hb hK hM ⟨by omega, by omega⟩ hf37 (by omega) (by omega) (by decide) dX9_merge_147 ?_
            show W _ _ _ _ _ _ _ _ _ _ _ _ _ _ _ (F0 _ _ _ (.int (zI (Mn zn)) :: _))
            rw [hmnz]
            refine lv_istore_n (lv' := [(3, .int (zI (↑(sc zn) : Int))), (0, .ref h), (1, .int (zI (↑zn : Int))), (2, .int (zI (↑pz : Int)))]) hx hb dX9_merge_148 rfl hl (by decide) rfl (fun ls hl => ?_)
            refine g_iconst hx hb dX9_merge_149 ?_
            refine lv_istore (lv' := [(4, .int (zI 0)), (3, .int (zI (↑(sc zn) : Int))), (0, .ref h), (1, .int (zI (↑zn : Int))), (2, .int (zI (↑pz : Int)))]) hx hb dX9_merge_150 hl (by decide) rfl (fun ls hl => ?_)
            have lp152 : ∀ (k2 : Nat), ∀ (k9 : Nat) (fL : gF) (H : Heap) (locs : List Loc) (ls : Array Slot), (sc zn - k9 < k2) → (k9 ≤ sc zn) → (∀ q, (q < h ∨ q = h + 2 ∨ (h + 5 ≤ q ∧ q < h + 9) ∨ h + 11 ≤ q) → fL q = f q) → gH g b0 n fL s.heap H locs → (mdO fL h (pu (pu (pu Z 0 0) 11 1911) 15 z15)) → (mpAt g fL h (mov M 1911 Xi) (294 * pz) Xi) → (scrAt g fL h) → (arI g fL (h + 3) 1800 (mrgS St (300 * pz) (sc pz) (T zn) k9)) → (arI g fL (h + 4) 6 (pu Mn pz (↑(sc pz) + ↑k9))) → (arI g fL (h + 5) 6 Pr) → lv_has ls 6 [(0, .ref h), (1, .int (zI (↑zn : Int))), (2, .int (zI (↑pz : Int))), (3, .int (zI (↑(sc zn) : Int))), (4, .int (zI (↑k9 : Int)))] → W p l e0 { frames := 9, cells := 0, slots := 0, locals := 274 } s m args below meth c H locs 0 0 (MQ below (va_Qi (po_X9_mergeB g f h Z M St Mn Pr B P T sc pr ex ps z pz v0) (gB g b0 n) (gA b0)) args s 0 0 (gA b0)) (F0 m 152 ls []) := by
              intro k2
              induction k2 with
              | zero =>
                intro k9 fL H locs ls hk hi9 hfr hM hL0 hL1 hL2 hL3 hL4 hL5 hl
                exact absurd hk (Nat.not_lt_zero _)
              | succ k2 ih152 =>
                intro k9 fL H locs ls hk hi9 hfr hM hL0 hL1 hL2 hL3 hL4 hL5 hl
                refine lv_iload hx hb dX9_merge_152 (lv_at hl 4 rfl) ?_
                refine lv_iload_n hx hb dX9_merge_154 rfl (lv_at hl 3 rfl) ?_
                refine g_icmp_ge (tgt := 223) hx hb dX9_merge_155 (by decide) ⟨by omega, by omega⟩ ⟨by omega, by omega⟩ (fun c155 => ?_) (fun c155 => ?_)
                · skip
                  refine lv_aload_n hx hb dX9_merge_223 rfl (lv_at hl 0 rfl) ?_
                  refine g_get (ci := 11) (v := .ref (h + 4)) (C := RX9) (T := TX9) (N := 24) hx hb hts iU_X9 hown hK hM ⟨by omega, by omega⟩ hL0 rfl 4 (by decide) (hts _ u_1148) (fun _ h9 => h9) rfl dX9_merge_224 ?_
                  refine lv_iload_n hx hb dX9_merge_227 rfl (lv_at hl 1 rfl) ?_
                  refine g_iconst hx hb dX9_merge_228 ?_
                  refine g_iast hx hb hK hM ⟨by omega, by omega⟩ hL4 (by omega) (by omega) (by decide) dX9_merge_229 (fun f38 H locs hM ha40 o39 => ?_)
                  refine lv_iload_n hx hb dX9_merge_230 rfl (lv_at hl 3 rfl) ?_
                  have hf41 : f38 (h) = .inr (11, [.int (zI 0), .ref (h + 1), .ref (h + 2), .ref (h + 3), .ref (h + 4), .ref (h + 5), .ref (h + 6), .ref (h + 7), .ref (h + 8), .int (zI (Z 9)), .int (zI (Z 10)), .int (zI 1911), .int (zI (Z 12)), .int (zI (Z 13)), .int (zI (Z 14)), .int (zI z15), .int (zI (Z 16)), .ref (h + 9), .ref (h + 10), .ref (h + 11), .int (zI (Z 20)), .int (zI (Z 21)), .int (zI (Z 22)), .ref (h + 12)]) := (o39 (h) (by omega)).trans hL0
                  have hf42 := hL1.kept (fun q h1 h2 => (o39 (q) (by omega)))
                  have hf43 := hL3.kept (o39 (h + 3) (by omega))
                  have hf44 := hL2.kept (fun q h1 h2 => (o39 (q) (by omega)))
                  refine g_iret hx hb hr hlk hK hM dX9_merge_231 ?_
                  have hk9 : k9 = sc zn := by omega
                  subst hzz
                  refine Or.inr (Or.inr (Or.inr ⟨c10, c24, by show (sRp (T zn) (-1) (↑(sc pz)) (P pz) (sc zn)).1 = false; rw [hfin], rfl, ⟨_, _, _, hf42, hf43, ha40, ?_⟩, ⟨(pu (pu (pu Z 0 0) 11 1911) 15 z15), hf41, (((zKeep.rf.pu (by decide)).pu (by decide)).pu (by decide)), rfl⟩, hf44, (fun q hq => ((o39 (q) (by omega)).trans (hfr (q) (by omega))))⟩))
                  rw [hk9]
                  show mRel _ _ _ Pr B (fu P pz (sRp (T zn) (-1) (↑(sc pz)) (P pz) (sc zn)).2.2) _ _ pr _
                  rw [hfin]
                  exact mRel_merge hR hp2 hp3 hzn6 hp4 hscs hsum (fun i hi => mov_at rfl hi) (fun j hj hd => by rw [mov_n (by omega), mov_n (by omega)])
                · skip
                  have hT0 : mrgS St (300 * pz) (sc pz) (T zn) k9 ((5 * ((60 * zn) + k9))) = T zn (k9 * 5) := by rw [mrgS_n (by have := hall60 k9 (by omega); omega), show (5 * ((60 * zn) + k9)) = 300 * zn + (k9 * 5) by omega]; exact hbz.2.2.1 _ (by omega)
                  have hT1 : mrgS St (300 * pz) (sc pz) (T zn) k9 ((5 * ((60 * zn) + k9)) + 1) = T zn (k9 * 5 + 1) := by rw [mrgS_n (by have := hall60 k9 (by omega); omega), show (5 * ((60 * zn) + k9)) + 1 = 300 * zn + (k9 * 5 + 1) by omega]; exact hbz.2.2.1 _ (by omega)
                  have hT2 : mrgS St (300 * pz) (sc pz) (T zn) k9 ((5 * ((60 * zn) + k9)) + 2) = T zn (k9 * 5 + 2) := by rw [mrgS_n (by have := hall60 k9 (by omega); omega), show (5 * ((60 * zn) + k9)) + 2 = 300 * zn + (k9 * 5 + 2) by omega]; exact hbz.2.2.1 _ (by omega)
                  have hT3 : mrgS St (300 * pz) (sc pz) (T zn) k9 ((5 * ((60 * zn) + k9)) + 3) = T zn (k9 * 5 + 3) := by rw [mrgS_n (by have := hall60 k9 (by omega); omega), show (5 * ((60 * zn) + k9)) + 3 = 300 * zn + (k9 * 5 + 3) by omega]; exact hbz.2.2.1 _ (by omega)
                  have hT4 : mrgS St (300 * pz) (sc pz) (T zn) k9 ((5 * ((60 * zn) + k9)) + 4) = T zn (k9 * 5 + 4) := by rw [mrgS_n (by have := hall60 k9 (by omega); omega), show (5 * ((60 * zn) + k9)) + 4 = 300 * zn + (k9 * 5 + 4) by omega]; exact hbz.2.2.1 _ (by omega)
                  refine g_iconst hx hb dX9_merge_158 ?_
                  refine g_bipush hx hb dX9_merge_159 (by decide) ?_
                  refine lv_iload_n hx hb dX9_merge_161 rfl (lv_at hl 1 rfl) ?_
                  refine g_imul hx hb dX9_merge_162 ?_
                  refine lv_iload hx hb dX9_merge_163 (lv_at hl 4 rfl) ?_
                  refine g_iadd hx hb dX9_merge_165 ?_
                  refine g_imul hx hb dX9_merge_166 ?_
                  refine lv_istore (lv' := [(5, .int (zI (5 * ((60 * (↑zn : Int)) + (↑k9 : Int))))), (0, .ref h), (1, .int (zI (↑zn : Int))), (2, .int (zI (↑pz : Int))), (3, .int (zI (↑(sc zn) : Int))), (4, .int (zI (↑k9 : Int)))]) hx hb dX9_merge_167 hl (by decide) rfl (fun ls hl => ?_)
                  refine lv_aload_n hx hb dX9_merge_169 rfl (lv_at hl 1 rfl) ?_
                  refine lv_iload_n hx hb dX9_merge_170 rfl (lv_at hl 3 rfl) ?_
                  refine lv_aload_n hx hb dX9_merge_171 rfl (lv_at hl 1 rfl) ?_
                  refine g_get (ci := 11) (v := .ref (h + 3)) (C := RX9) (T := TX9) (N := 24) hx hb hts iU_X9 hown hK hM ⟨by omega, by omega⟩ hL0 rfl 3 (by decide) (hts _ u_1147) (fun _ h9 => h9) rfl dX9_merge_172 ?_
                  refine lv_iload hx hb dX9_merge_175 (lv_at hl 0 rfl) ?_
                  refine g_iald hx hb hK hM ⟨by omega, by omega⟩ hL3 (by omega) (by omega) (by decide) dX9_merge_177 ?_
                  show W _ _ _ _ _ _ _ _ _ _ _ _ _ _ _ (F0 _ _ _ (.int (zI ((mrgS St (300 * pz) (sc pz) (T zn) k9) (5 * ((60 * zn) + k9)))) :: _))
                  rw [hT0]
                  refine lv_aload_n hx hb dX9_merge_178 rfl (lv_at hl 1 rfl) ?_
                  refine g_get (ci := 11) (v := .ref (h + 3)) (C := RX9) (T := TX9) (N := 24) hx hb hts iU_X9 hown hK hM ⟨by omega, by omega⟩ hL0 rfl 3 (by decide) (hts _ u_1147) (fun _ h9 => h9) rfl dX9_merge_179 ?_
                  refine lv_iload hx hb dX9_merge_182 (lv_at hl 0 rfl) ?_
                  refine g_iconst hx hb dX9_merge_184 ?_
                  refine g_iadd hx hb dX9_merge_185 ?_
                  refine g_iald hx hb hK hM ⟨by omega, by omega⟩ hL3 (by omega) (by omega) (by decide) dX9_merge_186 ?_
                  show W _ _ _ _ _ _ _ _ _ _ _ _ _ _ _ (F0 _ _ _ (.int (zI ((mrgS St (300 * pz) (sc pz) (T zn) k9) ((5 * ((60 * zn) + k9)) + 1))) :: _))
                  rw [hT1]
                  refine lv_aload_n hx hb dX9_merge_187 rfl (lv_at hl 1 rfl) ?_
                  refine g_get (ci := 11) (v := .ref (h + 3)) (C := RX9) (T := TX9) (N := 24) hx hb hts iU_X9 hown hK hM ⟨by omega, by omega⟩ hL0 rfl 3 (by decide) (hts _ u_1147) (fun _ h9 => h9) rfl dX9_merge_188 ?_
                  refine lv_iload hx hb dX9_merge_191 (lv_at hl 0 rfl) ?_
                  refine g_iconst hx hb dX9_merge_193 ?_
                  refine g_iadd hx hb dX9_merge_194 ?_
                  refine g_iald hx hb hK hM ⟨by omega, by omega⟩ hL3 (by omega) (by omega) (by decide) dX9_merge_195 ?_
                  show W _ _ _ _ _ _ _ _ _ _ _ _ _ _ _ (F0 _ _ _ (.int (zI ((mrgS St (300 * pz) (sc pz) (T zn) k9) ((5 * ((60 * zn) + k9)) + 2))) :: _))
                  rw [hT2]
                  refine lv_aload_n hx hb dX9_merge_196 rfl (lv_at hl 1 rfl) ?_
                  refine g_get (ci := 11) (v := .ref (h + 3)) (C := RX9) (T := TX9) (N := 24) hx hb hts iU_X9 hown hK hM ⟨by omega, by omega⟩ hL0 rfl 3 (by decide) (hts _ u_1147) (fun _ h9 => h9) rfl dX9_merge_197 ?_
                  refine lv_iload hx hb dX9_merge_200 (lv_at hl 0 rfl) ?_
                  refine g_iconst hx hb dX9_merge_202 ?_
                  refine g_iadd hx hb dX9_merge_203 ?_
                  refine g_iald hx hb hK hM ⟨by omega, by omega⟩ hL3 (by omega) (by omega) (by decide) dX9_merge_204 ?_
                  show W _ _ _ _ _ _ _ _ _ _ _ _ _ _ _ (F0 _ _ _ (.int (zI ((mrgS St (300 * pz) (sc pz) (T zn) k9) ((5 * ((60 * zn) + k9)) + 3))) :: _))
                  rw [hT3]
                  refine lv_aload_n hx hb dX9_merge_205 rfl (lv_at hl 1 rfl) ?_
                  refine g_get (ci := 11) (v := .ref (h + 3)) (C := RX9) (T := TX9) (N := 24) hx hb hts iU_X9 hown hK hM ⟨by omega, by omega⟩ hL0 rfl 3 (by decide) (hts _ u_1147) (fun _ h9 => h9) rfl dX9_merge_206 ?_
                  refine lv_iload hx hb dX9_merge_209 (lv_at hl 0 rfl) ?_
                  refine g_iconst hx hb dX9_merge_211 ?_
                  refine g_iadd hx hb dX9_merge_212 ?_
                  refine g_iald hx hb hK hM ⟨by omega, by omega⟩ hL3 (by omega) (by omega) (by decide) dX9_merge_213 ?_
                  show W _ _ _ _ _ _ _ _ _ _ _ _ _ _ _ (F0 _ _ _ (.int (zI ((mrgS St (300 * pz) (sc pz) (T zn) k9) ((5 * ((60 * zn) + k9)) + 4))) :: _))
                  rw [hT4]
                  have hC45 := c_X9_laysStep l g b0 n fL h (pu (pu (pu Z 0 0) 11 1911) 15 z15) (mrgS St (300 * pz) (sc pz) (T zn) k9) (pu Mn pz (↑(sc pz) + ↑k9)) pz (sc pz + k9) (T zn (k9 * 5)) (T zn (k9 * 5 + 1)) (T zn (k9 * 5 + 2)) (T zn (k9 * 5 + 3)) (T zn (k9 * 5 + 4)) hL0 hrg hL3 hL4 hp2 (by rw [pu_s]; omega) (by have := hall60 k9 (by omega); omega)
                  refine g_callVv (ci := 11) (C := RX9) (T := TX9) (N := 24) (As := [.int (zI (↑pz : Int)), .int (zI (T zn (k9 * 5))), .int (zI (T zn (k9 * 5 + 1))), .int (zI (T zn (k9 * 5 + 2))), .int (zI (T zn (k9 * 5 + 3))), .int (zI (T zn (k9 * 5 + 4)))]) (rest := []) ⟨hx, hb, hml, hown, hts⟩ hK hM hC45 (cuV (n := 6) hts u_1348 u_1345 u_10 (by decide) u_1347 us_52 ⟨Nat.le_of_ble_eq_true rfl, Nat.le_of_ble_eq_true rfl⟩) ⟨by omega, by omega⟩ hL0 rfl rfl hl.1 rfl (Nat.le_of_ble_eq_true rfl) dX9_merge_214 ⟨Nat.zero_le _, Nat.zero_le _⟩ (fun f46 H locs hM hp47 => ?_)
                  obtain ⟨hl3_48, hl4_49, o50⟩ := hp47
                  refine lv_iinc (v := zI ((↑k9 : Int) + 1)) (lv' := [(4, .int (zI ((↑k9 : Int) + 1))), (5, .int (zI (5 * ((60 * (↑zn : Int)) + (↑k9 : Int))))), (0, .ref h), (1, .int (zI (↑zn : Int))), (2, .int (zI (↑pz : Int))), (3, .int (zI (↑(sc zn) : Int)))]) hx hb dX9_merge_217 hl (k := 5) rfl (zI_add _ _) (by decide) rfl (fun ls hl => ?_)
                  refine lv_goto (tgt := 152) hx hb dX9_merge_220 (by decide) ?_
                  have hf51 : f46 (h) = .inr (11, [.int (zI 0), .ref (h + 1), .ref (h + 2), .ref (h + 3), .ref (h + 4), .ref (h + 5), .ref (h + 6), .ref (h + 7), .ref (h + 8), .int (zI (Z 9)), .int (zI (Z 10)), .int (zI 1911), .int (zI (Z 12)), .int (zI (Z 13)), .int (zI (Z 14)), .int (zI z15), .int (zI (Z 16)), .ref (h + 9), .ref (h + 10), .ref (h + 11), .int (zI (Z 20)), .int (zI (Z 21)), .int (zI (Z 22)), .ref (h + 12)]) := (o50 (h) (by omega)).trans hL0
                  have hf52 := hL1.kept (fun q h1 h2 => (o50 (q) (by omega)))
                  have hf53 := hL2.kept (fun q h1 h2 => (o50 (q) (by omega)))
                  have hf54 := hL5.kept (o50 (h + 5) (by omega))
                  exact ih152 (k9 + 1) f46 _ _ _ (by omega) (by omega) (fun q hq => ((o50 (q) (by omega)).trans (hfr (q) (by omega)))) hM hf51 hf52 hf53 hl3_48 (hl4_49.cong (fun k hk => by by_cases hz : k = pz; all_goals (simp [pu, hz]; try omega))) hf54 (lv_sub hl [2, 3, 4, 5, 0] rfl)
            have hf55 := hL2.kept (fun q h1 h2 => (o34 (q) (by omega)))
            have hf56 := hL3.kept (o34 (h + 3) (by omega))
            have hf57 := hL5.kept (o34 (h + 5) (by omega))
            exact lp152 ((sc zn + 1)) 0 f31 _ _ _ (by omega) (by omega) (fun q hq => ((o34 (q) (by omega)).trans (hfr (q) (by omega)))) hM hf36 hp35 hf55 hf56 (hf37.cong (fun k hk => by by_cases hz : k = pz; all_goals simp [pu, hz, hmnp])) hf57 (lv_sub hl [2, 3, 4, 1, 0] rfl)
          · skip
            refine lv_aload_n hx hb dX9_merge_70 rfl (lv_at hl 0 rfl) ?_
            refine lv_iload_n hx hb dX9_merge_71 rfl (lv_at hl 1 rfl) ?_
            refine lv_iload_n hx hb dX9_merge_72 rfl (lv_at hl 3 rfl) ?_
            refine lv_aload_n hx hb dX9_merge_73 rfl (lv_at hl 0 rfl) ?_
            refine g_get (ci := 11) (v := .ref (h + 4)) (C := RX9) (T := TX9) (N := 24) hx hb hts iU_X9 hown hK hM ⟨by omega, by omega⟩ hL0 rfl 4 (by decide) (hts _ u_1148) (fun _ h9 => h9) rfl dX9_merge_74 ?_
            refine lv_iload_n hx hb dX9_merge_77 rfl (lv_at hl 2 rfl) ?_
            refine g_iald hx hb hK hM ⟨by omega, by omega⟩ hL4 (by omega) (by omega) (by decide) dX9_merge_78 ?_
            show W _ _ _ _ _ _ _ _ _ _ _ _ _ _ _ (F0 _ _ _ (.int (zI (Mn pz)) :: _))
            rw [hmnp]
            refine lv_iload_n hx hb dX9_merge_79 rfl (lv_at hl 3 rfl) ?_
            refine g_iadd hx hb dX9_merge_80 ?_
            refine g_bipush hx hb dX9_merge_81 (by decide) ?_
            refine g_icmp_lt (tgt := 90) hx hb dX9_merge_83 (by decide) ⟨by omega, by omega⟩ (by decide) (fun c83 => ?_) (fun c83 => ?_)
            · skip
              refine g_iconst hx hb dX9_merge_90 ?_
              have hC58 := c_X9_replays l g b0 n fL h (pu (pu (pu Z 0 0) 11 1911) 15 z15) M 1911 Xi St zn i (T zn) 0 (v0 + 541 * i) hL0 hL1 hrg ((pu_n (by decide)).trans (pu_s _ _ _)) (by omega) hL2 hL3 (by omega) (by omega) (fun j hj => by rw [show 300 * zn + (5 * i + j) = 300 * zn + (i * 5 + j) by omega]; exact hbz.2.2.1 _ (by omega)) (htO zn (by omega) hzn i (by omega)) (Or.inl rfl) hod (by omega) (by omega)
              refine g_callVi (ci := 11) (C := RX9) (T := TX9) (N := 24) (As := [.int (zI (↑zn : Int)), .int (zI (↑i : Int)), .int (zI 0)]) (rest := []) ⟨hx, hb, hml, hown, hts⟩ hK hM hC58 (cuV (n := 3) hts u_1509 u_1506 u_10 (by decide) u_1508 us_64 ⟨Nat.le_of_ble_eq_true rfl, Nat.le_of_ble_eq_true rfl⟩) ⟨by omega, by omega⟩ hL0 rfl rfl hl.1 rfl (Nat.le_of_ble_eq_true rfl) dX9_merge_91 ⟨Nat.zero_le _, Nat.zero_le _⟩ (fun r91 f59 H locs hM hp60 => ?_)
              obtain ⟨hm61, rfl, hn62, hs63, o64⟩ := hp60
              have ho65 : f59 h = .inr (11, [.int (zI 0), .ref (h + 1), .ref (h + 2), .ref (h + 3), .ref (h + 4), .ref (h + 5), .ref (h + 6), .ref (h + 7), .ref (h + 8), .int (zI (Z 9)), .int (zI (Z 10)), .int (zI 1911), .int (zI (Z 12)), .int (zI (Z 13)), .int (zI (Z 14)), .int (zI (dRf Xi ((T zn) (i * 5)) ((T zn) (i * 5 + 1)) ((T zn) (i * 5 + 2)) ((T zn) (i * 5 + 3)) ((T zn) (i * 5 + 4)) 0)), .int (zI (Z 16)), .ref (h + 9), .ref (h + 10), .ref (h + 11), .int (zI (Z 20)), .int (zI (Z 21)), .int (zI (Z 22)), .ref (h + 12)]) := hm61
              refine lv_istore (lv' := [(4, .int (zI (dA Xi ((T zn) (i * 5)) ((T zn) (i * 5 + 1)) ((T zn) (i * 5 + 2)) ((T zn) (i * 5 + 3)) ((T zn) (i * 5 + 4)) 0))), (0, .ref h), (1, .int (zI (↑zn : Int))), (2, .int (zI (↑pz : Int))), (3, .int (zI (↑i : Int)))]) hx hb dX9_merge_94 hl (by decide) rfl (fun ls hl => ?_)
              refine lv_aload_n hx hb dX9_merge_96 rfl (lv_at hl 1 rfl) ?_
              have hrr9 : rI (dRf Xi ((T zn) (i * 5)) ((T zn) (i * 5 + 1)) ((T zn) (i * 5 + 2)) ((T zn) (i * 5 + 3)) ((T zn) (i * 5 + 4)) 0) := by have := @ref_in Xi ((T zn) (i * 5)) ((T zn) (i * 5 + 1)) ((T zn) (i * 5 + 2)) ((T zn) (i * 5 + 3)) ((T zn) (i * 5 + 4)) ((0 : Int) = 1) _; unfold dRf; exact ⟨by omega, by omega⟩
              refine g_get (ci := 11) (v := .int (zI (dRf Xi ((T zn) (i * 5)) ((T zn) (i * 5 + 1)) ((T zn) (i * 5 + 2)) ((T zn) (i * 5 + 3)) ((T zn) (i * 5 + 4)) 0))) (C := RX9) (T := TX9) (N := 24) hx hb hts iU_X9 hown hK hM ⟨by omega, by omega⟩ ho65 rfl 15 (by decide) (hts _ u_1159) (fun _ h9 => h9) rfl dX9_merge_97 ?_
              refine g_if_ne (tgt := 106) hx hb dX9_merge_100 (by decide) hrr9 (fun c100 => ?_) (fun c100 => ?_)
              · skip
                refine lv_aload_n hx hb dX9_merge_106 rfl (lv_at hl 1 rfl) ?_
                refine lv_iload_n hx hb dX9_merge_107 rfl (lv_at hl 4 rfl) ?_
                refine g_put (ci := 11) (v := .int (zI (↑i : Int))) (ty := .int) (C := RX9) (T := TX9) (N := 24) hx hb hts iU_X9 tyX9 tyX9_ok nmX9 hown hK hM ⟨by omega, by omega⟩ ho65 rfl 13 (by decide) (hts _ u_1157) (fun _ h9 => h9) rfl (by decide +kernel) rfl rfl (Nat.le_of_ble_eq_true rfl) dX9_merge_108 (fun f66 H locs hM hf68 o67 => ?_)
                have hf68 : f66 (h) = .inr (11, [.int (zI 0), .ref (h + 1), .ref (h + 2), .ref (h + 3), .ref (h + 4), .ref (h + 5), .ref (h + 6), .ref (h + 7), .ref (h + 8), .int (zI (Z 9)), .int (zI (Z 10)), .int (zI 1911), .int (zI (Z 12)), .int (zI (↑i : Int)), .int (zI (Z 14)), .int (zI (dRf Xi ((T zn) (i * 5)) ((T zn) (i * 5 + 1)) ((T zn) (i * 5 + 2)) ((T zn) (i * 5 + 3)) ((T zn) (i * 5 + 4)) 0)), .int (zI (Z 16)), .ref (h + 9), .ref (h + 10), .ref (h + 11), .int (zI (Z 20)), .int (zI (Z 21)), .int (zI (Z 22)), .ref (h + 12)]) := hf68
                refine lv_aload_n hx hb dX9_merge_111 rfl (lv_at hl 1 rfl) ?_
                refine lv_aload_n hx hb dX9_merge_112 rfl (lv_at hl 1 rfl) ?_
                refine g_get (ci := 11) (v := .int (zI (dRf Xi ((T zn) (i * 5)) ((T zn) (i * 5 + 1)) ((T zn) (i * 5 + 2)) ((T zn) (i * 5 + 3)) ((T zn) (i * 5 + 4)) 0))) (C := RX9) (T := TX9) (N := 24) hx hb hts iU_X9 hown hK hM ⟨by omega, by omega⟩ hf68 rfl 15 (by decide) (hts _ u_1159) (fun _ h9 => h9) rfl dX9_merge_113 ?_
                refine g_put (ci := 11) (v := .int (zI (dRf Xi ((T zn) (i * 5)) ((T zn) (i * 5 + 1)) ((T zn) (i * 5 + 2)) ((T zn) (i * 5 + 3)) ((T zn) (i * 5 + 4)) 0))) (ty := .int) (C := RX9) (T := TX9) (N := 24) hx hb hts iU_X9 tyX9 tyX9_ok nmX9 hown hK hM ⟨by omega, by omega⟩ hf68 rfl 14 (by decide) (hts _ u_1158) (fun _ h9 => h9) rfl (by decide +kernel) rfl rfl (Nat.le_of_ble_eq_true rfl) dX9_merge_116 (fun f69 H locs hM hf71 o70 => ?_)
                have hf71 : f69 (h) = .inr (11, [.int (zI 0), .ref (h + 1), .ref (h + 2), .ref (h + 3), .ref (h + 4), .ref (h + 5), .ref (h + 6), .ref (h + 7), .ref (h + 8), .int (zI (Z 9)), .int (zI (Z 10)), .int (zI 1911), .int (zI (Z 12)), .int (zI (↑i : Int)), .int (zI (dRf Xi ((T zn) (i * 5)) ((T zn) (i * 5 + 1)) ((T zn) (i * 5 + 2)) ((T zn) (i * 5 + 3)) ((T zn) (i * 5 + 4)) 0)), .int (zI (dRf Xi ((T zn) (i * 5)) ((T zn) (i * 5 + 1)) ((T zn) (i * 5 + 2)) ((T zn) (i * 5 + 3)) ((T zn) (i * 5 + 4)) 0)), .int (zI (Z 16)), .ref (h + 9), .ref (h + 10), .ref (h + 11), .int (zI (Z 20)), .int (zI (Z 21)), .int (zI (Z 22)), .ref (h + 12)]) := hf71
                refine lv_aload_n hx hb dX9_merge_119 rfl (lv_at hl 1 rfl) ?_
                refine g_iconst hx hb dX9_merge_120 ?_
                have hC72 := c_X9_fails l g b0 n f69 h (pu (pu (pu (pu (pu Z 0 0) 11 1911) 13 (↑i : Int)) 14 (dRf Xi ((T zn) (i * 5)) ((T zn) (i * 5 + 1)) ((T zn) (i * 5 + 2)) ((T zn) (i * 5 + 3)) ((T zn) (i * 5 + 4)) 0)) 15 (dRf Xi ((T zn) (i * 5)) ((T zn) (i * 5 + 1)) ((T zn) (i * 5 + 2)) ((T zn) (i * 5 + 3)) ((T zn) (i * 5 + 4)) 0)) 3 hf71 hrg
                refine g_callVi (ci := 11) (C := RX9) (T := TX9) (N := 24) (As := [.int (zI 3)]) (rest := []) ⟨hx, hb, hml, hown, hts⟩ hK hM hC72 (cuV (n := 1) hts u_1412 u_1409 u_10 (by decide) u_1411 us_55 ⟨Nat.le_of_ble_eq_true rfl, Nat.le_of_ble_eq_true rfl⟩) ⟨by omega, by omega⟩ hf71 rfl rfl hl.1 rfl (Nat.le_of_ble_eq_true rfl) dX9_merge_121 ⟨Nat.zero_le _, Nat.zero_le _⟩ (fun r121 f73 H locs hM hp74 => ?_)
                obtain ⟨rfl, hm75, o76⟩ := hp74
                have ho77 : f73 h = .inr (11, [.int (zI 3), .ref (h + 1), .ref (h + 2), .ref (h + 3), .ref (h + 4), .ref (h + 5), .ref (h + 6), .ref (h + 7), .ref (h + 8), .int (zI (Z 9)), .int (zI (Z 10)), .int (zI 1911), .int (zI (Z 12)), .int (zI (↑i : Int)), .int (zI (dRf Xi ((T zn) (i * 5)) ((T zn) (i * 5 + 1)) ((T zn) (i * 5 + 2)) ((T zn) (i * 5 + 3)) ((T zn) (i * 5 + 4)) 0)), .int (zI (dRf Xi ((T zn) (i * 5)) ((T zn) (i * 5 + 1)) ((T zn) (i * 5 + 2)) ((T zn) (i * 5 + 3)) ((T zn) (i * 5 + 4)) 0)), .int (zI (Z 16)), .ref (h + 9), .ref (h + 10), .ref (h + 11), .int (zI (Z 20)), .int (zI (Z 21)), .int (zI (Z 22)), .ref (h + 12)]) := hm75
                have hf78 := hn62.kept (fun q h1 h2 => ((o76 (q) (by omega)).trans ((o70 (q) (by omega)).trans (o67 (q) (by omega)))))
                have hf79 := hL3.kept ((o76 (h + 3) (by omega)).trans ((o70 (h + 3) (by omega)).trans ((o67 (h + 3) (by omega)).trans (o64 (h + 3) (by omega)))))
                have hf80 := hL4.kept ((o76 (h + 4) (by omega)).trans ((o70 (h + 4) (by omega)).trans ((o67 (h + 4) (by omega)).trans (o64 (h + 4) (by omega)))))
                have hf81 := hs63.kept (fun q h1 h2 => ((o76 (q) (by omega)).trans ((o70 (q) (by omega)).trans (o67 (q) (by omega)))))
                refine g_iret hx hb hr hlk hK hM dX9_merge_124 ?_
                subst hzz
                have hno := sRp_no (N := sc zn) (fl := 0) hst (by omega) ⟨fun hh => absurd hh (by decide), fun hh => absurd hh (by omega)⟩ c100 (by omega)
                refine Or.inr (Or.inr (Or.inl ⟨c10, c24, by show (sRp (T zn) (-1) (↑(sc pz)) (P pz) (sc zn)).1 = true; rw [hno.1], ⟨_, hf78, fun j hj => mov_n (by omega)⟩, hf79, hf80, ⟨(pu (pu (pu (pu (pu Z 0 3) 11 1911) 13 (↑i : Int)) 14 (dRf Xi ((T zn) (i * 5)) ((T zn) (i * 5 + 1)) ((T zn) (i * 5 + 2)) ((T zn) (i * 5 + 3)) ((T zn) (i * 5 + 4)) 0)) 15 (dRf Xi ((T zn) (i * 5)) ((T zn) (i * 5 + 1)) ((T zn) (i * 5 + 2)) ((T zn) (i * 5 + 3)) ((T zn) (i * 5 + 4)) 0)), ho77, fun k a1 a2 a3 a4 a5 => by rw [pu_n a3, pu_n a5, pu_n a4, pu_n a2, pu_n a1], rfl, ?_, ?_⟩, hf81, (fun q hq => ((o76 (q) (by omega)).trans ((o70 (q) (by omega)).trans ((o67 (q) (by omega)).trans ((o64 (q) (by omega)).trans (hfr (q) (by omega)))))))⟩))
                · show (i : Int) = ↑(sRp (T zn) (-1) (↑(sc pz)) (P pz) (sc zn)).2.1
                  rw [hno.1]
                · show _ = sRef (sRp (T zn) (-1) (↑(sc pz)) (P pz) (sc zn)).2.2 (T zn ((sRp (T zn) (-1) (↑(sc pz)) (P pz) (sc zn)).2.1 * 5)) (T zn ((sRp (T zn) (-1) (↑(sc pz)) (P pz) (sc zn)).2.1 * 5 + 1)) (T zn ((sRp (T zn) (-1) (↑(sc pz)) (P pz) (sc zn)).2.1 * 5 + 2)) (T zn ((sRp (T zn) (-1) (↑(sc pz)) (P pz) (sc zn)).2.1 * 5 + 3)) (T zn ((sRp (T zn) (-1) (↑(sc pz)) (P pz) (sc zn)).2.1 * 5 + 4)) (60 ≤ (↑(sc pz) : Int) + ↑(sRp (T zn) (-1) (↑(sc pz)) (P pz) (sc zn)).2.1)
                  rw [hno.1]
                  exact hno.2
              · skip
                refine lv_goto (tgt := 125) hx hb dX9_merge_103 (by decide) ?_
                refine lv_iinc (v := zI ((↑i : Int) + 1)) (lv' := [(3, .int (zI ((↑i : Int) + 1))), (4, .int (zI (dA Xi ((T zn) (i * 5)) ((T zn) (i * 5 + 1)) ((T zn) (i * 5 + 2)) ((T zn) (i * 5 + 3)) ((T zn) (i * 5 + 4)) 0))), (0, .ref h), (1, .int (zI (↑zn : Int))), (2, .int (zI (↑pz : Int)))]) hx hb dX9_merge_125 hl (k := 4) rfl (zI_add _ _) (by decide) rfl (fun ls hl => ?_)
                refine lv_goto (tgt := 60) hx hb dX9_merge_128 (by decide) ?_
                have hgo := sRp_go (fl := 0) hst (by omega) ⟨fun hh => absurd hh (by decide), fun hh => absurd hh (by omega)⟩ c100
                have hf82 := hL3.kept (o64 (h + 3) (by omega))
                have hf83 := hL4.kept (o64 (h + 4) (by omega))
                have hf84 := hL5.kept (o64 (h + 5) (by omega))
                exact ih60 (i + 1) (dP Xi ((T zn) (i * 5)) ((T zn) (i * 5 + 1)) ((T zn) (i * 5 + 2)) ((T zn) (i * 5 + 3)) ((T zn) (i * 5 + 4)) 0) (dRf Xi ((T zn) (i * 5)) ((T zn) (i * 5 + 1)) ((T zn) (i * 5 + 2)) ((T zn) (i * 5 + 3)) ((T zn) (i * 5 + 4)) 0) f59 _ _ _ (by omega) (by omega) hgo.1 (by have q9 := sRp_ok (T := T zn) (sk := -1) (bf := ↑(sc pz)) (hokk pz (by omega)) hv1 (htO zn (by omega) hzn) (n := i + 1) (by omega) (by omega); rw [hgo.1] at q9; exact q9) (fun j hj => (Nat.lt_or_ge j i).elim (h60 j) (fun q => by rw [show j = i by omega]; have := hgo.2; omega)) (fun q hq => ((o64 (q) (by omega)).trans (hfr (q) (by omega)))) hM ho65 hn62 hs63 hf82 hf83 hf84 (lv_sub hl [2, 3, 4, 0] rfl)
            · skip
              refine g_iconst hx hb dX9_merge_86 ?_
              refine lv_goto (tgt := 91) hx hb dX9_merge_87 (by decide) ?_
              have hC85 := c_X9_replays l g b0 n fL h (pu (pu (pu Z 0 0) 11 1911) 15 z15) M 1911 Xi St zn i (T zn) 1 (v0 + 541 * i) hL0 hL1 hrg ((pu_n (by decide)).trans (pu_s _ _ _)) (by omega) hL2 hL3 (by omega) (by omega) (fun j hj => by rw [show 300 * zn + (5 * i + j) = 300 * zn + (i * 5 + j) by omega]; exact hbz.2.2.1 _ (by omega)) (htO zn (by omega) hzn i (by omega)) (Or.inr rfl) hod (by omega) (by omega)
              refine g_callVi (ci := 11) (C := RX9) (T := TX9) (N := 24) (As := [.int (zI (↑zn : Int)), .int (zI (↑i : Int)), .int (zI 1)]) (rest := []) ⟨hx, hb, hml, hown, hts⟩ hK hM hC85 (cuV (n := 3) hts u_1509 u_1506 u_10 (by decide) u_1508 us_64 ⟨Nat.le_of_ble_eq_true rfl, Nat.le_of_ble_eq_true rfl⟩) ⟨by omega, by omega⟩ hL0 rfl rfl hl.1 rfl (Nat.le_of_ble_eq_true rfl) dX9_merge_91 ⟨Nat.zero_le _, Nat.zero_le _⟩ (fun r91 f86 H locs hM hp87 => ?_)
              obtain ⟨hm88, rfl, hn89, hs90, o91⟩ := hp87
              have ho92 : f86 h = .inr (11, [.int (zI 0), .ref (h + 1), .ref (h + 2), .ref (h + 3), .ref (h + 4), .ref (h + 5), .ref (h + 6), .ref (h + 7), .ref (h + 8), .int (zI (Z 9)), .int (zI (Z 10)), .int (zI 1911), .int (zI (Z 12)), .int (zI (Z 13)), .int (zI (Z 14)), .int (zI (dRf Xi ((T zn) (i * 5)) ((T zn) (i * 5 + 1)) ((T zn) (i * 5 + 2)) ((T zn) (i * 5 + 3)) ((T zn) (i * 5 + 4)) 1)), .int (zI (Z 16)), .ref (h + 9), .ref (h + 10), .ref (h + 11), .int (zI (Z 20)), .int (zI (Z 21)), .int (zI (Z 22)), .ref (h + 12)]) := hm88
              refine lv_istore (lv' := [(4, .int (zI (dA Xi ((T zn) (i * 5)) ((T zn) (i * 5 + 1)) ((T zn) (i * 5 + 2)) ((T zn) (i * 5 + 3)) ((T zn) (i * 5 + 4)) 1))), (0, .ref h), (1, .int (zI (↑zn : Int))), (2, .int (zI (↑pz : Int))), (3, .int (zI (↑i : Int)))]) hx hb dX9_merge_94 hl (by decide) rfl (fun ls hl => ?_)
              refine lv_aload_n hx hb dX9_merge_96 rfl (lv_at hl 1 rfl) ?_
              have hrr9 : rI (dRf Xi ((T zn) (i * 5)) ((T zn) (i * 5 + 1)) ((T zn) (i * 5 + 2)) ((T zn) (i * 5 + 3)) ((T zn) (i * 5 + 4)) 1) := by have := @ref_in Xi ((T zn) (i * 5)) ((T zn) (i * 5 + 1)) ((T zn) (i * 5 + 2)) ((T zn) (i * 5 + 3)) ((T zn) (i * 5 + 4)) ((1 : Int) = 1) _; unfold dRf; exact ⟨by omega, by omega⟩
              refine g_get (ci := 11) (v := .int (zI (dRf Xi ((T zn) (i * 5)) ((T zn) (i * 5 + 1)) ((T zn) (i * 5 + 2)) ((T zn) (i * 5 + 3)) ((T zn) (i * 5 + 4)) 1))) (C := RX9) (T := TX9) (N := 24) hx hb hts iU_X9 hown hK hM ⟨by omega, by omega⟩ ho92 rfl 15 (by decide) (hts _ u_1159) (fun _ h9 => h9) rfl dX9_merge_97 ?_
              refine g_if_ne (tgt := 106) hx hb dX9_merge_100 (by decide) hrr9 (fun c100 => ?_) (fun c100 => ?_)
              · skip
                refine lv_aload_n hx hb dX9_merge_106 rfl (lv_at hl 1 rfl) ?_
                refine lv_iload_n hx hb dX9_merge_107 rfl (lv_at hl 4 rfl) ?_
                refine g_put (ci := 11) (v := .int (zI (↑i : Int))) (ty := .int) (C := RX9) (T := TX9) (N := 24) hx hb hts iU_X9 tyX9 tyX9_ok nmX9 hown hK hM ⟨by omega, by omega⟩ ho92 rfl 13 (by decide) (hts _ u_1157) (fun _ h9 => h9) rfl (by decide +kernel) rfl rfl (Nat.le_of_ble_eq_true rfl) dX9_merge_108 (fun f93 H locs hM hf95 o94 => ?_)
                have hf95 : f93 (h) = .inr (11, [.int (zI 0), .ref (h + 1), .ref (h + 2), .ref (h + 3), .ref (h + 4), .ref (h + 5), .ref (h + 6), .ref (h + 7), .ref (h + 8), .int (zI (Z 9)), .int (zI (Z 10)), .int (zI 1911), .int (zI (Z 12)), .int (zI (↑i : Int)), .int (zI (Z 14)), .int (zI (dRf Xi ((T zn) (i * 5)) ((T zn) (i * 5 + 1)) ((T zn) (i * 5 + 2)) ((T zn) (i * 5 + 3)) ((T zn) (i * 5 + 4)) 1)), .int (zI (Z 16)), .ref (h + 9), .ref (h + 10), .ref (h + 11), .int (zI (Z 20)), .int (zI (Z 21)), .int (zI (Z 22)), .ref (h + 12)]) := hf95
                refine lv_aload_n hx hb dX9_merge_111 rfl (lv_at hl 1 rfl) ?_
                refine lv_aload_n hx hb dX9_merge_112 rfl (lv_at hl 1 rfl) ?_
                refine g_get (ci := 11) (v := .int (zI (dRf Xi ((T zn) (i * 5)) ((T zn) (i * 5 + 1)) ((T zn) (i * 5 + 2)) ((T zn) (i * 5 + 3)) ((T zn) (i * 5 + 4)) 1))) (C := RX9) (T := TX9) (N := 24) hx hb hts iU_X9 hown hK hM ⟨by omega, by omega⟩ hf95 rfl 15 (by decide) (hts _ u_1159) (fun _ h9 => h9) rfl dX9_merge_113 ?_
                refine g_put (ci := 11) (v := .int (zI (dRf Xi ((T zn) (i * 5)) ((T zn) (i * 5 + 1)) ((T zn) (i * 5 + 2)) ((T zn) (i * 5 + 3)) ((T zn) (i * 5 + 4)) 1))) (ty := .int) (C := RX9) (T := TX9) (N := 24) hx hb hts iU_X9 tyX9 tyX9_ok nmX9 hown hK hM ⟨by omega, by omega⟩ hf95 rfl 14 (by decide) (hts _ u_1158) (fun _ h9 => h9) rfl (by decide +kernel) rfl rfl (Nat.le_of_ble_eq_true rfl) dX9_merge_116 (fun f96 H locs hM hf98 o97 => ?_)
                have hf98 : f96 (h) = .inr (11, [.int (zI 0), .ref (h + 1), .ref (h + 2), .ref (h + 3), .ref (h + 4), .ref (h + 5), .ref (h + 6), .ref (h + 7), .ref (h + 8), .int (zI (Z 9)), .int (zI (Z 10)), .int (zI 1911), .int (zI (Z 12)), .int (zI (↑i : Int)), .int (zI (dRf Xi ((T zn) (i * 5)) ((T zn) (i * 5 + 1)) ((T zn) (i * 5 + 2)) ((T zn) (i * 5 + 3)) ((T zn) (i * 5 + 4)) 1)), .int (zI (dRf Xi ((T zn) (i * 5)) ((T zn) (i * 5 + 1)) ((T zn) (i * 5 + 2)) ((T zn) (i * 5 + 3)) ((T zn) (i * 5 + 4)) 1)), .int (zI (Z 16)), .ref (h + 9), .ref (h + 10), .ref (h + 11), .int (zI (Z 20)), .int (zI (Z 21)), .int (zI (Z 22)), .ref (h + 12)]) := hf98
                refine lv_aload_n hx hb dX9_merge_119 rfl (lv_at hl 1 rfl) ?_
                refine g_iconst hx hb dX9_merge_120 ?_
                have hC99 := c_X9_fails l g b0 n f96 h (pu (pu (pu (pu (pu Z 0 0) 11 1911) 13 (↑i : Int)) 14 (dRf Xi ((T zn) (i * 5)) ((T zn) (i * 5 + 1)) ((T zn) (i * 5 + 2)) ((T zn) (i * 5 + 3)) ((T zn) (i * 5 + 4)) 1)) 15 (dRf Xi ((T zn) (i * 5)) ((T zn) (i * 5 + 1)) ((T zn) (i * 5 + 2)) ((T zn) (i * 5 + 3)) ((T zn) (i * 5 + 4)) 1)) 3 hf98 hrg
                refine g_callVi (ci := 11) (C := RX9) (T := TX9) (N := 24) (As := [.int (zI 3)]) (rest := []) ⟨hx, hb, hml, hown, hts⟩ hK hM hC99 (cuV (n := 1) hts u_1412 u_1409 u_10 (by decide) u_1411 us_55 ⟨Nat.le_of_ble_eq_true rfl, Nat.le_of_ble_eq_true rfl⟩) ⟨by omega, by omega⟩ hf98 rfl rfl hl.1 rfl (Nat.le_of_ble_eq_true rfl) dX9_merge_121 ⟨Nat.zero_le _, Nat.zero_le _⟩ (fun r121 f100 H locs hM hp101 => ?_)
                obtain ⟨rfl, hm102, o103⟩ := hp101
                have ho104 : f100 h = .inr (11, [.int (zI 3), .ref (h + 1), .ref (h + 2), .ref (h + 3), .ref (h + 4), .ref (h + 5), .ref (h + 6), .ref (h + 7), .ref (h + 8), .int (zI (Z 9)), .int (zI (Z 10)), .int (zI 1911), .int (zI (Z 12)), .int (zI (↑i : Int)), .int (zI (dRf Xi ((T zn) (i * 5)) ((T zn) (i * 5 + 1)) ((T zn) (i * 5 + 2)) ((T zn) (i * 5 + 3)) ((T zn) (i * 5 + 4)) 1)), .int (zI (dRf Xi ((T zn) (i * 5)) ((T zn) (i * 5 + 1)) ((T zn) (i * 5 + 2)) ((T zn) (i * 5 + 3)) ((T zn) (i * 5 + 4)) 1)), .int (zI (Z 16)), .ref (h + 9), .ref (h + 10), .ref (h + 11), .int (zI (Z 20)), .int (zI (Z 21)), .int (zI (Z 22)), .ref (h + 12)]) := hm102
                have hf105 := hn89.kept (fun q h1 h2 => ((o103 (q) (by omega)).trans ((o97 (q) (by omega)).trans (o94 (q) (by omega)))))
                have hf106 := hL3.kept ((o103 (h + 3) (by omega)).trans ((o97 (h + 3) (by omega)).trans ((o94 (h + 3) (by omega)).trans (o91 (h + 3) (by omega)))))
                have hf107 := hL4.kept ((o103 (h + 4) (by omega)).trans ((o97 (h + 4) (by omega)).trans ((o94 (h + 4) (by omega)).trans (o91 (h + 4) (by omega)))))
                have hf108 := hs90.kept (fun q h1 h2 => ((o103 (q) (by omega)).trans ((o97 (q) (by omega)).trans (o94 (q) (by omega)))))
                refine g_iret hx hb hr hlk hK hM dX9_merge_124 ?_
                subst hzz
                have hno := sRp_no (N := sc zn) (fl := 1) hst (by omega) ⟨fun _ => by omega, fun _ => rfl⟩ c100 (by omega)
                refine Or.inr (Or.inr (Or.inl ⟨c10, c24, by show (sRp (T zn) (-1) (↑(sc pz)) (P pz) (sc zn)).1 = true; rw [hno.1], ⟨_, hf105, fun j hj => mov_n (by omega)⟩, hf106, hf107, ⟨(pu (pu (pu (pu (pu Z 0 3) 11 1911) 13 (↑i : Int)) 14 (dRf Xi ((T zn) (i * 5)) ((T zn) (i * 5 + 1)) ((T zn) (i * 5 + 2)) ((T zn) (i * 5 + 3)) ((T zn) (i * 5 + 4)) 1)) 15 (dRf Xi ((T zn) (i * 5)) ((T zn) (i * 5 + 1)) ((T zn) (i * 5 + 2)) ((T zn) (i * 5 + 3)) ((T zn) (i * 5 + 4)) 1)), ho104, fun k a1 a2 a3 a4 a5 => by rw [pu_n a3, pu_n a5, pu_n a4, pu_n a2, pu_n a1], rfl, ?_, ?_⟩, hf108, (fun q hq => ((o103 (q) (by omega)).trans ((o97 (q) (by omega)).trans ((o94 (q) (by omega)).trans ((o91 (q) (by omega)).trans (hfr (q) (by omega)))))))⟩))
                · show (i : Int) = ↑(sRp (T zn) (-1) (↑(sc pz)) (P pz) (sc zn)).2.1
                  rw [hno.1]
                · show _ = sRef (sRp (T zn) (-1) (↑(sc pz)) (P pz) (sc zn)).2.2 (T zn ((sRp (T zn) (-1) (↑(sc pz)) (P pz) (sc zn)).2.1 * 5)) (T zn ((sRp (T zn) (-1) (↑(sc pz)) (P pz) (sc zn)).2.1 * 5 + 1)) (T zn ((sRp (T zn) (-1) (↑(sc pz)) (P pz) (sc zn)).2.1 * 5 + 2)) (T zn ((sRp (T zn) (-1) (↑(sc pz)) (P pz) (sc zn)).2.1 * 5 + 3)) (T zn ((sRp (T zn) (-1) (↑(sc pz)) (P pz) (sc zn)).2.1 * 5 + 4)) (60 ≤ (↑(sc pz) : Int) + ↑(sRp (T zn) (-1) (↑(sc pz)) (P pz) (sc zn)).2.1)
                  rw [hno.1]
                  exact hno.2
              · skip
                refine lv_goto (tgt := 125) hx hb dX9_merge_103 (by decide) ?_
                refine lv_iinc (v := zI ((↑i : Int) + 1)) (lv' := [(3, .int (zI ((↑i : Int) + 1))), (4, .int (zI (dA Xi ((T zn) (i * 5)) ((T zn) (i * 5 + 1)) ((T zn) (i * 5 + 2)) ((T zn) (i * 5 + 3)) ((T zn) (i * 5 + 4)) 1))), (0, .ref h), (1, .int (zI (↑zn : Int))), (2, .int (zI (↑pz : Int)))]) hx hb dX9_merge_125 hl (k := 4) rfl (zI_add _ _) (by decide) rfl (fun ls hl => ?_)
                refine lv_goto (tgt := 60) hx hb dX9_merge_128 (by decide) ?_
                have hgo := sRp_go (fl := 1) hst (by omega) ⟨fun _ => by omega, fun _ => rfl⟩ c100
                have hf109 := hL3.kept (o91 (h + 3) (by omega))
                have hf110 := hL4.kept (o91 (h + 4) (by omega))
                have hf111 := hL5.kept (o91 (h + 5) (by omega))
                exact ih60 (i + 1) (dP Xi ((T zn) (i * 5)) ((T zn) (i * 5 + 1)) ((T zn) (i * 5 + 2)) ((T zn) (i * 5 + 3)) ((T zn) (i * 5 + 4)) 1) (dRf Xi ((T zn) (i * 5)) ((T zn) (i * 5 + 1)) ((T zn) (i * 5 + 2)) ((T zn) (i * 5 + 3)) ((T zn) (i * 5 + 4)) 1) f86 _ _ _ (by omega) (by omega) hgo.1 (by have q9 := sRp_ok (T := T zn) (sk := -1) (bf := ↑(sc pz)) (hokk pz (by omega)) hv1 (htO zn (by omega) hzn) (n := i + 1) (by omega) (by omega); rw [hgo.1] at q9; exact q9) (fun j hj => (Nat.lt_or_ge j i).elim (h60 j) (fun q => by rw [show j = i by omega]; have := hgo.2; omega)) (fun q hq => ((o91 (q) (by omega)).trans (hfr (q) (by omega)))) hM ho92 hn89 hs90 hf109 hf110 hf111 (lv_sub hl [2, 3, 4, 0] rfl)
      have hf112 := hp22.kept (fun q h1 h2 => (o25 (q) (by omega)))
      have hf113 := hsc.kept (fun q h1 h2 => ((o25 (q) (by omega)).trans ((o21 (q) (by omega)).trans (o2 (q) (by omega)))))
      have hf114 := hf9.kept ((o25 (h + 3) (by omega)).trans (o21 (h + 3) (by omega)))
      have hf115 := hf4.kept ((o25 (h + 4) (by omega)).trans (o21 (h + 4) (by omega)))
      have hf116 := hf10.kept ((o25 (h + 5) (by omega)).trans (o21 (h + 5) (by omega)))
      exact lp60 ((sc zn + 1)) 0 (P pz) (Z 15) f24 _ _ _ (by omega) (by omega) rfl (pOk_mono (hokk pz (by omega)) (by omega)) (fun j hj => absurd hj (Nat.not_lt_zero _)) (fun q hq => ((o25 (q) (by omega)).trans ((o21 (q) (by omega)).trans (o2 (q) (by omega))))) hM hf26 hf112 hf113 hf114 hf115 hf116 (lv_sub hl [2, 3, 1, 0] rfl)
    · skip
      refine lv_aload_n hx hb dX9_merge_27 rfl (lv_at hl 0 rfl) ?_
      refine g_iconst hx hb dX9_merge_28 ?_
      have hC117 := c_X9_fails l g b0 n f1 h (pu Z 0 0) 2 hf3 hrg
      refine g_callVi (ci := 11) (C := RX9) (T := TX9) (N := 24) (As := [.int (zI 2)]) (rest := []) ⟨hx, hb, hml, hown, hts⟩ hK hM hC117 (cuV (n := 1) hts u_1412 u_1409 u_10 (by decide) u_1411 us_55 ⟨Nat.le_of_ble_eq_true rfl, Nat.le_of_ble_eq_true rfl⟩) ⟨by omega, by omega⟩ hf3 rfl rfl hl.1 rfl (Nat.le_of_ble_eq_true rfl) dX9_merge_29 ⟨Nat.zero_le _, Nat.zero_le _⟩ (fun r29 f118 H locs hM hp119 => ?_)
      obtain ⟨rfl, hm120, o121⟩ := hp119
      have ho122 : f118 h = .inr (11, [.int (zI 2), .ref (h + 1), .ref (h + 2), .ref (h + 3), .ref (h + 4), .ref (h + 5), .ref (h + 6), .ref (h + 7), .ref (h + 8), .int (zI (Z 9)), .int (zI (Z 10)), .int (zI (Z 11)), .int (zI (Z 12)), .int (zI (Z 13)), .int (zI (Z 14)), .int (zI (Z 15)), .int (zI (Z 16)), .ref (h + 9), .ref (h + 10), .ref (h + 11), .int (zI (Z 20)), .int (zI (Z 21)), .int (zI (Z 22)), .ref (h + 12)]) := hm120
      refine g_iret hx hb hr hlk hK hM dX9_merge_32 ?_
      exact Or.inr (Or.inl ⟨c10, c24, ho122, (fun q hq => ((o121 (q) (by omega)).trans (o2 (q) (by omega))))⟩)
  · skip
    refine lv_aload_n hx hb dX9_merge_13 rfl (lv_at hl 0 rfl) ?_
    refine g_iconst hx hb dX9_merge_14 ?_
    have hC123 := c_X9_fails l g b0 n f1 h (pu Z 0 0) 1 hf3 hrg
    refine g_callVi (ci := 11) (C := RX9) (T := TX9) (N := 24) (As := [.int (zI 1)]) (rest := []) ⟨hx, hb, hml, hown, hts⟩ hK hM hC123 (cuV (n := 1) hts u_1412 u_1409 u_10 (by decide) u_1411 us_55 ⟨Nat.le_of_ble_eq_true rfl, Nat.le_of_ble_eq_true rfl⟩) ⟨by omega, by omega⟩ hf3 rfl rfl hl.1 rfl (Nat.le_of_ble_eq_true rfl) dX9_merge_15 ⟨Nat.zero_le _, Nat.zero_le _⟩ (fun r15 f124 H locs hM hp125 => ?_)
    obtain ⟨rfl, hm126, o127⟩ := hp125
    have ho128 : f124 h = .inr (11, [.int (zI 1), .ref (h + 1), .ref (h + 2), .ref (h + 3), .ref (h + 4), .ref (h + 5), .ref (h + 6), .ref (h + 7), .ref (h + 8), .int (zI (Z 9)), .int (zI (Z 10)), .int (zI (Z 11)), .int (zI (Z 12)), .int (zI (Z 13)), .int (zI (Z 14)), .int (zI (Z 15)), .int (zI (Z 16)), .ref (h + 9), .ref (h + 10), .ref (h + 11), .int (zI (Z 20)), .int (zI (Z 21)), .int (zI (Z 22)), .ref (h + 12)]) := hm126
    refine g_iret hx hb hr hlk hK hM dX9_merge_18 ?_
    exact Or.inl ⟨c10, ho128, (fun q hq => ((o127 (q) (by omega)).trans (o2 (q) (by omega))))⟩
