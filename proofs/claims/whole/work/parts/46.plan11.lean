def po_X5_refusalOf (g : gE) (f : gF) (h : Nat) (P : Nat → Int) (kd a b x y : Int) (fl9 : Bool) (v0 : Int) : Int32 → gF → Prop := fun r f1 => r = zI (sRef P kd a b x y (fl9 = true)) ∧ f = f1
set_option maxRecDepth 100000 in
set_option maxHeartbeats 1000000 in
/-- refusalOf -/
theorem c_X5_refusalOf (l : Launch) (g : gE) (b0 n : Nat) (f : gF) (h : Nat) (P : Nat → Int) (kd a b x y : Int) (fl9 : Bool) (v0 : Int) (hE : planAt g f h P) (hrg : b0 ≤ h ∧ h + 23 ≤ b0 + n) (hrk : rI kd) (hra : rI a) (hrb : rI b) (hrx : rI x) (hry : rI y) (hok : pOk P v0) (hv0 : v0 ≤ 800000000) : cI l yX5_refusalOf cX5_refusalOf 7 (some .int) 3 69 [.ref h, .int (zI kd), .int (zI a), .int (zI b), .int (zI x), .int (zI y), .int (bI (fl9 = true))] g b0 n f (po_X5_refusalOf g f h P kd a b x y fl9 v0) := by
  refine gs_i (cc := cX5_refusalOf) (maxL := 7) (ret := (some .int)) (by decide) (Nat.le_of_ble_eq_true rfl) ?_
  intro p e0 s m args below meth c ls hx hb hr hml hown hts hlk hK hM hl
  have hl : lv_has ls 7 [(0, .ref h), (1, .int (zI kd)), (2, .int (zI a)), (3, .int (zI b)), (4, .int (zI x)), (5, .int (zI y)), (6, .int (bI (fl9 = true)))] := hl
  refine lv_aload_n hx hb dX5_refusalOf_0 rfl (lv_at hl 0 rfl) ?_
  refine lv_iload_n hx hb dX5_refusalOf_1 rfl (lv_at hl 1 rfl) ?_
  refine lv_iload_n hx hb dX5_refusalOf_2 rfl (lv_at hl 2 rfl) ?_
  refine lv_iload_n hx hb dX5_refusalOf_3 rfl (lv_at hl 3 rfl) ?_
  have hC1 := c_X5_namesParts l g b0 n f h P kd a b hE hrg hok.1.1 hok.2.1.1 hok.2.2.1.1 hok.2.2.2.2.2.2.2.1 hrk hra hrb
  obtain ⟨ho4, ho5, ho6, ho7, ho8⟩ := id hE
  refine g_callVi (ci := 7) (C := RX5) (T := TX5) (N := 11) (As := [.int (zI kd), .int (zI a), .int (zI b)]) (rest := []) ⟨hx, hb, hml, hown, hts⟩ hK hM hC1 (cuV (n := 3) hts u_378 u_375 u_4 (by decide) u_377 us_11 ⟨Nat.le_of_ble_eq_true rfl, Nat.le_of_ble_eq_true rfl⟩) ⟨by omega, by omega⟩ ho4 rfl rfl hl.1 rfl (Nat.le_of_ble_eq_true rfl) dX5_refusalOf_4 ⟨Nat.zero_le _, Nat.zero_le _⟩ (fun r4 f2 H locs hM hp3 => ?_)
  obtain ⟨rfl, rfl⟩ := hp3
  refine g_ifb_ne (tgt := 12) hx hb dX5_refusalOf_7 (by decide) (fun c7 => ?_) (fun c7 => ?_)
  · skip
    have hnmo : nmO P kd a b := c7
    clear c7
    refine lv_aload_n hx hb dX5_refusalOf_12 rfl (lv_at hl 0 rfl) ?_
    refine lv_iload_n hx hb dX5_refusalOf_13 rfl (lv_at hl 1 rfl) ?_
    refine lv_iload_n hx hb dX5_refusalOf_14 rfl (lv_at hl 2 rfl) ?_
    refine lv_iload_n hx hb dX5_refusalOf_15 rfl (lv_at hl 3 rfl) ?_
    refine lv_iload hx hb dX5_refusalOf_16 (lv_at hl 4 rfl) ?_
    refine lv_iload hx hb dX5_refusalOf_18 (lv_at hl 5 rfl) ?_
    have hC9 := c_X5_isInRange l g b0 n f h P kd a b x y hE hrg hrk hra hrb hrx hry
    refine g_callVi (ci := 7) (C := RX5) (T := TX5) (N := 11) (As := [.int (zI kd), .int (zI a), .int (zI b), .int (zI x), .int (zI y)]) (rest := []) ⟨hx, hb, hml, hown, hts⟩ hK hM hC9 (cuV (n := 5) hts u_402 u_399 u_4 (by decide) u_401 us_12 ⟨Nat.le_of_ble_eq_true rfl, Nat.le_of_ble_eq_true rfl⟩) ⟨by omega, by omega⟩ ho4 rfl rfl hl.1 rfl (Nat.le_of_ble_eq_true rfl) dX5_refusalOf_20 ⟨Nat.zero_le _, Nat.zero_le _⟩ (fun r20 f10 H locs hM hp11 => ?_)
    obtain ⟨rfl, rfl⟩ := hp11
    refine g_ifb_ne (tgt := 28) hx hb dX5_refusalOf_23 (by decide) (fun c23 => ?_) (fun c23 => ?_)
    · skip
      refine lv_iload hx hb dX5_refusalOf_28 (lv_at hl 6 rfl) ?_
      refine g_ifb_ne (tgt := 41) hx hb dX5_refusalOf_30 (by decide) (fun c30 => ?_) (fun c30 => ?_)
      · skip
        refine g_iconst hx hb dX5_refusalOf_41 ?_
        refine g_iret hx hb hr hlk hK hM dX5_refusalOf_42 ?_
        refine ⟨?_, rfl⟩
        show zI 3 = _
        unfold sRef
        rw [if_pos (show nmP P kd a b from hnmo), if_pos c23, if_neg (fun hh => hh.1 c30)]
      · skip
        refine lv_aload_n hx hb dX5_refusalOf_33 rfl (lv_at hl 0 rfl) ?_
        refine lv_iload_n hx hb dX5_refusalOf_34 rfl (lv_at hl 1 rfl) ?_
        have hC12 := c_X5_hasRoom l g b0 n f h P kd hE hrg hok.1.1 hok.2.1.1 hok.2.2.1.1 hok.2.2.2.2.2.2.2.1 hrk
        refine g_callVi (ci := 7) (C := RX5) (T := TX5) (N := 11) (As := [.int (zI kd)]) (rest := []) ⟨hx, hb, hml, hown, hts⟩ hK hM hC12 (cuV (n := 1) hts u_415 u_412 u_4 (by decide) u_414 us_14 ⟨Nat.le_of_ble_eq_true rfl, Nat.le_of_ble_eq_true rfl⟩) ⟨by omega, by omega⟩ ho4 rfl rfl hl.1 rfl (Nat.le_of_ble_eq_true rfl) dX5_refusalOf_35 ⟨Nat.zero_le _, Nat.zero_le _⟩ (fun r35 f13 H locs hM hp14 => ?_)
        obtain ⟨rfl, rfl⟩ := hp14
        refine g_ifb_ne (tgt := 43) hx hb dX5_refusalOf_38 (by decide) (fun c38 => ?_) (fun c38 => ?_)
        · skip
          have hrm1 : rmO P kd := c38
          clear c38
          refine lv_aload_n hx hb dX5_refusalOf_43 rfl (lv_at hl 0 rfl) ?_
          refine lv_iload_n hx hb dX5_refusalOf_44 rfl (lv_at hl 1 rfl) ?_
          refine lv_iload_n hx hb dX5_refusalOf_45 rfl (lv_at hl 2 rfl) ?_
          refine lv_iload_n hx hb dX5_refusalOf_46 rfl (lv_at hl 3 rfl) ?_
          refine lv_iload hx hb dX5_refusalOf_47 (lv_at hl 4 rfl) ?_
          have hC15 := c_X5_hasMoney l g b0 n f h P kd a b x v0 hE hrg hrk hra hrb hrx hok hv0 hnmo (rg_sp c23)
          refine g_callVi (ci := 7) (C := RX5) (T := TX5) (N := 11) (As := [.int (zI kd), .int (zI a), .int (zI b), .int (zI x)]) (rest := []) ⟨hx, hb, hml, hown, hts⟩ hK hM hC15 (cuV (n := 4) hts u_419 u_416 u_4 (by decide) u_418 us_15 ⟨Nat.le_of_ble_eq_true rfl, Nat.le_of_ble_eq_true rfl⟩) ⟨by omega, by omega⟩ ho4 rfl rfl hl.1 rfl (Nat.le_of_ble_eq_true rfl) dX5_refusalOf_49 ⟨Nat.zero_le _, Nat.zero_le _⟩ (fun r49 f16 H locs hM hp17 => ?_)
          obtain ⟨rfl, rfl⟩ := hp17
          refine g_ifb_eq (tgt := 59) hx hb dX5_refusalOf_52 (by decide) (fun c52 => ?_) (fun c52 => ?_)
          · skip
            refine g_iconst hx hb dX5_refusalOf_59 ?_
            refine g_iret hx hb hr hlk hK hM dX5_refusalOf_60 ?_
            refine ⟨?_, rfl⟩
            show zI 4 = _
            unfold sRef
            rw [if_pos (show nmP P kd a b from hnmo), if_pos c23, if_pos ⟨c30, show rmP P kd from hrm1⟩, if_neg c52]
          · skip
            refine g_iconst hx hb dX5_refusalOf_55 ?_
            refine lv_goto (tgt := 60) hx hb dX5_refusalOf_56 (by decide) ?_
            refine g_iret hx hb hr hlk hK hM dX5_refusalOf_60 ?_
            refine ⟨?_, rfl⟩
            show zI 0 = _
            unfold sRef
            rw [if_pos (show nmP P kd a b from hnmo), if_pos c23, if_pos ⟨c30, show rmP P kd from hrm1⟩, if_pos c52]
        · skip
          have hrm0 : ¬ rmO P kd := c38
          clear c38
          refine g_iconst hx hb dX5_refusalOf_41 ?_
          refine g_iret hx hb hr hlk hK hM dX5_refusalOf_42 ?_
          refine ⟨?_, rfl⟩
          show zI 3 = _
          unfold sRef
          rw [if_pos (show nmP P kd a b from hnmo), if_pos c23, if_neg (fun hh => hrm0 hh.2)]
    · skip
      refine g_iconst hx hb dX5_refusalOf_26 ?_
      refine g_iret hx hb hr hlk hK hM dX5_refusalOf_27 ?_
      refine ⟨?_, rfl⟩
      show zI 2 = _
      unfold sRef
      rw [if_pos (show nmP P kd a b from hnmo), if_neg c23]
  · skip
    refine g_iconst hx hb dX5_refusalOf_10 ?_
    refine g_iret hx hb hr hlk hK hM dX5_refusalOf_11 ?_
    refine ⟨?_, rfl⟩
    show zI 1 = _
    unfold sRef
    rw [if_neg c7]

def po_X5_perform (g : gE) (f : gF) (h : Nat) (P : Nat → Int) (kd a b x y v0 : Int) : Int32 → gF → Prop := fun r f1 => r = zI (sPf P kd a b x y).1 ∧ planAt g f1 h (sPf P kd a b x y).2 ∧ ∀ q, (q < h ∨ h + 23 ≤ q) → f1 q = f q
set_option maxRecDepth 100000 in
set_option maxHeartbeats 1000000 in
/-- perform, a step that is not refused -/
theorem c_X5_perform (l : Launch) (g : gE) (b0 n : Nat) (f : gF) (h : Nat) (P : Nat → Int) (kd a b x y v0 : Int) (hE : planAt g f h P) (hrg : b0 ≤ h ∧ h + 23 ≤ b0 + n) (hrk : rI kd) (hra : rI a) (hrb : rI b) (hrx : rI x) (hry : rI y) (hok : pOk P v0) (hv1 : 0 ≤ v0) (hv0 : v0 + 541 ≤ 800000000) (hkd : 0 ≤ kd ∧ kd ≤ 12) (hnm : nmO P kd a b) (hrr : rgP kd a b x y) (hrm : rmO P kd) (hmm : mnO P kd a b x) : cI l yX5_perform cX5_perform 6 (some .int) 4 109 [.ref h, .int (zI kd), .int (zI a), .int (zI b), .int (zI x), .int (zI y)] g b0 n f (po_X5_perform g f h P kd a b x y v0) := by
  refine gs_i (cc := cX5_perform) (maxL := 6) (ret := (some .int)) (by decide) (Nat.le_of_ble_eq_true rfl) ?_
  intro p e0 s m args below meth c ls hx hb hr hml hown hts hlk hK hM hl
  have hl : lv_has ls 6 [(0, .ref h), (1, .int (zI kd)), (2, .int (zI a)), (3, .int (zI b)), (4, .int (zI x)), (5, .int (zI y))] := hl
  have hcn7 := hok.1.1
  have hcn8 := hok.2.1.1
  have hcn9 := hok.2.2.1.1
  have hcn10 := hok.2.2.2.2.2.2.2.1
  refine lv_iload_n hx hb dX5_perform_0 rfl (lv_at hl 1 rfl) ?_
  have hz1 := zI_toInt (z := kd) hrk
  rcases g_sw (0) (12) kd with c1 | c1
  · refine lv_tableOut (tgt := 175) hx hb dX5_perform_1 (by rw [hz1]; exact c1) (by decide) ?_
    exfalso; omega
  · rcases (show kd = 0 ∨ kd = 1 ∨ kd = 2 ∨ kd = 3 ∨ kd = 4 ∨ kd = 5 ∨ kd = 6 ∨ kd = 7 ∨ kd = 8 ∨ kd = 9 ∨ kd = 10 ∨ kd = 11 ∨ kd = 12 by omega) with c1 | c1 | c1 | c1 | c1 | c1 | c1 | c1 | c1 | c1 | c1 | c1 | c1
    · refine lv_tableIn (off := 67) (tgt := 68) hx hb dX5_perform_1 (by rw [hz1, c1]; decide) (by rw [hz1, c1]; decide) (by rw [hz1, c1]; decide) (by decide) ?_
      subst c1
      have hz1 := rm_0 hrm
      obtain ⟨c0, hc0⟩ : ∃ q : Nat, P 7 = q := ⟨(P 7).toNat, by omega⟩
      refine lv_aload_n hx hb dX5_perform_68 rfl (lv_at hl 0 rfl) ?_
      obtain ⟨ho1, ho2, ho3, ho4, ho5⟩ := id hE
      refine g_get (ci := 7) (v := .ref (h + 1)) (C := RX5) (T := TX5) (N := 11) hx hb hts iU_X5 hown hK hM ⟨by omega, by omega⟩ ho1 rfl 0 (by decide) (hts _ u_164) (fun _ h9 => h9) rfl dX5_perform_69 ?_
      refine lv_iload_n hx hb dX5_perform_72 rfl (lv_at hl 2 rfl) ?_
      refine lv_iload_n hx hb dX5_perform_73 rfl (lv_at hl 3 rfl) ?_
      have hC8 := c_X2_append l g b0 n f (h + 1) P c0 a b ho2 ⟨by omega, by omega⟩ hc0 (by omega)
      obtain ⟨ho11, ho12, ho13, ho14, ho15⟩ := id ho2
      refine g_callVi (ci := 4) (C := RX2) (T := TX2) (N := 5) (As := [.int (zI a), .int (zI b)]) (rest := []) ⟨hx, hb, hml, hown, hts⟩ hK hM hC8 (cuV (n := 2) hts u_439 u_436 u_5 (by decide) u_437 u_438 ⟨Nat.le_of_ble_eq_true rfl, Nat.le_of_ble_eq_true rfl⟩) ⟨by omega, by omega⟩ ho11 rfl rfl hl.1 rfl (Nat.le_of_ble_eq_true rfl) dX5_perform_74 ⟨Nat.zero_le _, Nat.zero_le _⟩ (fun r74 f9 H locs hM hp10 => ?_)
      obtain ⟨rfl, hn7, o6⟩ := hp10
      obtain ⟨P1, hP1⟩ : ∃ Q : Nat → Int, Q = sAppE P c0 a b := ⟨_, rfl⟩
      rw [← hP1] at hn7
      have hp16 := planAt.env (P' := P1) hE hn7 o6 (fun i hi => by rw [hP1]; unfold sAppE; (repeat (first | rw [pu_s] | rw [pu_n (by omega)] | rw [Int.toNat_natCast])))
      refine g_iret hx hb hr hlk hK hM dX5_perform_77 ?_
      have hS : sPf P 0 a b x y = ((↑c0 : Int), P1) := by
        unfold sPf
        rw [if_pos rfl, hc0, Int.toNat_natCast, hP1]
      refine ⟨by rw [hS], ?_, (fun q hq => (o6 (q) (by omega)))⟩
      rw [hS]
      exact hp16
    · refine lv_tableIn (off := 77) (tgt := 78) hx hb dX5_perform_1 (by rw [hz1, c1]; decide) (by rw [hz1, c1]; decide) (by rw [hz1, c1]; decide) (by decide) ?_
      subst c1
      have hz1 := nm_1 hnm
      obtain ⟨a0, ha0⟩ : ∃ q : Nat, a = q := ⟨a.toNat, by omega⟩
      subst ha0
      refine lv_aload_n hx hb dX5_perform_78 rfl (lv_at hl 0 rfl) ?_
      obtain ⟨ho17, ho18, ho19, ho20, ho21⟩ := id hE
      refine g_get (ci := 7) (v := .ref (h + 1)) (C := RX5) (T := TX5) (N := 11) hx hb hts iU_X5 hown hK hM ⟨by omega, by omega⟩ ho17 rfl 0 (by decide) (hts _ u_164) (fun _ h9 => h9) rfl dX5_perform_79 ?_
      refine lv_iload_n hx hb dX5_perform_82 rfl (lv_at hl 2 rfl) ?_
      refine lv_iload_n hx hb dX5_perform_83 rfl (lv_at hl 3 rfl) ?_
      have hC24 := c_X2_changeCap l g b0 n f (h + 1) P a0 b ho18 ⟨by omega, by omega⟩ hcn7 (by omega)
      obtain ⟨ho27, ho28, ho29, ho30, ho31⟩ := id ho18
      refine g_callVi (ci := 4) (C := RX2) (T := TX2) (N := 5) (As := [.int (zI (↑a0 : Int)), .int (zI b)]) (rest := []) ⟨hx, hb, hml, hown, hts⟩ hK hM hC24 (cuV (n := 2) hts u_443 u_440 u_5 (by decide) u_441 u_442 ⟨Nat.le_of_ble_eq_true rfl, Nat.le_of_ble_eq_true rfl⟩) ⟨by omega, by omega⟩ ho27 rfl rfl hl.1 rfl (Nat.le_of_ble_eq_true rfl) dX5_perform_84 ⟨Nat.zero_le _, Nat.zero_le _⟩ (fun r84 f25 H locs hM hp26 => ?_)
      obtain ⟨rfl, hn23, o22⟩ := hp26
      obtain ⟨P1, hP1⟩ : ∃ Q : Nat → Int, Q = pu P (12 + 4 * a0) b := ⟨_, rfl⟩
      rw [← hP1] at hn23
      have hp32 := planAt.env (P' := P1) hE hn23 o22 (fun i hi => by rw [hP1]; (repeat (first | rw [pu_s] | rw [pu_n (by omega)] | rw [Int.toNat_natCast])))
      refine g_iret hx hb hr hlk hK hM dX5_perform_87 ?_
      have hS : sPf P 1 (↑a0 : Int) b x y = ((P (12 + 4 * a0)), P1) := by
        unfold sPf
        rw [if_neg (by omega), if_pos rfl, Int.toNat_natCast, hP1]
      refine ⟨by rw [hS], ?_, (fun q hq => (o22 (q) (by omega)))⟩
      rw [hS]
      exact hp32
    · refine lv_tableIn (off := 87) (tgt := 88) hx hb dX5_perform_1 (by rw [hz1, c1]; decide) (by rw [hz1, c1]; decide) (by rw [hz1, c1]; decide) (by decide) ?_
      subst c1
      have hz1 := nm_2 hnm
      obtain ⟨a0, ha0⟩ : ∃ q : Nat, a = q := ⟨a.toNat, by omega⟩
      subst ha0
      refine lv_aload_n hx hb dX5_perform_88 rfl (lv_at hl 0 rfl) ?_
      obtain ⟨ho33, ho34, ho35, ho36, ho37⟩ := id hE
      refine g_get (ci := 7) (v := .ref (h + 1)) (C := RX5) (T := TX5) (N := 11) hx hb hts iU_X5 hown hK hM ⟨by omega, by omega⟩ ho33 rfl 0 (by decide) (hts _ u_164) (fun _ h9 => h9) rfl dX5_perform_89 ?_
      refine lv_iload_n hx hb dX5_perform_92 rfl (lv_at hl 2 rfl) ?_
      refine lv_iload_n hx hb dX5_perform_93 rfl (lv_at hl 3 rfl) ?_
      have hC40 := c_X2_changeRollover l g b0 n f (h + 1) P a0 b ho34 ⟨by omega, by omega⟩ hcn7 (by omega)
      obtain ⟨ho43, ho44, ho45, ho46, ho47⟩ := id ho34
      refine g_callVi (ci := 4) (C := RX2) (T := TX2) (N := 5) (As := [.int (zI (↑a0 : Int)), .int (zI b)]) (rest := []) ⟨hx, hb, hml, hown, hts⟩ hK hM hC40 (cuV (n := 2) hts u_448 u_445 u_5 (by decide) u_446 u_447 ⟨Nat.le_of_ble_eq_true rfl, Nat.le_of_ble_eq_true rfl⟩) ⟨by omega, by omega⟩ ho43 rfl rfl hl.1 rfl (Nat.le_of_ble_eq_true rfl) dX5_perform_94 ⟨Nat.zero_le _, Nat.zero_le _⟩ (fun r94 f41 H locs hM hp42 => ?_)
      obtain ⟨rfl, hn39, o38⟩ := hp42
      obtain ⟨P1, hP1⟩ : ∃ Q : Nat → Int, Q = pu P (13 + 4 * a0) b := ⟨_, rfl⟩
      rw [← hP1] at hn39
      have hp48 := planAt.env (P' := P1) hE hn39 o38 (fun i hi => by rw [hP1]; (repeat (first | rw [pu_s] | rw [pu_n (by omega)] | rw [Int.toNat_natCast])))
      refine g_iret hx hb hr hlk hK hM dX5_perform_97 ?_
      have hS : sPf P 2 (↑a0 : Int) b x y = ((P (13 + 4 * a0)), P1) := by
        unfold sPf
        rw [if_neg (by omega), if_neg (by omega), if_pos rfl, Int.toNat_natCast, hP1]
      refine ⟨by rw [hS], ?_, (fun q hq => (o38 (q) (by omega)))⟩
      rw [hS]
      exact hp48
    · refine lv_tableIn (off := 97) (tgt := 98) hx hb dX5_perform_1 (by rw [hz1, c1]; decide) (by rw [hz1, c1]; decide) (by rw [hz1, c1]; decide) (by decide) ?_
      subst c1
      have hz1 := rm_3 hrm
      obtain ⟨c0, hc0⟩ : ∃ q : Nat, P 8 = q := ⟨(P 8).toNat, by omega⟩
      refine lv_aload_n hx hb dX5_perform_98 rfl (lv_at hl 0 rfl) ?_
      obtain ⟨ho49, ho50, ho51, ho52, ho53⟩ := id hE
      refine g_get (ci := 7) (v := .ref (h + 6)) (C := RX5) (T := TX5) (N := 11) hx hb hts iU_X5 hown hK hM ⟨by omega, by omega⟩ ho49 rfl 1 (by decide) (hts _ u_166) (fun _ h9 => h9) rfl dX5_perform_99 ?_
      refine lv_iload_n hx hb dX5_perform_102 rfl (lv_at hl 2 rfl) ?_
      refine lv_iload_n hx hb dX5_perform_103 rfl (lv_at hl 3 rfl) ?_
      refine lv_iload hx hb dX5_perform_104 (lv_at hl 4 rfl) ?_
      have hC56 := c_X7_append l g b0 n f (h + 6) P c0 a b x ho51 ⟨by omega, by omega⟩ hc0 (by omega)
      obtain ⟨ho59, ho60, ho61, ho62⟩ := id ho51
      refine g_callVi (ci := 9) (C := RX7) (T := TX7) (N := 4) (As := [.int (zI a), .int (zI b), .int (zI x)]) (rest := []) ⟨hx, hb, hml, hown, hts⟩ hK hM hC56 (cuV (n := 3) hts u_452 u_449 u_6 (by decide) u_450 u_451 ⟨Nat.le_of_ble_eq_true rfl, Nat.le_of_ble_eq_true rfl⟩) ⟨by omega, by omega⟩ ho59 rfl rfl hl.1 rfl (Nat.le_of_ble_eq_true rfl) dX5_perform_106 ⟨Nat.zero_le _, Nat.zero_le _⟩ (fun r106 f57 H locs hM hp58 => ?_)
      obtain ⟨rfl, hn55, o54⟩ := hp58
      obtain ⟨P1, hP1⟩ : ∃ Q : Nat → Int, Q = sApp3 P c0 a b x := ⟨_, rfl⟩
      rw [← hP1] at hn55
      have hp63 := planAt.rule (P' := P1) hE hn55 o54 (fun i hi => by rw [hP1]; unfold sApp3; (repeat (first | rw [pu_s] | rw [pu_n (by omega)] | rw [Int.toNat_natCast])))
      refine g_iret hx hb hr hlk hK hM dX5_perform_109 ?_
      have hS : sPf P 3 a b x y = ((↑c0 : Int), P1) := by
        unfold sPf
        rw [if_neg (by omega), if_neg (by omega), if_neg (by omega), if_pos rfl, hc0, Int.toNat_natCast, hP1]
      refine ⟨by rw [hS], ?_, (fun q hq => (o54 (q) (by omega)))⟩
      rw [hS]
      exact hp63
    · refine lv_tableIn (off := 109) (tgt := 110) hx hb dX5_perform_1 (by rw [hz1, c1]; decide) (by rw [hz1, c1]; decide) (by rw [hz1, c1]; decide) (by decide) ?_
      subst c1
      have hz1 := nm_4 hnm
      obtain ⟨a0, ha0⟩ : ∃ q : Nat, a = q := ⟨a.toNat, by omega⟩
      subst ha0
      refine lv_aload_n hx hb dX5_perform_110 rfl (lv_at hl 0 rfl) ?_
      obtain ⟨ho64, ho65, ho66, ho67, ho68⟩ := id hE
      refine g_get (ci := 7) (v := .ref (h + 6)) (C := RX5) (T := TX5) (N := 11) hx hb hts iU_X5 hown hK hM ⟨by omega, by omega⟩ ho64 rfl 1 (by decide) (hts _ u_166) (fun _ h9 => h9) rfl dX5_perform_111 ?_
      refine lv_iload_n hx hb dX5_perform_114 rfl (lv_at hl 2 rfl) ?_
      have hC71 := c_X7_remove l g b0 n f (h + 6) P a0 ho66 ⟨by omega, by omega⟩ hcn8 (by omega)
      obtain ⟨ho74, ho75, ho76, ho77⟩ := id ho66
      refine g_callVi (ci := 9) (C := RX7) (T := TX7) (N := 4) (As := [.int (zI (↑a0 : Int))]) (rest := []) ⟨hx, hb, hml, hown, hts⟩ hK hM hC71 (cuV (n := 1) hts u_456 u_453 u_6 (by decide) u_454 u_455 ⟨Nat.le_of_ble_eq_true rfl, Nat.le_of_ble_eq_true rfl⟩) ⟨by omega, by omega⟩ ho74 rfl rfl hl.1 rfl (Nat.le_of_ble_eq_true rfl) dX5_perform_115 ⟨Nat.zero_le _, Nat.zero_le _⟩ (fun r115 f72 H locs hM hp73 => ?_)
      obtain ⟨rfl, hn70, o69⟩ := hp73
      obtain ⟨P1, hP1⟩ : ∃ Q : Nat → Int, Q = sRem P 51 3 8 a0 := ⟨_, rfl⟩
      rw [← hP1] at hn70
      have hp78 := planAt.rule (P' := P1) hE hn70 o69 (fun i hi => by rw [hP1]; simp only [sRem]; rw [if_neg (by omega), if_neg (by omega)])
      refine g_iret hx hb hr hlk hK hM dX5_perform_118 ?_
      have hS : sPf P 4 (↑a0 : Int) b x y = ((P 8 - 1), P1) := by
        unfold sPf
        rw [if_neg (by omega), if_neg (by omega), if_neg (by omega), if_neg (by omega), if_pos rfl, Int.toNat_natCast, hP1]
      refine ⟨by rw [hS], ?_, (fun q hq => (o69 (q) (by omega)))⟩
      rw [hS]
      exact hp78
    · refine lv_tableIn (off := 118) (tgt := 119) hx hb dX5_perform_1 (by rw [hz1, c1]; decide) (by rw [hz1, c1]; decide) (by rw [hz1, c1]; decide) (by decide) ?_
      subst c1
      have hz1 := rm_5 hrm
      obtain ⟨c0, hc0⟩ : ∃ q : Nat, P 9 = q := ⟨(P 9).toNat, by omega⟩
      refine lv_aload_n hx hb dX5_perform_119 rfl (lv_at hl 0 rfl) ?_
      obtain ⟨ho79, ho80, ho81, ho82, ho83⟩ := id hE
      refine g_get (ci := 7) (v := .ref (h + 10)) (C := RX5) (T := TX5) (N := 11) hx hb hts iU_X5 hown hK hM ⟨by omega, by omega⟩ ho79 rfl 2 (by decide) (hts _ u_168) (fun _ h9 => h9) rfl dX5_perform_120 ?_
      refine lv_iload_n hx hb dX5_perform_123 rfl (lv_at hl 2 rfl) ?_
      refine lv_iload_n hx hb dX5_perform_124 rfl (lv_at hl 3 rfl) ?_
      refine lv_iload hx hb dX5_perform_125 (lv_at hl 4 rfl) ?_
      refine lv_iload hx hb dX5_perform_127 (lv_at hl 5 rfl) ?_
      have hC86 := c_X4_append l g b0 n f (h + 10) P c0 a b x y ho82 ⟨by omega, by omega⟩ hc0 (by omega)
      obtain ⟨ho89, ho90, ho91, ho92, ho93, ho94⟩ := id ho82
      refine g_callVi (ci := 6) (C := RX4) (T := TX4) (N := 6) (As := [.int (zI a), .int (zI b), .int (zI x), .int (zI y)]) (rest := []) ⟨hx, hb, hml, hown, hts⟩ hK hM hC86 (cuV (n := 4) hts u_461 u_458 u_7 (by decide) u_459 u_460 ⟨Nat.le_of_ble_eq_true rfl, Nat.le_of_ble_eq_true rfl⟩) ⟨by omega, by omega⟩ ho89 rfl rfl hl.1 rfl (Nat.le_of_ble_eq_true rfl) dX5_perform_129 ⟨Nat.zero_le _, Nat.zero_le _⟩ (fun r129 f87 H locs hM hp88 => ?_)
      obtain ⟨rfl, hn85, o84⟩ := hp88
      obtain ⟨P1, hP1⟩ : ∃ Q : Nat → Int, Q = sApp5 P c0 a b x y := ⟨_, rfl⟩
      rw [← hP1] at hn85
      have hp95 := planAt.link (P' := P1) hE hn85 o84 (fun i hi => by rw [hP1]; unfold sApp5; (repeat (first | rw [pu_s] | rw [pu_n (by omega)] | rw [Int.toNat_natCast])))
      refine g_iret hx hb hr hlk hK hM dX5_perform_132 ?_
      have hS : sPf P 5 a b x y = ((↑c0 : Int), P1) := by
        unfold sPf
        rw [if_neg (by omega), if_neg (by omega), if_neg (by omega), if_neg (by omega), if_neg (by omega), if_pos rfl, hc0, Int.toNat_natCast, hP1]
      refine ⟨by rw [hS], ?_, (fun q hq => (o84 (q) (by omega)))⟩
      rw [hS]
      exact hp95
    · refine lv_tableIn (off := 132) (tgt := 133) hx hb dX5_perform_1 (by rw [hz1, c1]; decide) (by rw [hz1, c1]; decide) (by rw [hz1, c1]; decide) (by decide) ?_
      subst c1
      have hz1 := nm_6 hnm
      obtain ⟨a0, ha0⟩ : ∃ q : Nat, a = q := ⟨a.toNat, by omega⟩
      subst ha0
      refine lv_aload_n hx hb dX5_perform_133 rfl (lv_at hl 0 rfl) ?_
      obtain ⟨ho96, ho97, ho98, ho99, ho100⟩ := id hE
      refine g_get (ci := 7) (v := .ref (h + 10)) (C := RX5) (T := TX5) (N := 11) hx hb hts iU_X5 hown hK hM ⟨by omega, by omega⟩ ho96 rfl 2 (by decide) (hts _ u_168) (fun _ h9 => h9) rfl dX5_perform_134 ?_
      refine lv_iload_n hx hb dX5_perform_137 rfl (lv_at hl 2 rfl) ?_
      have hC103 := c_X4_remove l g b0 n f (h + 10) P a0 ho99 ⟨by omega, by omega⟩ hcn9 (by omega)
      obtain ⟨ho106, ho107, ho108, ho109, ho110, ho111⟩ := id ho99
      refine g_callVi (ci := 6) (C := RX4) (T := TX4) (N := 6) (As := [.int (zI (↑a0 : Int))]) (rest := []) ⟨hx, hb, hml, hown, hts⟩ hK hM hC103 (cuV (n := 1) hts u_465 u_462 u_7 (by decide) u_463 u_464 ⟨Nat.le_of_ble_eq_true rfl, Nat.le_of_ble_eq_true rfl⟩) ⟨by omega, by omega⟩ ho106 rfl rfl hl.1 rfl (Nat.le_of_ble_eq_true rfl) dX5_perform_138 ⟨Nat.zero_le _, Nat.zero_le _⟩ (fun r138 f104 H locs hM hp105 => ?_)
      obtain ⟨rfl, hn102, o101⟩ := hp105
      obtain ⟨P1, hP1⟩ : ∃ Q : Nat → Int, Q = sRem P 69 5 9 a0 := ⟨_, rfl⟩
      rw [← hP1] at hn102
      have hp112 := planAt.link (P' := P1) hE hn102 o101 (fun i hi => by rw [hP1]; simp only [sRem]; rw [if_neg (by omega), if_neg (by omega)])
      refine g_iret hx hb hr hlk hK hM dX5_perform_141 ?_
      have hS : sPf P 6 (↑a0 : Int) b x y = ((P 9 - 1), P1) := by
        unfold sPf
        rw [if_neg (by omega), if_neg (by omega), if_neg (by omega), if_neg (by omega), if_neg (by omega), if_neg (by omega), if_pos rfl, Int.toNat_natCast, hP1]
      refine ⟨by rw [hS], ?_, (fun q hq => (o101 (q) (by omega)))⟩
      rw [hS]
      exact hp112
    · refine lv_tableIn (off := 141) (tgt := 142) hx hb dX5_perform_1 (by rw [hz1, c1]; decide) (by rw [hz1, c1]; decide) (by rw [hz1, c1]; decide) (by decide) ?_
      subst c1
      have hz1 := rm_7 hrm
      obtain ⟨c0, hc0⟩ : ∃ q : Nat, P 10 = q := ⟨(P 10).toNat, by omega⟩
      refine lv_aload_n hx hb dX5_perform_142 rfl (lv_at hl 0 rfl) ?_
      obtain ⟨ho113, ho114, ho115, ho116, ho117⟩ := id hE
      refine g_get (ci := 7) (v := .ref (h + 16)) (C := RX5) (T := TX5) (N := 11) hx hb hts iU_X5 hown hK hM ⟨by omega, by omega⟩ ho113 rfl 3 (by decide) (hts _ u_170) (fun _ h9 => h9) rfl dX5_perform_143 ?_
      refine lv_iload_n hx hb dX5_perform_146 rfl (lv_at hl 2 rfl) ?_
      refine lv_iload_n hx hb dX5_perform_147 rfl (lv_at hl 3 rfl) ?_
      refine lv_iload hx hb dX5_perform_148 (lv_at hl 4 rfl) ?_
      refine lv_iload hx hb dX5_perform_150 (lv_at hl 5 rfl) ?_
      refine lv_aload_n hx hb dX5_perform_152 rfl (lv_at hl 0 rfl) ?_
      refine g_get (ci := 7) (v := .int (zI (P 1))) (C := RX5) (T := TX5) (N := 11) hx hb hts iU_X5 hown hK hM ⟨by omega, by omega⟩ ho113 rfl 5 (by decide) (hts _ u_174) (fun _ h9 => h9) rfl dX5_perform_153 ?_
      have hC120 := c_X3_append l g b0 n f (h + 16) P c0 a b x y (P 1) ho117 ⟨by omega, by omega⟩ hc0 (by omega)
      obtain ⟨ho123, ho124, ho125, ho126, ho127, ho128, ho129⟩ := id ho117
      refine g_callVi (ci := 5) (C := RX3) (T := TX3) (N := 7) (As := [.int (zI a), .int (zI b), .int (zI x), .int (zI y), .int (zI (P 1))]) (rest := []) ⟨hx, hb, hml, hown, hts⟩ hK hM hC120 (cuV (n := 5) hts u_470 u_467 u_8 (by decide) u_468 u_469 ⟨Nat.le_of_ble_eq_true rfl, Nat.le_of_ble_eq_true rfl⟩) ⟨by omega, by omega⟩ ho123 rfl rfl hl.1 rfl (Nat.le_of_ble_eq_true rfl) dX5_perform_156 ⟨Nat.zero_le _, Nat.zero_le _⟩ (fun r156 f121 H locs hM hp122 => ?_)
      obtain ⟨rfl, hn119, o118⟩ := hp122
      obtain ⟨P1, hP1⟩ : ∃ Q : Nat → Int, Q = sApp6 P c0 a b x y (P 1 + y) := ⟨_, rfl⟩
      rw [← hP1] at hn119
      have hp130 := planAt.item (P' := P1) hE hn119 o118 (fun i hi => by rw [hP1]; unfold sApp6; (repeat (first | rw [pu_s] | rw [pu_n (by omega)] | rw [Int.toNat_natCast])))
      refine g_iret hx hb hr hlk hK hM dX5_perform_159 ?_
      have hS : sPf P 7 a b x y = ((↑c0 : Int), P1) := by
        unfold sPf
        rw [if_neg (by omega), if_neg (by omega), if_neg (by omega), if_neg (by omega), if_neg (by omega), if_neg (by omega), if_neg (by omega), if_pos rfl, hc0, Int.toNat_natCast, hP1]
      refine ⟨by rw [hS], ?_, (fun q hq => (o118 (q) (by omega)))⟩
      rw [hS]
      exact hp130
    · refine lv_tableIn (off := 159) (tgt := 160) hx hb dX5_perform_1 (by rw [hz1, c1]; decide) (by rw [hz1, c1]; decide) (by rw [hz1, c1]; decide) (by decide) ?_
      subst c1
      have hz1 := nm_8 hnm
      obtain ⟨a0, ha0⟩ : ∃ q : Nat, a = q := ⟨a.toNat, by omega⟩
      subst ha0
      refine lv_aload_n hx hb dX5_perform_160 rfl (lv_at hl 0 rfl) ?_
      obtain ⟨ho131, ho132, ho133, ho134, ho135⟩ := id hE
      refine g_get (ci := 7) (v := .ref (h + 16)) (C := RX5) (T := TX5) (N := 11) hx hb hts iU_X5 hown hK hM ⟨by omega, by omega⟩ ho131 rfl 3 (by decide) (hts _ u_170) (fun _ h9 => h9) rfl dX5_perform_161 ?_
      refine lv_iload_n hx hb dX5_perform_164 rfl (lv_at hl 2 rfl) ?_
      have hC138 := c_X3_remove l g b0 n f (h + 16) P a0 ho135 ⟨by omega, by omega⟩ hcn10 (by omega)
      obtain ⟨ho141, ho142, ho143, ho144, ho145, ho146, ho147⟩ := id ho135
      refine g_callVi (ci := 5) (C := RX3) (T := TX3) (N := 7) (As := [.int (zI (↑a0 : Int))]) (rest := []) ⟨hx, hb, hml, hown, hts⟩ hK hM hC138 (cuV (n := 1) hts u_474 u_471 u_8 (by decide) u_472 u_473 ⟨Nat.le_of_ble_eq_true rfl, Nat.le_of_ble_eq_true rfl⟩) ⟨by omega, by omega⟩ ho141 rfl rfl hl.1 rfl (Nat.le_of_ble_eq_true rfl) dX5_perform_165 ⟨Nat.zero_le _, Nat.zero_le _⟩ (fun r165 f139 H locs hM hp140 => ?_)
      obtain ⟨rfl, hn137, o136⟩ := hp140
      obtain ⟨P1, hP1⟩ : ∃ Q : Nat → Int, Q = sRem P 99 6 10 a0 := ⟨_, rfl⟩
      rw [← hP1] at hn137
      have hp148 := planAt.item (P' := P1) hE hn137 o136 (fun i hi => by rw [hP1]; simp only [sRem]; rw [if_neg (by omega), if_neg (by omega)])
      refine g_iret hx hb hr hlk hK hM dX5_perform_168 ?_
      have hS : sPf P 8 (↑a0 : Int) b x y = ((P 10 - 1), P1) := by
        unfold sPf
        rw [if_neg (by omega), if_neg (by omega), if_neg (by omega), if_neg (by omega), if_neg (by omega), if_neg (by omega), if_neg (by omega), if_neg (by omega), if_pos rfl, Int.toNat_natCast, hP1]
      refine ⟨by rw [hS], ?_, (fun q hq => (o136 (q) (by omega)))⟩
      rw [hS]
      exact hp148
    · refine lv_tableIn (off := 174) (tgt := 175) hx hb dX5_perform_1 (by rw [hz1, c1]; decide) (by rw [hz1, c1]; decide) (by rw [hz1, c1]; decide) (by decide) ?_
      subst c1
      refine lv_aload_n hx hb dX5_perform_175 rfl (lv_at hl 0 rfl) ?_
      refine lv_iload_n hx hb dX5_perform_176 rfl (lv_at hl 1 rfl) ?_
      refine lv_iload_n hx hb dX5_perform_177 rfl (lv_at hl 2 rfl) ?_
      refine lv_iload_n hx hb dX5_perform_178 rfl (lv_at hl 3 rfl) ?_
      refine lv_iload hx hb dX5_perform_179 (lv_at hl 4 rfl) ?_
      have hC149 := c_X5_moveMoney l g b0 n f h P 9 a b x v0 hE hrg (by decide) hra hrb hrx hok (by omega) (by omega) hnm (rg_9.mpr (rg_9.mp hrr)) hmm
      obtain ⟨ho152, ho153, ho154, ho155, ho156⟩ := id hE
      refine g_callVi (ci := 7) (C := RX5) (T := TX5) (N := 11) (As := [.int (zI 9), .int (zI a), .int (zI b), .int (zI x)]) (rest := []) ⟨hx, hb, hml, hown, hts⟩ hK hM hC149 (cuV (n := 4) hts u_537 u_534 u_4 (by decide) u_536 us_20 ⟨Nat.le_of_ble_eq_true rfl, Nat.le_of_ble_eq_true rfl⟩) ⟨by omega, by omega⟩ ho152 rfl rfl hl.1 rfl (Nat.le_of_ble_eq_true rfl) dX5_perform_181 ⟨Nat.zero_le _, Nat.zero_le _⟩ (fun r181 f150 H locs hM hp151 => ?_)
      obtain ⟨rfl, hn157, o158⟩ := hp151
      obtain ⟨P1, hP1⟩ : ∃ Q : Nat → Int, Q = (sMm P 9 a b x).2 := ⟨_, rfl⟩
      rw [← hP1] at hn157
      refine g_iret hx hb hr hlk hK hM dX5_perform_184 ?_
      have hS : sPf P 9 a b x y = ((sMm P 9 a b x).1, P1) := by
        unfold sPf
        rw [if_neg (by omega), if_neg (by omega), if_neg (by omega), if_neg (by omega), if_neg (by omega), if_neg (by omega), if_neg (by omega), if_neg (by omega), if_neg (by omega), if_neg (by omega), hP1]
      refine ⟨by rw [hS], ?_, (fun q hq => (o158 (q) (by omega)))⟩
      rw [hS]
      exact hn157
    · refine lv_tableIn (off := 174) (tgt := 175) hx hb dX5_perform_1 (by rw [hz1, c1]; decide) (by rw [hz1, c1]; decide) (by rw [hz1, c1]; decide) (by decide) ?_
      subst c1
      refine lv_aload_n hx hb dX5_perform_175 rfl (lv_at hl 0 rfl) ?_
      refine lv_iload_n hx hb dX5_perform_176 rfl (lv_at hl 1 rfl) ?_
      refine lv_iload_n hx hb dX5_perform_177 rfl (lv_at hl 2 rfl) ?_
      refine lv_iload_n hx hb dX5_perform_178 rfl (lv_at hl 3 rfl) ?_
      refine lv_iload hx hb dX5_perform_179 (lv_at hl 4 rfl) ?_
      have hC159 := c_X5_moveMoney l g b0 n f h P 10 a b x v0 hE hrg (by decide) hra hrb hrx hok (by omega) (by omega) hnm (rg_10.mpr (rg_10.mp hrr)) hmm
      obtain ⟨ho162, ho163, ho164, ho165, ho166⟩ := id hE
      refine g_callVi (ci := 7) (C := RX5) (T := TX5) (N := 11) (As := [.int (zI 10), .int (zI a), .int (zI b), .int (zI x)]) (rest := []) ⟨hx, hb, hml, hown, hts⟩ hK hM hC159 (cuV (n := 4) hts u_537 u_534 u_4 (by decide) u_536 us_20 ⟨Nat.le_of_ble_eq_true rfl, Nat.le_of_ble_eq_true rfl⟩) ⟨by omega, by omega⟩ ho162 rfl rfl hl.1 rfl (Nat.le_of_ble_eq_true rfl) dX5_perform_181 ⟨Nat.zero_le _, Nat.zero_le _⟩ (fun r181 f160 H locs hM hp161 => ?_)
      obtain ⟨rfl, hn167, o168⟩ := hp161
      obtain ⟨P1, hP1⟩ : ∃ Q : Nat → Int, Q = (sMm P 10 a b x).2 := ⟨_, rfl⟩
      rw [← hP1] at hn167
      refine g_iret hx hb hr hlk hK hM dX5_perform_184 ?_
      have hS : sPf P 10 a b x y = ((sMm P 10 a b x).1, P1) := by
        unfold sPf
        rw [if_neg (by omega), if_neg (by omega), if_neg (by omega), if_neg (by omega), if_neg (by omega), if_neg (by omega), if_neg (by omega), if_neg (by omega), if_neg (by omega), if_neg (by omega), hP1]
      refine ⟨by rw [hS], ?_, (fun q hq => (o168 (q) (by omega)))⟩
      rw [hS]
      exact hn167
    · refine lv_tableIn (off := 174) (tgt := 175) hx hb dX5_perform_1 (by rw [hz1, c1]; decide) (by rw [hz1, c1]; decide) (by rw [hz1, c1]; decide) (by decide) ?_
      subst c1
      refine lv_aload_n hx hb dX5_perform_175 rfl (lv_at hl 0 rfl) ?_
      refine lv_iload_n hx hb dX5_perform_176 rfl (lv_at hl 1 rfl) ?_
      refine lv_iload_n hx hb dX5_perform_177 rfl (lv_at hl 2 rfl) ?_
      refine lv_iload_n hx hb dX5_perform_178 rfl (lv_at hl 3 rfl) ?_
      refine lv_iload hx hb dX5_perform_179 (lv_at hl 4 rfl) ?_
      have hC169 := c_X5_moveMoney l g b0 n f h P 11 a b x v0 hE hrg (by decide) hra hrb hrx hok (by omega) (by omega) hnm (rg_11.mpr (rg_11.mp hrr)) hmm
      obtain ⟨ho172, ho173, ho174, ho175, ho176⟩ := id hE
      refine g_callVi (ci := 7) (C := RX5) (T := TX5) (N := 11) (As := [.int (zI 11), .int (zI a), .int (zI b), .int (zI x)]) (rest := []) ⟨hx, hb, hml, hown, hts⟩ hK hM hC169 (cuV (n := 4) hts u_537 u_534 u_4 (by decide) u_536 us_20 ⟨Nat.le_of_ble_eq_true rfl, Nat.le_of_ble_eq_true rfl⟩) ⟨by omega, by omega⟩ ho172 rfl rfl hl.1 rfl (Nat.le_of_ble_eq_true rfl) dX5_perform_181 ⟨Nat.zero_le _, Nat.zero_le _⟩ (fun r181 f170 H locs hM hp171 => ?_)
      obtain ⟨rfl, hn177, o178⟩ := hp171
      obtain ⟨P1, hP1⟩ : ∃ Q : Nat → Int, Q = (sMm P 11 a b x).2 := ⟨_, rfl⟩
      rw [← hP1] at hn177
      refine g_iret hx hb hr hlk hK hM dX5_perform_184 ?_
      have hS : sPf P 11 a b x y = ((sMm P 11 a b x).1, P1) := by
        unfold sPf
        rw [if_neg (by omega), if_neg (by omega), if_neg (by omega), if_neg (by omega), if_neg (by omega), if_neg (by omega), if_neg (by omega), if_neg (by omega), if_neg (by omega), if_neg (by omega), hP1]
      refine ⟨by rw [hS], ?_, (fun q hq => (o178 (q) (by omega)))⟩
      rw [hS]
      exact hn177
    · refine lv_tableIn (off := 168) (tgt := 169) hx hb dX5_perform_1 (by rw [hz1, c1]; decide) (by rw [hz1, c1]; decide) (by rw [hz1, c1]; decide) (by decide) ?_
      subst c1
      have hz1 := rg_12.mp hrr
      obtain ⟨a0, ha0⟩ : ∃ q : Nat, a = q := ⟨a.toNat, by omega⟩
      subst ha0
      refine lv_aload_n hx hb dX5_perform_169 rfl (lv_at hl 0 rfl) ?_
      refine lv_iload_n hx hb dX5_perform_170 rfl (lv_at hl 2 rfl) ?_
      have hC179 := c_X5_passDays l g b0 n f h P a0 v0 hE hrg hok hv1 (by omega)
      obtain ⟨ho182, ho183, ho184, ho185, ho186⟩ := id hE
      refine g_callVi (ci := 7) (C := RX5) (T := TX5) (N := 11) (As := [.int (zI (↑a0 : Int))]) (rest := []) ⟨hx, hb, hml, hown, hts⟩ hK hM hC179 (cuV (n := 1) hts u_479 u_476 u_4 (by decide) u_477 u_478 ⟨Nat.le_of_ble_eq_true rfl, Nat.le_of_ble_eq_true rfl⟩) ⟨by omega, by omega⟩ ho182 rfl rfl hl.1 rfl (Nat.le_of_ble_eq_true rfl) dX5_perform_171 ⟨Nat.zero_le _, Nat.zero_le _⟩ (fun r171 f180 H locs hM hp181 => ?_)
      obtain ⟨rfl, hn187, o188⟩ := hp181
      obtain ⟨P1, hP1⟩ : ∃ Q : Nat → Int, Q = sDays P a0 := ⟨_, rfl⟩
      rw [← hP1] at hn187
      refine g_iret hx hb hr hlk hK hM dX5_perform_174 ?_
      have hS : sPf P 12 (↑a0 : Int) b x y = ((sDays P a0 4 - P 4), P1) := by
        unfold sPf
        rw [if_neg (by omega), if_neg (by omega), if_neg (by omega), if_neg (by omega), if_neg (by omega), if_neg (by omega), if_neg (by omega), if_neg (by omega), if_neg (by omega), if_pos rfl, Int.toNat_natCast, hP1]
      refine ⟨by rw [hS], ?_, (fun q hq => (o188 (q) (by omega)))⟩
      rw [hS]
      exact hn187
