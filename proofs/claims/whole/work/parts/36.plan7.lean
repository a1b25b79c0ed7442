def po_X5_settle (g : gE) (f : gF) (h : Nat) (P : Nat → Int) : gF → Prop := fun f1 => planAt g f1 h (sSet P) ∧ ∀ q, (q < h ∨ h + 23 ≤ q) → f1 q = f q
set_option maxRecDepth 100000 in
set_option maxHeartbeats 1000000 in
/-- settle() -/
theorem c_X5_settle (l : Launch) (g : gE) (b0 n : Nat) (f : gF) (h : Nat) (P : Nat → Int) (hE : planAt g f h P) (hrg : b0 ≤ h ∧ h + 23 ≤ b0 + n) (hws : wfS P 1000000000000000) (hlo : lkOk P) : cV l yX5_settle cX5_settle 5 none 2 50 [.ref h] g b0 n f (po_X5_settle g f h P) := by
  refine gs_v (cc := cX5_settle) (maxL := 5) (ret := none) (by decide) (Nat.le_of_ble_eq_true rfl) ?_
  intro p e0 s m args below meth c ls hx hb hr hml hown hts hlk hK hM hl
  have hl : lv_has ls 5 [(0, .ref h)] := hl
  have hcn7 := hws.1
  have hzn7 := hcn7.1
  have hzm7 := hcn7.2
  refine g_iconst hx hb dX5_settle_0 ?_
  refine lv_istore_n (lv' := [(1, .int (zI 0)), (0, .ref h)]) hx hb dX5_settle_1 rfl hl (by decide) rfl (fun ls hl => ?_)
  refine g_iconst hx hb dX5_settle_2 ?_
  refine lv_istore_n (lv' := [(2, .int (zI 0)), (1, .int (zI 0)), (0, .ref h)]) hx hb dX5_settle_3 rfl hl (by decide) rfl (fun ls hl => ?_)
  have lp4 : ∀ (kk : Nat), ∀ (rd : Nat) (m0 : Nat) (Pa : Nat → Int) (fL : gF) (H : Heap) (locs : List Loc) (ls : Array Slot), (7 - rd < kk) → (rd ≤ 7) → ((m0, false, Pa) = sIt sSetT (0, false, P) rd) → (m0 < 64) → (wfS Pa 1000000000000000) → (lkOk Pa) → (bS Pa = bS P) → (∀ q, (q < h ∨ h + 23 ≤ q) → fL q = f q) → gH g b0 n fL s.heap H locs → (planAt g fL h Pa) → lv_has ls 5 [(0, .ref h), (1, .int (zI (↑m0 : Int))), (2, .int (zI (↑rd : Int)))] → W p l e0 { frames := 2, cells := 0, slots := 0, locals := 50 } s m args below meth c H locs 0 0 (MQ below (va_Qv (po_X5_settle g f h P) (gB g b0 n) (gA b0)) args s 0 0 (gA b0)) (F0 m 4 ls []) := by
    intro kk
    induction kk with
    | zero =>
      intro rd m0 Pa fL H locs ls hk hrd hso hm0 hwa hla hba hfr hM hL hl
      exact absurd hk (Nat.not_lt_zero _)
    | succ kk ih4 =>
      intro rd m0 Pa fL H locs ls hk hrd hso hm0 hwa hla hba hfr hM hL hl
      refine lv_iload_n hx hb dX5_settle_4 rfl (lv_at hl 2 rfl) ?_
      refine g_bipush hx hb dX5_settle_5 (by decide) ?_
      refine g_icmp_gt (tgt := 78) hx hb dX5_settle_7 (by decide) ⟨by omega, by omega⟩ (by decide) (fun c7 => ?_) (fun c7 => ?_)
      · skip
        refine g_vret hx hb hr hlk hK hM dX5_settle_78 ?_
        have hrd7 : rd = 7 := by omega
        have h7 : sIt sSetT (0, false, P) 7 = (m0, false, Pa) := by rw [← hrd7, ← hso]
        refine ⟨?_, (fun q hq => (hfr (q) (by omega)))⟩
        unfold sSet
        rw [h7]
        exact hL
      · skip
        have h91 := hla.1.1
        have h92 := hla.1.2
        refine g_iconst hx hb dX5_settle_10 ?_
        refine lv_istore_n (lv' := [(3, .int (zI 1)), (0, .ref h), (1, .int (zI (↑m0 : Int))), (2, .int (zI (↑rd : Int)))]) hx hb dX5_settle_11 rfl hl (by decide) rfl (fun ls hl => ?_)
        refine g_iconst hx hb dX5_settle_12 ?_
        refine lv_istore (lv' := [(4, .int (zI 0)), (3, .int (zI 1)), (0, .ref h), (1, .int (zI (↑m0 : Int))), (2, .int (zI (↑rd : Int)))]) hx hb dX5_settle_13 hl (by decide) rfl (fun ls hl => ?_)
        have lp15 : ∀ (k2 : Nat), ∀ (i : Nat) (mk : Nat) (an : Bool) (q3 : Int) (Pb : Nat → Int) (fL : gF) (H : Heap) (locs : List Loc) (ls : Array Slot), (6 - i < k2) → ((i : Int) ≤ Pa 9) → ((mk, an, Pb) = sIt sLkT (m0, false, Pa) i) → (q3 = if an = true then 0 else 1) → (mk < 64) → (wfS Pb 1000000000000000) → (lkOk Pb) → (Pb 9 = Pa 9) → (bS Pb = bS Pa) → (∀ q, (q < h ∨ h + 23 ≤ q) → fL q = f q) → gH g b0 n fL s.heap H locs → (planAt g fL h Pb) → lv_has ls 5 [(0, .ref h), (1, .int (zI (↑mk : Int))), (2, .int (zI (↑rd : Int))), (3, .int (zI q3)), (4, .int (zI (↑i : Int)))] → W p l e0 { frames := 2, cells := 0, slots := 0, locals := 50 } s m args below meth c H locs 0 0 (MQ below (va_Qv (po_X5_settle g f h P) (gB g b0 n) (gA b0)) args s 0 0 (gA b0)) (F0 m 15 ls []) := by
          intro k2
          induction k2 with
          | zero =>
            intro i mk an q3 Pb fL H locs ls hk hi hst hq3 hmk hwk hlkb hk9 hbs hfr hM hL hl
            exact absurd hk (Nat.not_lt_zero _)
          | succ k2 ih15 =>
            intro i mk an q3 Pb fL H locs ls hk hi hst hq3 hmk hwk hlkb hk9 hbs hfr hM hL hl
            have h91 := hla.1.1
            have h92 := hla.1.2
            have h91b := hlkb.1.1
            have h92b := hlkb.1.2
            refine lv_iload hx hb dX5_settle_15 (lv_at hl 4 rfl) ?_
            refine lv_aload_n hx hb dX5_settle_17 rfl (lv_at hl 0 rfl) ?_
            obtain ⟨ho1, ho2, ho3, ho4, ho5⟩ := id hL
            refine g_get (ci := 7) (v := .ref (h + 10)) (C := RX5) (T := TX5) (N := 11) hx hb hts iU_X5 hown hK hM ⟨by omega, by omega⟩ ho1 rfl 2 (by decide) (hts _ u_168) (fun _ h9 => h9) rfl dX5_settle_18 ?_
            obtain ⟨ho6, ho7, ho8, ho9, ho10, ho11⟩ := id ho4
            refine g_getN (ci := 6) (v := .int (zI (Pb 9))) (C := RX4) (T := TX4) (N := 6) hx hb hts iU_X4 hown hK hM ⟨by omega, by omega⟩ ho6 rfl 5 (by decide) (hts _ u_115) (fun _ h9 => h9) rfl dX5_settle_21 ?_
            refine g_icmp_ge (tgt := 67) hx hb dX5_settle_24 (by decide) ⟨by omega, by omega⟩ ⟨by omega, by omega⟩ (fun c24 => ?_) (fun c24 => ?_)
            · skip
              have hin : i = (Pa 9).toNat := by omega
              have hrr : sRnd m0 Pa = (mk, an, Pb) := by unfold sRnd; rw [← hin, ← hst]
              have hrnd : sIt sSetT (0, false, P) (rd + 1) = (mk, !an, Pb) := by rw [sIt_succ, ← hso]; simp only [sSetT, hrr]; rfl
              have hqr : rI q3 := by rw [hq3]; split <;> decide
              refine lv_iload_n hx hb dX5_settle_67 rfl (lv_at hl 3 rfl) ?_
              refine g_if_eq (tgt := 72) hx hb dX5_settle_68 (by decide) hqr (fun c68 => ?_) (fun c68 => ?_)
              · skip
                have han2 : an = true := by
                  cases an
                  · simp at hq3; omega
                  · rfl
                refine lv_iinc (v := zI ((↑rd : Int) + 1)) (lv' := [(2, .int (zI ((↑rd : Int) + 1))), (0, .ref h), (1, .int (zI (↑mk : Int))), (3, .int (zI q3)), (4, .int (zI (↑i : Int)))]) hx hb dX5_settle_72 hl (k := 2) rfl (zI_add _ _) (by decide) rfl (fun ls hl => ?_)
                refine lv_goto (tgt := 4) hx hb dX5_settle_75 (by decide) ?_
                exact ih4 (rd + 1) mk Pb fL _ _ _ (by omega) (by omega) (by rw [hrnd, han2]; rfl) hmk hwk hlkb (by omega) (fun q hq => (hfr (q) (by omega))) hM hL (lv_sub hl [1, 2, 0] rfl)
              · skip
                refine g_vret hx hb hr hlk hK hM dX5_settle_71 ?_
                have han2 : an = false := by
                  cases an
                  · rfl
                  · simp at hq3; omega
                have h7 : sIt sSetT (0, false, P) 7 = (mk, true, Pb) := by
                  have := sIt_stab (d := 6 - rd) (k := rd + 1) (s := (mk, true, Pb)) (step := sSetT) (s0 := (0, false, P)) (fun k => by simp only [sSetT]; rfl) (by rw [hrnd, han2]; rfl)
                  rwa [show rd + 1 + (6 - rd) = 7 by omega] at this
                refine ⟨?_, (fun q hq => (hfr (q) (by omega)))⟩
                unfold sSet
                rw [h7]
                exact hL
            · skip
              refine lv_iload hx hb dX5_settle_27 (lv_at hl 4 rfl) ?_
              refine g_bipush hx hb dX5_settle_29 (by decide) ?_
              refine g_icmp_ge (tgt := 67) hx hb dX5_settle_31 (by decide) ⟨by omega, by omega⟩ (by decide) (fun c31 => ?_) (fun c31 => ?_)
              · skip
                have hin : i = (Pa 9).toNat := by omega
                have hrr : sRnd m0 Pa = (mk, an, Pb) := by unfold sRnd; rw [← hin, ← hst]
                have hrnd : sIt sSetT (0, false, P) (rd + 1) = (mk, !an, Pb) := by rw [sIt_succ, ← hso]; simp only [sSetT, hrr]; rfl
                have hqr : rI q3 := by rw [hq3]; split <;> decide
                refine lv_iload_n hx hb dX5_settle_67 rfl (lv_at hl 3 rfl) ?_
                refine g_if_eq (tgt := 72) hx hb dX5_settle_68 (by decide) hqr (fun c68 => ?_) (fun c68 => ?_)
                · skip
                  have han2 : an = true := by
                    cases an
                    · simp at hq3; omega
                    · rfl
                  refine lv_iinc (v := zI ((↑rd : Int) + 1)) (lv' := [(2, .int (zI ((↑rd : Int) + 1))), (0, .ref h), (1, .int (zI (↑mk : Int))), (3, .int (zI q3)), (4, .int (zI (↑i : Int)))]) hx hb dX5_settle_72 hl (k := 2) rfl (zI_add _ _) (by decide) rfl (fun ls hl => ?_)
                  refine lv_goto (tgt := 4) hx hb dX5_settle_75 (by decide) ?_
                  exact ih4 (rd + 1) mk Pb fL _ _ _ (by omega) (by omega) (by rw [hrnd, han2]; rfl) hmk hwk hlkb (by omega) (fun q hq => (hfr (q) (by omega))) hM hL (lv_sub hl [1, 2, 0] rfl)
                · skip
                  refine g_vret hx hb hr hlk hK hM dX5_settle_71 ?_
                  have han2 : an = false := by
                    cases an
                    · rfl
                    · simp at hq3; omega
                  have h7 : sIt sSetT (0, false, P) 7 = (mk, true, Pb) := by
                    have := sIt_stab (d := 6 - rd) (k := rd + 1) (s := (mk, true, Pb)) (step := sSetT) (s0 := (0, false, P)) (fun k => by simp only [sSetT]; rfl) (by rw [hrnd, han2]; rfl)
                    rwa [show rd + 1 + (6 - rd) = 7 by omega] at this
                  refine ⟨?_, (fun q hq => (hfr (q) (by omega)))⟩
                  unfold sSet
                  rw [h7]
                  exact hL
              · skip
                have hi9 : (i : Int) < Pb 9 := by omega
                refine lv_iload_n hx hb dX5_settle_34 rfl (lv_at hl 1 rfl) ?_
                refine lv_iload hx hb dX5_settle_35 (lv_at hl 4 rfl) ?_
                refine g_bit_ne (tgt := 61) (m0 := mk) (k0 := i) hx hb dX5_settle_37 dX5_settle_38 dX5_settle_39 dX5_settle_40 (by decide) (by omega) (by omega) (fun c37 => ?_) (fun c37 => ?_)
                · skip
                  refine lv_iinc (v := zI ((↑i : Int) + 1)) (lv' := [(4, .int (zI ((↑i : Int) + 1))), (0, .ref h), (1, .int (zI (↑mk : Int))), (2, .int (zI (↑rd : Int))), (3, .int (zI q3))]) hx hb dX5_settle_61 hl (k := 4) rfl (zI_add _ _) (by decide) rfl (fun ls hl => ?_)
                  refine lv_goto (tgt := 15) hx hb dX5_settle_64 (by decide) ?_
                  exact ih15 (i + 1) mk an q3 Pb fL _ _ _ (by omega) (by omega) (by rw [sIt_succ, ← hst]; simp only [sLkT]; rw [if_neg (fun hh => by rw [c37] at hh; exact absurd hh.1 (by decide))]) hq3 hmk hwk hlkb hk9 hbs (fun q hq => (hfr (q) (by omega))) hM hL (lv_sub hl [1, 2, 3, 4, 0] rfl)
                · skip
                  refine lv_aload_n hx hb dX5_settle_43 rfl (lv_at hl 0 rfl) ?_
                  refine lv_iload hx hb dX5_settle_44 (lv_at hl 4 rfl) ?_
                  have hC14 := c_X5_passOn l g b0 n fL h Pb i hL hrg hwk.1 hi9 hlkb.1 (hlkb.2 i hi9) (fun e9 he9 => (hwk.E.2 e9 he9).1) (fun e9 he9 => (hwk.E.2 e9 he9).2.1)
                  refine g_callVi (ci := 7) (C := RX5) (T := TX5) (N := 11) (As := [.int (zI (↑i : Int))]) (rest := []) ⟨hx, hb, hml, hown, hts⟩ hK hM hC14 (cuV (n := 1) hts u_520 u_517 u_4 (by decide) u_519 us_18 ⟨Nat.le_of_ble_eq_true rfl, Nat.le_of_ble_eq_true rfl⟩) ⟨by omega, by omega⟩ ho1 rfl rfl hl.1 rfl (Nat.le_of_ble_eq_true rfl) dX5_settle_46 ⟨Nat.zero_le _, Nat.zero_le _⟩ (fun r46 f15 H locs hM hp16 => ?_)
                  obtain ⟨rfl, hn13, o12⟩ := hp16
                  obtain ⟨P1, hP1⟩ : ∃ Q : Nat → Int, Q = (if 0 < sOver Pb i then sLnk Pb i else Pb) := ⟨_, rfl⟩
                  rw [← hP1] at hn13
                  refine g_ifb_eq (tgt := 61) hx hb dX5_settle_49 (by decide) (fun c49 => ?_) (fun c49 => ?_)
                  · skip
                    have hP2 : P1 = Pb := by
                      rw [hP1]
                      by_cases ho : 0 < sOver Pb i
                      · have hsl := sLnk_inv hwk hlkb (by omega) hi9 ho
                        have hz : sPass Pb i = 0 := by have := hsl.2.2.1; by_cases hq : 0 < sPass Pb i; exact absurd ⟨ho, hq⟩ c49; omega
                        rw [if_pos ho, sLnk_0 hz]
                      · rw [if_neg ho]
                    have hp17 := hn13
                    rw [hP2] at hp17
                    refine lv_iinc (v := zI ((↑i : Int) + 1)) (lv' := [(4, .int (zI ((↑i : Int) + 1))), (0, .ref h), (1, .int (zI (↑mk : Int))), (2, .int (zI (↑rd : Int))), (3, .int (zI q3))]) hx hb dX5_settle_61 hl (k := 4) rfl (zI_add _ _) (by decide) rfl (fun ls hl => ?_)
                    refine lv_goto (tgt := 15) hx hb dX5_settle_64 (by decide) ?_
                    exact ih15 (i + 1) mk an q3 Pb f15 _ _ _ (by omega) (by omega) (by rw [sIt_succ, ← hst]; simp only [sLkT]; rw [if_neg (fun hh => c49 hh.2)]) hq3 hmk hwk hlkb hk9 hbs (fun q hq => ((o12 (q) (by omega)).trans (hfr (q) (by omega)))) hM hp17 (lv_sub hl [1, 2, 3, 4, 0] rfl)
                  · skip
                    have hP2 : P1 = sLnk Pb i := by rw [hP1, if_pos c49.1]
                    have hp18 := hn13
                    rw [hP2] at hp18
                    have hsl := sLnk_inv hwk hlkb (by omega) hi9 c49.1
                    refine lv_iload_n hx hb dX5_settle_52 rfl (lv_at hl 1 rfl) ?_
                    refine g_iconst hx hb dX5_settle_53 ?_
                    refine lv_iload hx hb dX5_settle_54 (lv_at hl 4 rfl) ?_
                    refine g_bitset (m0 := mk) (k0 := i) hx hb dX5_settle_56 dX5_settle_57 (by omega) (by omega) ?_
                    refine lv_istore_n (lv' := [(1, .int (zI (↑(mk ||| 2 ^ i) : Int))), (0, .ref h), (2, .int (zI (↑rd : Int))), (3, .int (zI q3)), (4, .int (zI (↑i : Int)))]) hx hb dX5_settle_58 rfl hl (by decide) rfl (fun ls hl => ?_)
                    refine g_iconst hx hb dX5_settle_59 ?_
                    refine lv_istore_n (lv' := [(3, .int (zI 0)), (1, .int (zI (↑(mk ||| 2 ^ i) : Int))), (0, .ref h), (2, .int (zI (↑rd : Int))), (4, .int (zI (↑i : Int)))]) hx hb dX5_settle_60 rfl hl (by decide) rfl (fun ls hl => ?_)
                    refine lv_iinc (v := zI ((↑i : Int) + 1)) (lv' := [(4, .int (zI ((↑i : Int) + 1))), (3, .int (zI 0)), (1, .int (zI (↑(mk ||| 2 ^ i) : Int))), (0, .ref h), (2, .int (zI (↑rd : Int)))]) hx hb dX5_settle_61 hl (k := 4) rfl (zI_add _ _) (by decide) rfl (fun ls hl => ?_)
                    refine lv_goto (tgt := 15) hx hb dX5_settle_64 (by decide) ?_
                    exact ih15 (i + 1) (mk ||| 2 ^ i) true 0 (sLnk Pb i) f15 _ _ _ (by omega) (by omega) (by rw [sIt_succ, ← hst]; simp only [sLkT]; rw [if_pos ⟨c37, c49.1, c49.2⟩]) rfl (Nat.or_lt_two_pow (n := 6) hmk (Nat.pow_lt_pow_right (by omega) (by omega))) hsl.1 hsl.2.1 (by rw [sLnk_at (by omega)]; exact hk9) (by rw [hsl.2.2.2]; exact hbs) (fun q hq => ((o12 (q) (by omega)).trans (hfr (q) (by omega)))) hM hp18 (lv_sub hl [3, 2, 4, 1, 0] rfl)
        exact lp15 (7) 0 m0 false 1 Pa fL _ _ _ (by omega) (by omega) rfl rfl hm0 hwa hla rfl (by rfl) (fun q hq => (hfr (q) (by omega))) hM hL (lv_sub hl [2, 3, 4, 1, 0] rfl)
  exact lp4 (8) 0 0 P f _ _ _ (by omega) (by omega) rfl (by omega) hws hlo rfl (fun q hq => rfl) hM hE (lv_sub hl [2, 1, 0] rfl)
