theorem brAt_nn {g : gE} {f : gF} {h : Nat} {B P T : Nat → Int} {sc pr ex : Int} (H : brAt g f h B P T sc pr ex) (h0 : 0 ≤ sc) : brAt g f h B P T (↑sc.toNat) pr ex := by
  rw [Int.toNat_of_nonneg h0]; exact H
theorem mix_up (B B2 P P2 T T2 : Nat → Nat → Int) (sc sc2 pr pr2 ex ex2 : Nat → Int) (i : Nat) : ∀ k, k < 6 →
    (fun k => if k < i + 1 then B2 k else B k) k = fu (fun k => if k < i then B2 k else B k) i (B2 i) k ∧ (fun k => if k < i + 1 then P2 k else P k) k = fu (fun k => if k < i then P2 k else P k) i (P2 i) k ∧ (fun k => if k < i + 1 then T2 k else T k) k = fu (fun k => if k < i then T2 k else T k) i (T2 i) k ∧ (fun k => if k < i + 1 then sc2 k else sc k) k = fu (fun k => if k < i then sc2 k else sc k) i (sc2 i) k ∧ (fun k => if k < i + 1 then pr2 k else pr k) k = fu (fun k => if k < i then pr2 k else pr k) i (pr2 i) k ∧ (fun k => if k < i + 1 then ex2 k else ex k) k = fu (fun k => if k < i then ex2 k else ex k) i (ex2 i) k := by
  intro k hk
  simp only [fu]
  by_cases h : k = i
  · subst h
    simp
  · by_cases h2 : k < i
    · have : k < i + 1 := by omega
      simp [h, h2, this]
    · have : ¬ k < i + 1 := by omega
      simp [h, h2, this]
/-- all but the object itself, behind a change of the object -/
theorem brsAt.kept_o {g : gE} {f f1 : gF} {h : Nat} {B P T : Nat → Nat → Int} {sc pr ex : Nat → Int} {ps : Int} (H : brsAt g f h B P T sc pr ex ps) (o : ∀ q, q ≠ h → f1 q = f q) : True ∧ arB g f1 (h + 49) 6 (fun k => some (brB h k)) ∧ ∀ k, k < 6 → brAt g f1 (brB h k) (B k) (P k) (T k) (sc k) (pr k) (ex k) := by
  obtain ⟨h0, h1, h2⟩ := H
  refine ⟨trivial, h1.kept (o _ (by omega)), fun k hk => ?_⟩
  have := brB_in (h := h) hk
  exact (h2 k hk).kept (fun q a b => o q (by omega))
def po_X1_open (g : gE) (f : gF) (h : Nat) (B P T : Nat → Nat → Int) (sc pr ex : Nat → Int) (ps : Nat) (i : Nat) : gF → Prop := fun f1 => brsAt g f1 h (fu B i (P ps)) (fu P i (P ps)) T (fu sc i 0) (fu pr i (↑ps)) (fu ex i 1) (↑ps) ∧ ∀ q, (q < h ∨ h + 290 ≤ q) → f1 q = f q
set_option maxRecDepth 100000 in
set_option maxHeartbeats 1000000 in
/-- open(number), a free one -/
theorem c_X1_open (l : Launch) (g : gE) (b0 n : Nat) (f : gF) (h : Nat) (B P T : Nat → Nat → Int) (sc pr ex : Nat → Int) (ps : Nat) (i : Nat) (hE : brsAt g f h B P T sc pr ex (↑ps)) (hrg : b0 ≤ h ∧ h + 290 ≤ b0 + n) (hex : ∀ k, k < 6 → ex k = 0 ∨ ex k = 1) (hps : ps < 6) (hpx : ex ps = 1) (hi : i < 6) (hne : i ≠ ps) (hsc : ∀ k, k < 6 → 0 ≤ sc k) : cV l yX1_open cX1_open 3 none 4 124 [.ref h, .int (zI (↑i : Int))] g b0 n f (po_X1_open g f h B P T sc pr ex ps i) := by
  refine gs_v (cc := cX1_open) (maxL := 3) (ret := none) (by decide) (Nat.le_of_ble_eq_true rfl) ?_
  intro p e0 s m args below meth c ls hx hb hr hml hown hts hlk hK hM hl
  have hl : lv_has ls 3 [(0, .ref h), (1, .int (zI (↑i : Int)))] := hl
  have hbi := brB_in (h := h) hi
  have hbp := brB_in (h := h) hps
  refine lv_iload_n hx hb dX1_open_0 rfl (lv_at hl 1 rfl) ?_
  refine g_if_lt (tgt := 10) hx hb dX1_open_1 (by decide) ⟨by omega, by omega⟩ (fun c1 => ?_) (fun c1 => ?_)
  · skip
    refine g_vret hx hb hr hlk hK hM dX1_open_10 ?_
    exfalso; omega
  · skip
    refine lv_iload_n hx hb dX1_open_4 rfl (lv_at hl 1 rfl) ?_
    refine g_bipush hx hb dX1_open_5 (by decide) ?_
    refine g_icmp_lt (tgt := 11) hx hb dX1_open_7 (by decide) ⟨by omega, by omega⟩ (by decide) (fun c7 => ?_) (fun c7 => ?_)
    · skip
      refine lv_aload_n hx hb dX1_open_11 rfl (lv_at hl 0 rfl) ?_
      obtain ⟨ho1, ho2, ho3⟩ := id hE
      refine g_get (ci := 3) (v := .ref (h + 49)) (C := RX1) (T := TX1) (N := 3) hx hb hts iU_X1 hown hK hM ⟨by omega, by omega⟩ ho1 rfl 1 (by decide) (hts _ u_235) (fun _ h9 => h9) rfl dX1_open_12 ?_
      refine lv_iload_n hx hb dX1_open_15 rfl (lv_at hl 1 rfl) ?_
      refine g_aald hx hb hK hM ⟨by omega, by omega⟩ ho2 (by omega) (by omega) (by decide) dX1_open_16 (q := (brB h i)) rfl ?_
      refine lv_astore_n (lv' := [(2, .ref (brB h i)), (0, .ref h), (1, .int (zI (↑i : Int)))]) hx hb dX1_open_17 rfl hl (by decide) rfl (fun ls hl => ?_)
      have hbb4 := brB_in (h := h) (k := i) (by omega)
      have hbr4 := hE.2.2 i (by omega)
      refine lv_aload_n hx hb dX1_open_18 rfl (lv_at hl 0 rfl) ?_
      refine lv_ifnull hx hb dX1_open_19 ?_
      refine lv_aload_n hx hb dX1_open_22 rfl (lv_at hl 0 rfl) ?_
      refine lv_aload_n hx hb dX1_open_23 rfl (lv_at hl 1 rfl) ?_
      have hC5 := c_X1_here l g b0 n f h B P T sc pr ex ps hE hrg hex hps hpx
      refine g_callVq (ci := 3) (C := RX1) (T := TX1) (N := 3) (As := []) (rest := [.ref (brB h i)]) ⟨hx, hb, hml, hown, hts⟩ hK hM hC5 (cuV (n := 0) hts u_366 u_990 u_2 (by decide) u_364 u_365 ⟨Nat.le_of_ble_eq_true rfl, Nat.le_of_ble_eq_true rfl⟩) ⟨by omega, by omega⟩ ho1 rfl rfl hl.1 rfl (Nat.le_of_ble_eq_true rfl) dX1_open_24 ⟨Nat.zero_le _, Nat.zero_le _⟩ (fun r24 f6 H locs hM hp7 => ?_)
      obtain ⟨rfl, rfl⟩ := hp7
      have hbb8 := brB_in (h := h) (k := ps) (by omega)
      have hbr8 := hE.2.2 ps (by omega)
      obtain ⟨ho9, ho10, ho11, ho12⟩ := id hbr8
      refine g_getN (ci := 2) (v := .ref ((brB h ps) + 24)) (C := RX0) (T := TX0) (N := 6) hx hb hts iU_X0 hown hK hM ⟨by omega, by omega⟩ ho9 rfl 1 (by decide) (hts _ u_209) (fun _ h9 => h9) rfl dX1_open_27 ?_
      refine lv_aload_n hx hb dX1_open_30 rfl (lv_at hl 1 rfl) ?_
      refine g_get (ci := 3) (v := .int (zI (↑ps : Int))) (C := RX1) (T := TX1) (N := 3) hx hb hts iU_X1 hown hK hM ⟨by omega, by omega⟩ ho1 rfl 2 (by decide) (hts _ u_236) (fun _ h9 => h9) rfl dX1_open_31 ?_
      have hC15 := c_X0_beginWith l g b0 n f (brB h i) (B i) (P i) (T i) (sc i).toNat (pr i) (ex i) (brB h ps + 24) (P ps) (↑ps) (brAt_nn hbr4 (hsc i hi)) ⟨by omega, by omega⟩ ho11 ⟨by omega, by omega⟩ (by have := brB_dis (h := h) hne; omega)
      obtain ⟨ho18, ho19, ho20, ho21⟩ := id hbr4
      refine g_callVv (ci := 2) (C := RX0) (T := TX0) (N := 6) (As := [.ref ((brB h ps) + 24), .int (zI (↑ps : Int))]) (rest := []) ⟨hx, hb, hml, hown, hts⟩ hK hM hC15 (cuV (n := 2) hts u_994 u_991 u_3 (by decide) u_992 u_993 ⟨Nat.le_of_ble_eq_true rfl, Nat.le_of_ble_eq_true rfl⟩) ⟨by omega, by omega⟩ ho18 rfl rfl hl.1 rfl (Nat.le_of_ble_eq_true rfl) dX1_open_34 ⟨Nat.zero_le _, Nat.zero_le _⟩ (fun f16 H locs hM hp17 => ?_)
      obtain ⟨hn14, o13⟩ := hp17
      refine g_vret hx hb hr hlk hK hM dX1_open_37 ?_
      refine ⟨(hE.one (by omega) hn14 o13).cong (fun k hk => ⟨rfl, rfl, ?_, rfl, rfl, rfl⟩), fun q hq => o13 q (by omega)⟩
      by_cases hz : k = i
      · rw [hz, fu_s]
      · rw [fu_n hz]
    · skip
      refine g_vret hx hb hr hlk hK hM dX1_open_10 ?_
      exfalso; omega

def po_X1_copyFrom (g : gE) (f : gF) (h : Nat) (B P T : Nat → Nat → Int) (sc pr ex : Nat → Int) (ps : Int) (h2 : Nat) (B2 P2 T2 : Nat → Nat → Int) (sc2 pr2 ex2 : Nat → Int) (ps2 : Int) : gF → Prop := fun f1 => brsAt g f1 h B2 P2 T2 sc2 pr2 ex2 ps2 ∧ ∀ q, (q < h ∨ h + 290 ≤ q) → f1 q = f q
set_option maxRecDepth 100000 in
set_option maxHeartbeats 1000000 in
/-- copyFrom(other) -/
theorem c_X1_copyFrom (l : Launch) (g : gE) (b0 n : Nat) (f : gF) (h : Nat) (B P T : Nat → Nat → Int) (sc pr ex : Nat → Int) (ps : Int) (h2 : Nat) (B2 P2 T2 : Nat → Nat → Int) (sc2 pr2 ex2 : Nat → Int) (ps2 : Int) (hE : brsAt g f h B P T sc pr ex ps) (hrg : b0 ≤ h ∧ h + 290 ≤ b0 + n) (hG : brsAt g f h2 B2 P2 T2 sc2 pr2 ex2 ps2) (hrg2 : b0 ≤ h2 ∧ h2 + 290 ≤ b0 + n) (hd : h + 290 ≤ h2 ∨ h2 + 290 ≤ h) (hex2 : ∀ k, k < 6 → ex2 k = 0 ∨ ex2 k = 1) (hsc : ∀ k, k < 6 → 0 ≤ sc k) (hsc2 : ∀ k, k < 6 → 0 ≤ sc2 k) : cV l yX1_copyFrom cX1_copyFrom 5 none 4 123 [.ref h, .ref h2] g b0 n f (po_X1_copyFrom g f h B P T sc pr ex ps h2 B2 P2 T2 sc2 pr2 ex2 ps2) := by
  refine gs_v (cc := cX1_copyFrom) (maxL := 5) (ret := none) (by decide) (Nat.le_of_ble_eq_true rfl) ?_
  intro p e0 s m args below meth c ls hx hb hr hml hown hts hlk hK hM hl
  have hl : lv_has ls 5 [(0, .ref h), (1, .ref h2)] := hl
  refine g_iconst hx hb dX1_copyFrom_0 ?_
  refine lv_istore_n (lv' := [(2, .int (zI 0)), (0, .ref h), (1, .ref h2)]) hx hb dX1_copyFrom_1 rfl hl (by decide) rfl (fun ls hl => ?_)
  have lp2 : ∀ (k : Nat), ∀ (i : Nat) (fL : gF) (H : Heap) (locs : List Loc) (ls : Array Slot), (6 - i < k) → (i ≤ 6) → (∀ q, (q < h ∨ h + 290 ≤ q) → fL q = f q) → gH g b0 n fL s.heap H locs → (brsAt g fL h (fun k => if k < i then B2 k else B k) (fun k => if k < i then P2 k else P k) (fun k => if k < i then T2 k else T k) (fun k => if k < i then sc2 k else sc k) (fun k => if k < i then pr2 k else pr k) (fun k => if k < i then ex2 k else ex k) ps) → (brsAt g fL h2 B2 P2 T2 sc2 pr2 ex2 ps2) → lv_has ls 5 [(0, .ref h), (1, .ref h2), (2, .int (zI (↑i : Int)))] → W p l e0 { frames := 4, cells := 0, slots := 0, locals := 123 } s m args below meth c H locs 0 0 (MQ below (va_Qv (po_X1_copyFrom g f h B P T sc pr ex ps h2 B2 P2 T2 sc2 pr2 ex2 ps2) (gB g b0 n) (gA b0)) args s 0 0 (gA b0)) (F0 m 2 ls []) := by
    intro k
    induction k with
    | zero =>
      intro i fL H locs ls hk hi hfr hM hL1 hL2 hl
      exact absurd hk (Nat.not_lt_zero _)
    | succ k ih2 =>
      intro i fL H locs ls hk hi hfr hM hL1 hL2 hl
      refine lv_iload_n hx hb dX1_copyFrom_2 rfl (lv_at hl 2 rfl) ?_
      refine g_bipush hx hb dX1_copyFrom_3 (by decide) ?_
      refine g_icmp_ge (tgt := 44) hx hb dX1_copyFrom_5 (by decide) ⟨by omega, by omega⟩ (by decide) (fun c5 => ?_) (fun c5 => ?_)
      · skip
        refine lv_aload_n hx hb dX1_copyFrom_44 rfl (lv_at hl 0 rfl) ?_
        refine lv_aload_n hx hb dX1_copyFrom_45 rfl (lv_at hl 1 rfl) ?_
        obtain ⟨ho1, ho2, ho3⟩ := id hL2
        refine g_get (ci := 3) (v := .int (zI ps2)) (C := RX1) (T := TX1) (N := 3) hx hb hts iU_X1 hown hK hM ⟨by omega, by omega⟩ ho1 rfl 2 (by decide) (hts _ u_236) (fun _ h9 => h9) rfl dX1_copyFrom_46 ?_
        obtain ⟨ho4, ho5, ho6⟩ := id hL1
        refine g_put (ci := 3) (v := .int (zI ps2)) (ty := .int) (C := RX1) (T := TX1) (N := 3) hx hb hts iU_X1 tyX1 tyX1_ok nmX1 hown hK hM ⟨by omega, by omega⟩ ho4 rfl 2 (by decide) (hts _ u_236) (fun _ h9 => h9) rfl (by decide +kernel) rfl rfl (Nat.le_of_ble_eq_true rfl) dX1_copyFrom_49 (fun f7 H locs hM hf9 o8 => ?_)
        have hf9 : f7 (h) = .inr (3, [.ref (h + 1), .ref (h + 49), .int (zI ps2)]) := hf9
        refine g_vret hx hb hr hlk hK hM dX1_copyFrom_52 ?_
        have hi6 : i = 6 := by omega
        subst hi6
        have hob := hf9
        obtain ⟨hz0, hz1, hz2⟩ := (hL1.cong (B' := B2) (P' := P2) (T' := T2) (sc' := sc2) (pr' := pr2) (ex' := ex2) (fun k hk => by simp only [if_pos hk, and_self])).kept_o o8
        exact ⟨⟨hob, hz1, hz2⟩, (fun q hq => ((o8 (q) (by omega)).trans (hfr (q) (by omega))))⟩
      · skip
        refine lv_aload_n hx hb dX1_copyFrom_8 rfl (lv_at hl 0 rfl) ?_
        obtain ⟨ho10, ho11, ho12⟩ := id hL1
        refine g_get (ci := 3) (v := .ref (h + 49)) (C := RX1) (T := TX1) (N := 3) hx hb hts iU_X1 hown hK hM ⟨by omega, by omega⟩ ho10 rfl 1 (by decide) (hts _ u_235) (fun _ h9 => h9) rfl dX1_copyFrom_9 ?_
        refine lv_iload_n hx hb dX1_copyFrom_12 rfl (lv_at hl 2 rfl) ?_
        refine g_aald hx hb hK hM ⟨by omega, by omega⟩ ho11 (by omega) (by omega) (by decide) dX1_copyFrom_13 (q := (brB h i)) rfl ?_
        refine lv_astore_n (lv' := [(3, .ref (brB h i)), (0, .ref h), (1, .ref h2), (2, .int (zI (↑i : Int)))]) hx hb dX1_copyFrom_14 rfl hl (by decide) rfl (fun ls hl => ?_)
        refine lv_aload_n hx hb dX1_copyFrom_15 rfl (lv_at hl 2 rfl) ?_
        obtain ⟨ho13, ho14, ho15⟩ := id hL2
        refine g_get (ci := 3) (v := .ref (h2 + 49)) (C := RX1) (T := TX1) (N := 3) hx hb hts iU_X1 hown hK hM ⟨by omega, by omega⟩ ho13 rfl 1 (by decide) (hts _ u_235) (fun _ h9 => h9) rfl dX1_copyFrom_16 ?_
        refine lv_iload_n hx hb dX1_copyFrom_19 rfl (lv_at hl 3 rfl) ?_
        refine g_aald hx hb hK hM ⟨by omega, by omega⟩ ho14 (by omega) (by omega) (by decide) dX1_copyFrom_20 (q := (brB h2 i)) rfl ?_
        refine lv_astore (lv' := [(4, .ref (brB h2 i)), (3, .ref (brB h i)), (0, .ref h), (1, .ref h2), (2, .int (zI (↑i : Int)))]) hx hb dX1_copyFrom_21 hl (by decide) rfl (fun ls hl => ?_)
        refine lv_aload_n hx hb dX1_copyFrom_23 rfl (lv_at hl 1 rfl) ?_
        have hbb16 := brB_in (h := h) (k := i) (by omega)
        have hbr16 := hL1.2.2 i (by omega)
        have hbb17 := brB_in (h := h2) (k := i) (by omega)
        have hbr17 := hL2.2.2 i (by omega)
        refine lv_ifnull hx hb dX1_copyFrom_24 ?_
        refine lv_aload hx hb dX1_copyFrom_27 (lv_at hl 0 rfl) ?_
        refine lv_ifnull hx hb dX1_copyFrom_29 ?_
        refine lv_aload_n hx hb dX1_copyFrom_32 rfl (lv_at hl 1 rfl) ?_
        refine lv_aload hx hb dX1_copyFrom_33 (lv_at hl 0 rfl) ?_
        have hb20 := brB_in (h := h) (k := i) (by omega)
        have hb21 := brB_in (h := h2) (k := i) (by omega)
        have hb22 := hL1.2.2 i (by omega)
        have hb23 := hL2.2.2 i (by omega)
        have hC24 := c_X0_copyFrom l g b0 n fL (brB h i) _ _ _ _ _ _ (brB h2 i) (B2 i) (P2 i) (T2 i) (sc2 i) (pr2 i) (ex2 i) (brAt_nn hb22 (by show (0 : Int) ≤ if i < i then sc2 i else sc i; rw [if_neg (by omega)]; exact hsc i (by omega))) ⟨by omega, by omega⟩ hb23 ⟨by omega, by omega⟩ (by omega) (hex2 i (by omega))
        obtain ⟨ho27, ho28, ho29, ho30⟩ := id hbr16
        refine g_callVv (ci := 2) (C := RX0) (T := TX0) (N := 6) (As := [.ref (brB h2 i)]) (rest := []) ⟨hx, hb, hml, hown, hts⟩ hK hM hC24 (cuV (n := 1) hts u_557 u_554 u_3 (by decide) u_555 u_556 ⟨Nat.le_of_ble_eq_true rfl, Nat.le_of_ble_eq_true rfl⟩) ⟨by omega, by omega⟩ ho27 rfl rfl hl.1 rfl (Nat.le_of_ble_eq_true rfl) dX1_copyFrom_35 ⟨Nat.zero_le _, Nat.zero_le _⟩ (fun f25 H locs hM hp26 => ?_)
        obtain ⟨hn19, o18⟩ := hp26
        have hw31 := (hL1.one (by omega) hn19 o18).cong (mix_up B B2 P P2 T T2 sc sc2 pr pr2 ex ex2 i)
        have o32 : ∀ q, (q < h ∨ h + 290 ≤ q) → f25 q = fL q := fun q hq => o18 q (by omega)
        refine lv_iinc (v := zI ((↑i : Int) + 1)) (lv' := [(2, .int (zI ((↑i : Int) + 1))), (4, .ref (brB h2 i)), (3, .ref (brB h i)), (0, .ref h), (1, .ref h2)]) hx hb dX1_copyFrom_38 hl (k := 4) rfl (zI_add _ _) (by decide) rfl (fun ls hl => ?_)
        refine lv_goto (tgt := 2) hx hb dX1_copyFrom_41 (by decide) ?_
        have hf33 := hL2.kept (fun q h1 h2 => (o32 (q) (by omega)))
        exact ih2 (i + 1) f25 _ _ _ (by omega) (by omega) (fun q hq => ((o32 (q) (by omega)).trans (hfr (q) (by omega)))) hM hw31 hf33 (lv_sub hl [3, 4, 0] rfl)
  exact lp2 (7) 0 f _ _ _ (by omega) (by omega) (fun q hq => rfl) hM (hE.cong (fun k hk => by simp only [Nat.not_lt_zero, if_false, and_self])) hG (lv_sub hl [1, 2, 0] rfl)
