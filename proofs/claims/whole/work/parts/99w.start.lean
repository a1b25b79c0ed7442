/-! ===== the law's entry ===== -/
theorem pOk_z : pOk (fun _ => 0) 0 := by
  have hn : ∀ {q : Prop} (k : Nat), (k : Int) < 0 → q := fun k h => absurd h (by omega)
  exact ⟨⟨by decide, fun e _ => ⟨(by decide : (-1 : Int) ≤ 0 ∧ (0 : Int) ≤ 9000000), (by decide : (0 : Int) ≤ 0 ∧ (0 : Int) ≤ 2)⟩⟩, ⟨by decide, fun r h => hn r h⟩, ⟨by decide, fun r h => hn r h⟩, ⟨by decide, by decide, fun e _ => Int.le_refl 0, by decide⟩, by decide, by decide, by decide, by decide, fun r h => hn r h⟩
theorem iU_J0 : ∀ w ∈ u_ws RJ0 TJ0 2, w ∈ wU := by decide +kernel
theorem iU_Jx00060 : ∀ w ∈ u_ws RJx00060 TJx00060 6, w ∈ wU := by decide +kernel
theorem ws_st : (stL.all (fun q => decide (Cond.stringRef RX8 q.1 q.2 ∈ lw_tbl))) = true := by decide +kernel
theorem ws_ex : (exW.all (fun w => decide (w ∈ lw_tbl))) = true := by decide +kernel
theorem ws_ot : (exW.all (fun w => w.onTables)) = true := by decide
theorem ws_nc : (exL.all (fun x => exL.all (fun y => decide (x = y) || decide (Cond.not (.castable x y) ∈ flatC (Jvm.Cond.and given_1 narrow_1))))) = true := by decide +kernel
theorem vx_cls6 {s : State} {args : Array Value} (hts : ∀ w ∈ wU, w.before args s = true) (hi : ∀ q ∈ [(RJ0, 4), (RJx00060, 6)], (Cond.instantiable q.1 q.2).before args s = true) : ∀ q ∈ vwCl, ∃ (cC : ClassId) (iS : Nat → Nat), u_Kn s q.1 q.2.1 q.2.2 cC iS :=
  List.forall_mem_cons.mpr ⟨u_known hts iU_J0 (hi (RJ0, 4) List.mem_cons_self), List.forall_mem_cons.mpr ⟨u_known hts iU_Jx00060 (hi (RJx00060, 6) (List.mem_cons_of_mem _ List.mem_cons_self)), List.forall_mem_cons.mpr ⟨u_known hts iU_X0 (hts _ u_39), List.forall_mem_cons.mpr ⟨u_known hts iU_X1 (hts _ u_33), List.forall_mem_cons.mpr ⟨u_known hts iU_X2 (hts _ u_51), List.forall_mem_cons.mpr ⟨u_known hts iU_X3 (hts _ u_130), List.forall_mem_cons.mpr ⟨u_known hts iU_X4 (hts _ u_99), List.forall_mem_cons.mpr ⟨u_known hts iU_X5 (hts _ u_45), List.forall_mem_cons.mpr ⟨u_known hts iU_X6 (hts _ u_248), List.forall_mem_cons.mpr ⟨u_known hts iU_X7 (hts _ u_76), List.forall_mem_cons.mpr ⟨u_known hts iU_X8 (hts _ u_25), List.forall_mem_cons.mpr ⟨u_known hts iU_X9 (hts _ u_1139), (fun _ h => nomatch h)⟩⟩⟩⟩⟩⟩⟩⟩⟩⟩⟩⟩
theorem arr_K {s : State} {args : Array Value} {ty : FieldType} (h : (Cond.arrayClass ty).before args s = true) : ∃ cA : ClassId, ArrOfT s cA ty ∧ s.vm.findClass ("[" ++ ty.toString) = some cA := by
  obtain ⟨cA, kA, comp, h1, h2, h3⟩ := Cond.arrayClass_spec h
  exact ⟨cA, fun n z => ⟨fun k h => (by cases h), kA, h2, comp, h3⟩, h1⟩
theorem arr_O {s : State} {args : Array Value} {C : String} (h : (Cond.arrayOver (.object C)).before args s = true) : ∃ cA : ClassId, ArrOfT s cA (.object C) ∧ va_RA s cA (.object C) := by
  obtain ⟨comp, cA, kA, h1, h2, h3, h4, h5⟩ := Cond.arrayOver_spec h
  exact ⟨cA, fun n z => ⟨fun k h => (by cases h), kA, h3, comp, h4⟩, kA, comp, h3, h4, h1, h5⟩
set_option maxRecDepth 100000 in
set_option maxHeartbeats 4000000 in
/-- the law's two objects and two rows are made; then its loop -/
theorem whole_start {p : Program} {e : Env} {s : State} {m : MethodId} {below : List Frame} {meth : Method} {c : Code} (l : Launch) (hflags : l.flags = flags0) {b L : Nat} {xs : Nat → Int32} (hL : L ≤ 2560) (C0 : lw_At p s m meth c b L xs) : W p l e room_1 s m #[Value.ref b] below meth c s.heap [] 0 0 (lw_Z below #[Value.ref b] s) (entryFrame m ([Value.ref b] : List Value).toArray 9) := by
  obtain ⟨hx, hb, hr, hml, hown, hts0, hX, hbl, hlk, hgv⟩ := id C0
  have hts : ∀ w ∈ wU, w.before #[Value.ref b] s = true := fun w hw => hts0 w (List.mem_filter.mp hw).1
  have hfl := flat_of_before _ hgv
  have hl9 : l.stackTraces = false := by unfold Launch.stackTraces; rw [hflags]; decide
  have hcls := vx_cls6 hts (List.forall_mem_cons.mpr ⟨hts0 _ (by decide +kernel), List.forall_mem_cons.mpr ⟨hts0 _ (by decide +kernel), fun _ h => nomatch h⟩⟩)
  obtain ⟨c8, i8, hK8⟩ := hcls (RX8, TX8, 9) (List.mem_of_getElem? (i := 10) rfl)
  have hF : ∀ k : Nat, ∃ x : ClassId × (Nat → Nat), ∀ q, vwCl[k]? = some q → u_Kn s q.1 q.2.1 q.2.2 x.1 x.2 := fun k => by
    cases h : vwCl[k]? with
    | none => exact ⟨(c8, i8), fun q hq => by cases hq⟩
    | some q =>
      obtain ⟨cC, iS, h9⟩ := hcls q (List.mem_of_getElem? h)
      exact ⟨(cC, iS), fun q' hq => by cases hq; exact h9⟩
  obtain ⟨F, hF⟩ := Classical.axiomOfChoice hF
  obtain ⟨a0, ha0, hn0⟩ := arr_K (hts (.arrayClass .char) u_274)
  obtain ⟨a1, ha1, hn1⟩ := arr_K (hts (.arrayClass .int) u_74)
  obtain ⟨a2, ha2, hn2⟩ := arr_K (hts (.arrayClass .long) u_73)
  obtain ⟨a3, ha3, hn3⟩ := arr_K (hts (.arrayClass .boolean) u_1217)
  have hAOw : (Cond.arrayOver (.object "EnvelopePlanner$Branch")).before #[Value.ref b] s = true := hts0 _ (by decide +kernel)
  obtain ⟨a4, ha4, hn4⟩ := arr_O hAOw
  obtain ⟨a5, ha5, hn5⟩ := arr_K (hts (.arrayClass .double) u_1598)
  have hK : va_K ((fun k => (F k).1, fun k => (F k).2) : va_G) vwCl (gT (((fun k => (F k).1, fun k => (F k).2) : va_G), fun k => if k = 0 then a0 else if k = 1 then a1 else if k = 2 then a2 else if k = 3 then a3 else if k = 4 then a4 else a5)) s := by
    refine ⟨fun k q hq => hF k q hq, fun k q hq => ?_⟩
    match k, hq with
    | 0, hq => cases hq; exact ⟨ha0, hn0⟩
    | 1, hq => cases hq; exact ⟨ha1, hn1⟩
    | 2, hq => cases hq; exact ⟨ha2, hn2⟩
    | 3, hq => cases hq; exact ⟨ha3, hn3⟩
    | 4, hq => cases hq; exact ⟨ha4, hn4⟩
    | 5, hq => cases hq; exact ⟨ha5, hn5⟩
    | k + 6, hq => exact absurd hq (by simp [gT])
  generalize hgg : ((((fun k => (F k).1, fun k => (F k).2) : va_G), fun k => if k = 0 then a0 else if k = 1 then a1 else if k = 2 then a2 else if k = 3 then a3 else if k = 4 then a4 else a5) : gE) = g at hK
  have hK : va_K g.1 vwCl (gT g) s := by rw [← hgg]; rw [← hgg] at hK; exact hK
  clear hgg
  obtain ⟨b0, hb0⟩ : ∃ b0, s.heap.size = b0 := ⟨_, rfl⟩
  have hE : xW b0 s s.heap := by
    refine ⟨⟨vx_Zqof (hts0 _ (by decide +kernel)) (hts0 _ (by decide +kernel)) (hfl _ (by decide +kernel)) (fun a h => by unfold gA; omega), vx_Zqof (hts0 _ (by decide +kernel)) (hts0 _ (by decide +kernel)) (hfl _ (by decide +kernel)) (fun a h => by unfold gA; omega)⟩, fun q hq => ?_, fun w hw => ?_, fun x hx9 y hy9 hne => ?_⟩
    · have h1 := hts0 _ (of_decide_eq_true (List.all_eq_true.mp ws_st q hq))
      obtain ⟨k9, cf, i9, sa, _, _, _, _, _, h6⟩ := Cond.stringRef_spec hK8.2.1 h1
      exact ⟨sa, vk_R.of h1 h6⟩
    · exact va_Nw.of (List.all_eq_true.mp ws_ot w hw) (hts0 _ (of_decide_eq_true (List.all_eq_true.mp ws_ex w hw)))
    · have h1 := List.all_eq_true.mp (List.all_eq_true.mp ws_nc x hx9) y hy9
      rw [Bool.or_eq_true] at h1
      rcases h1 with h1 | h1
      · exact absurd (of_decide_eq_true h1) hne
      · exact va_Nc.of (hfl _ (of_decide_eq_true h1))
  have hM0 : gH g b0 0 (fun _ => .inr (0, [])) s.heap s.heap [] := ⟨fun k q hq => by exact absurd hq (by simp [va_pl]), va_S.rf⟩
  have C : LWC p l s m #[Value.ref b] c g b0 b L xs := ⟨hx, hb, hml, hown, hts, hK, hE, hX, hbl, by omega, hl9, hL⟩
  have hl := lv_entry ([.ref b]) (n := 9) (Nat.le_of_ble_eq_true rfl)
  rw [lg_entry_eq]
  generalize (lg_sl ([.ref b]) ++ List.replicate (9 - (lg_sl ([.ref b])).length) Slot.unset).toArray = ls at hl ⊢
  have hl : lv_has ls 9 [(0, .ref b)] := hl
  have hAO : va_AO RX0 s := va_AO.of hAOw
  refine g_new (ci := 10) (C := RX8) (T := TX8) (N := 9) (a := b0) hx hb hts iU_X8 tyX8 tyX8_ok hown u_24 u_25 u_1 hK hM0 (by omega) (by omega) rfl [.null, .null, .null, .null, .int (zI 0), .int (zI 0), .int (zI 0), .int (zI 0), .int (zI 0)] (by decide +kernel) (Nat.le_of_ble_eq_true rfl) (Nat.le_of_ble_eq_true rfl) dL_law_0 (fun f1 H hM hz ho _ => ?_)
  refine lv_dup hx hb dL_law_3 rfl ?_
  have h8 := c_X8_init l g b0 (0 + 1) f1 b0 (Nat.le_refl _) (by omega) ho
  refine g_callIa (As := []) (rest := [.ref b0]) ⟨hx, hb, hml, hown, hts⟩ hK hM hz hAO h8 (cuI (k := 0) hts u_28 u_26 u_1 (by decide) u_27 ⟨Nat.le_of_ble_eq_true rfl, Nat.le_of_ble_eq_true rfl⟩ rfl) rfl hl.1 rfl (Nat.le_of_ble_eq_true rfl) dL_law_4 ⟨Nat.le_of_ble_eq_true rfl, Nat.le_of_ble_eq_true rfl⟩ (fun f2 H locs hM hp => ?_)
  obtain ⟨p1, p2, p3, p4, p5, _⟩ := hp
  refine lv_astore_n (lv' := [(1, .ref b0), (0, .ref b)]) hx hb dL_law_7 rfl hl (by decide) rfl (fun ls hl => ?_)
  refine g_size hM (by omega) (by omega) (fun hz => ?_)
  refine g_new (ci := 11) (C := RX9) (T := TX9) (N := 24) (a := b0 + 607) hx hb hts iU_X9 tyX9 tyX9_ok hown u_1138 u_1139 u_10 hK hM hz (by omega) rfl [.int (zI 0), .null, .null, .null, .null, .null, .null, .null, .null, .int (zI 0), .int (zI 0), .int (zI 0), .int (zI 0), .int (zI 0), .int (zI 0), .int (zI 0), .int (zI 0), .null, .null, .null, .int (zI 0), .int (zI 0), .int (zI 0), .null] (by decide +kernel) (Nat.le_of_ble_eq_true rfl) (Nat.le_of_ble_eq_true rfl) dL_law_8 (fun f3 H hM hz ho o3 => ?_)
  refine lv_dup hx hb dL_law_11 rfl ?_
  have h9 := c_X9_init l g b0 (0 + 1 + 606 + 1) f3 (b0 + 607) (by omega) (by omega) ho
  refine g_callI (As := []) (rest := [.ref (b0 + 607)]) ⟨hx, hb, hml, hown, hts⟩ hK hM hz h9 (cuI (k := 0) hts u_1142 u_1140 u_10 (by decide) u_1141 ⟨Nat.le_of_ble_eq_true rfl, Nat.le_of_ble_eq_true rfl⟩ rfl) rfl hl.1 rfl (Nat.le_of_ble_eq_true rfl) dL_law_12 ⟨Nat.le_of_ble_eq_true rfl, Nat.le_of_ble_eq_true rfl⟩ (fun f4 H locs hM hp => ?_)
  obtain ⟨q0, q1, q2, q3, q4, q5, q6, q7, q8, q9, q11, q12, o4⟩ := hp
  refine lv_astore_n (lv' := [(2, .ref (b0 + 607)), (1, .ref b0), (0, .ref b)]) hx hb dL_law_15 rfl hl (by decide) rfl (fun ls hl => ?_)
  refine g_size hM (by omega) (by omega) (fun hz => ?_)
  refine g_iconst hx hb dL_law_16 ?_
  refine g_newaJ hx hb hts u_73 hK hM hz (a := b0 + 620) (by omega) 1 (by omega) (by decide) (Nat.le_of_ble_eq_true rfl) (Nat.le_of_ble_eq_true rfl) dL_law_17 (fun f5 H hM hz hO o5 => ?_)
  refine lv_astore_n (lv' := [(3, .ref (b0 + 620)), (2, .ref (b0 + 607)), (1, .ref b0), (0, .ref b)]) hx hb dL_law_19 rfl hl (by decide) rfl (fun ls hl => ?_)
  refine g_iconst hx hb dL_law_20 ?_
  refine g_newaD hx hb hts u_1598 hK hM hz (a := b0 + 621) (by omega) 1 (by omega) (by decide) (Nat.le_of_ble_eq_true rfl) (Nat.le_of_ble_eq_true rfl) dL_law_21 (fun f6 H hM hz hD o6 => ?_)
  refine lv_astore (lv' := [(4, .ref (b0 + 621)), (3, .ref (b0 + 620)), (2, .ref (b0 + 607)), (1, .ref b0), (0, .ref b)]) hx hb dL_law_23 hl (by decide) rfl (fun ls hl => ?_)
  refine g_iconst hx hb dL_law_25 ?_
  refine lv_istore (lv' := lwL b b0 0) hx hb dL_law_26 hl (by decide) rfl (fun ls hl => ?_)
  have oo : ∀ q, q < b0 + 607 → f6 q = f2 q := fun q hq => (((o6 q (by omega)).trans (o5 q (by omega))).trans (o4 q (by omega))).trans (o3 q (by omega))
  have om : ∀ q, q < b0 + 620 → f6 q = f4 q := fun q hq => (o6 q (by omega)).trans (o5 q (by omega))
  have hpz : pOk (fun _ => 0) 0 := by exact pOk_z
  have hA : sOk 0 (fun _ => (fun _ => 0)) (fun _ => (fun _ => 0)) (fun _ => (fun _ => 0)) (fun _ => 0) (fun _ => -1) (fun k => if k = 0 then 1 else 0) 0 := by
    refine ⟨fun k _ => by by_cases h : k = 0 <;> simp [h], rfl, by omega, rfl, rfl, fun k _ => (by decide : rI (-1)), fun k hk0 _ hk1 => ?_, fun _ _ => hpz, fun _ _ => hpz, fun _ _ => Nat.zero_le 60, fun _ _ j hj => absurd hj (Nat.not_lt_zero _), fun _ _ => rfl⟩
    have hk1 : (if k = 0 then (1 : Int) else 0) = 1 := hk1
    rw [if_neg (by omega)] at hk1
    exact absurd hk1 (by decide)
  have hmC : mC g f6 b0 (fun _ => (fun _ => 0)) (fun _ => (fun _ => 0)) (fun _ => (fun _ => 0)) (fun _ => 0) (fun _ => -1) (fun k => if k = 0 then 1 else 0) 0 (fun _ => (fun _ => 0)) (fun _ => (fun _ => 0)) (fun _ => (fun _ => 0)) (fun _ => 0) (fun _ => -1) (fun k => if k = 0 then 1 else 0) 0 0 0 0 0 (fun _ => 0) 0 :=
    mC.kept ⟨0, _, _, 0, 0, 0, p1, p2, p3, p4, p5⟩ (fun q _ h2 => oo q h2)
  have hmR : mR g f6 (b0 + 607) (fun _ => (fun _ => 0)) (fun _ => (fun _ => 0)) (fun _ => (fun _ => 0)) (fun _ => 0) (fun _ => -1) (fun k => if k = 0 then 1 else 0) 0 (fun _ => (fun _ => 0)) (fun _ => (fun _ => 0)) (fun _ => (fun _ => 0)) (fun _ => 0) (fun _ => -1) (fun k => if k = 0 then 1 else 0) 0 0 0 0 0 (fun _ => 0) 0 0 := by
    refine mR.kept (f := f4) ⟨_, _, _, _, _, _, _, _, _, _, _, q0, q1, q2, q3, q4, q5, q6, q7, q8, q9, q11, q12, fun k hk => ⟨fun hk1 => ?_, fun hk1 => ?_⟩, fun h => absurd h (by decide), ?_⟩ (fun q _ h2 => om q (by omega))
    · by_cases e9 : k = 0
      · subst e9
        exact ⟨fun _ _ => rfl, fun _ _ => rfl, fun j hj => absurd hj (Nat.not_lt_zero _), rfl, rfl⟩
      · have hk1 : (if k = 0 then (1 : Int) else 0) = 1 := hk1
        rw [if_neg e9] at hk1
        exact absurd hk1 (by decide)
    · by_cases e9 : k = 0
      · subst e9; exact absurd rfl hk1
      · unfold mnIn
        rw [if_pos ⟨by omega, hk⟩]
    · refine ⟨fun h => absurd h (by decide), by decide, rfl, rfl, rfl, fun _ => rfl, fun h => absurd rfl h, rfl, rfl, fun k hk => absurd hk (Nat.not_lt_zero _)⟩
  have hl : lv_has ls 9 (lwL b b0 (5 * ((0 : Nat) : Int))) := hl
  have hI : lwI g b0 (33542 * ((0 : Nat) : Int)) 0 f6 := ⟨_, _, _, _, _, _, _, _, _, _, _, _, _, _, 0, 0, 0, 0, (fun _ => 0), 0, hA.mono (by omega), fun h => absurd h (by decide), fun k _ => by by_cases h : k = 0 <;> simp [h], Or.inl rfl, by decide, by decide, by omega, fun k => ⟨Int.le_refl 0, (by decide : (0 : Int) < 65536)⟩, hmC, hmR, ⟨_, hO.kept (o6 _ (by omega))⟩, hD⟩
  exact lw_loop C hr hlk hb0 513 0 rfl f6 H locs ls _ _ 0 hM hI hl (by omega) (by omega)
