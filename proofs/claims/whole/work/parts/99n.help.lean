/-! the law's helpers -/
set_option maxRecDepth 100000 in
set_option maxHeartbeats 1000000 in
theorem c_L_addEnvelope (l : Launch) (g : gE) (b0 n : Nat) (f : gF) (h ao : Nat) (a1 a2 : Int) (O : Nat → Int) (fs : List Value) (post : Int32 → gF → Prop) (px : String → gF → Prop) (hC : cxI l yX8_addEnvelope cX8_addEnvelope 3 (some .int) 7 161 1 (.ref h :: [.int (zI a1), .int (zI a2)]) g b0 n f post px) (hO : f h = .inr (10, fs)) (hrg : b0 ≤ h ∧ h < b0 + n) (hao : b0 ≤ ao ∧ ao < b0 + n) (hout : arJ g f ao 1 O) (hkeep : ∀ r fm, post r fm → fm ao = f ao) (hpx : ∀ E fm, px E fm → E = exN0 ∨ E = exN1) : cH l yL_addEnvelope cL_addEnvelope 5 [(0, 10, 13, 13), (0, 10, 17, 15)] 8 183 1 (.ref h :: ([.int (zI a1), .int (zI a2)] ++ [.ref ao])) g b0 n f (hQ g ao (fun z fm => rI z ∧ post (zI z) fm) px [exN0, exN1]) := by
  refine gs_h (cc := cL_addEnvelope) (maxL := 5) (by decide) (Nat.le_of_ble_eq_true rfl) ?_
  intro p e0 s m args below meth c ls hx hb hr hml hown hts hlk htab hE hK hM hl
  have hl : lv_has ls 5 [(0, .ref h), (1, .int (zI a1)), (2, .int (zI a2)), (3, .ref ao)] := hl
  refine lv_aload_n hx hb dL_addEnvelope_0 rfl (lv_at hl 3 rfl) ?_
  refine g_iconst hx hb dL_addEnvelope_1 ?_
  refine lv_aload_n hx hb dL_addEnvelope_2 rfl (lv_at hl 0 rfl) ?_
  refine lv_iload_n hx hb dL_addEnvelope_3 rfl (lv_at hl 1 rfl) ?_
  refine lv_iload_n hx hb dL_addEnvelope_4 rfl (lv_at hl 2 rfl) ?_
  refine gx_callVi (ci := 10) (C := RX8) (T := TX8) (N := 9) (As := [.int (zI a1), .int (zI a2)]) (rest := [.int (zI 0), .ref ao]) ⟨hx, hb, hml, hown, hts⟩ hK hM hE hC (cuVx (n := 2) hts u_597 u_594 u_1 (by decide) u_595 u_596 ⟨Nat.le_of_ble_eq_true rfl, Nat.le_of_ble_eq_true rfl⟩) hrg hO rfl rfl hl.1 rfl (Nat.le_of_ble_eq_true rfl) dL_addEnvelope_5 ⟨Nat.le_of_ble_eq_true rfl, Nat.le_of_ble_eq_true rfl⟩ (fun E9 ce9 q9 f1 H locs hM hp h91 h92 h93 => ?_) (fun r f1 H locs hM hp => ?_)
  · rcases hpx E9 f1 hp with rfl | rfl
    · refine gh_catch (p1 := []) (x := (0, 10, 13, 13)) (p2 := [(0, 10, 17, 15)]) hown hts hE htab (by decide) (fun _ h => nomatch h) (by decide) (by decide) u_592 h91 h92 h93 ?_
      refine lv_astore (lv' := [(4, .ref q9), (0, .ref h), (1, .int (zI a1)), (2, .int (zI a2)), (3, .ref ao)]) hx hb dL_addEnvelope_13 hl (by decide) rfl (fun ls hl => ?_)
      refine g_iconst hx hb dL_addEnvelope_15 ?_
      refine gx_iret hx hb hr hlk hK hM dL_addEnvelope_16 (by decide) (by decide) ?_
      exact Or.inr (Or.inl ⟨rfl, hp⟩)
    · refine gh_catch (p1 := [(0, 10, 13, 13)]) (x := (0, 10, 17, 15)) (p2 := []) hown hts hE htab (by decide) (List.forall_mem_cons.mpr ⟨⟨by decide, exN0, by decide, by decide, u_592⟩, (fun _ h => nomatch h)⟩) (by decide) (by decide) u_593 h91 h92 h93 ?_
      refine lv_astore (lv' := [(4, .ref q9), (0, .ref h), (1, .int (zI a1)), (2, .int (zI a2)), (3, .ref ao)]) hx hb dL_addEnvelope_17 hl (by decide) rfl (fun ls hl => ?_)
      refine g_iconst hx hb dL_addEnvelope_19 ?_
      refine gx_iret hx hb hr hlk hK hM dL_addEnvelope_20 (by decide) (by decide) ?_
      exact Or.inr (Or.inr (Or.inl ⟨rfl, hp⟩))
  · have hz := zI_self r
    rw [← hz] at hp
    rw [← hz]
    refine g_i2l hx hb dL_addEnvelope_8 (rI_self r) ?_
    refine g_last hx hb hK hM hao (hout.kept (hkeep _ _ hp)) (by decide) (by decide) (by decide) dL_addEnvelope_9 (fun f2 H locs hM ha ho => ?_)
    refine lv_goto (tgt := 21) hx hb dL_addEnvelope_10 (by decide) ?_
    refine g_iconst hx hb dL_addEnvelope_21 ?_
    refine gx_iret hx hb hr hlk hK hM dL_addEnvelope_22 (by decide) (by decide) ?_
    exact Or.inl ⟨rfl, r.toInt, f1, ⟨rI_self r, hp⟩, ha.cong (fun k hk => by rw [show k = 0 by omega]; exact pu_s _ _ _), ho⟩
set_option maxRecDepth 100000 in
set_option maxHeartbeats 1000000 in
theorem c_L_setCap (l : Launch) (g : gE) (b0 n : Nat) (f : gF) (h ao : Nat) (a1 a2 : Int) (O : Nat → Int) (fs : List Value) (post : Int32 → gF → Prop) (px : String → gF → Prop) (hC : cxI l yX8_setCap cX8_setCap 3 (some .int) 7 161 1 (.ref h :: [.int (zI a1), .int (zI a2)]) g b0 n f post px) (hO : f h = .inr (10, fs)) (hrg : b0 ≤ h ∧ h < b0 + n) (hao : b0 ≤ ao ∧ ao < b0 + n) (hout : arJ g f ao 1 O) (hkeep : ∀ r fm, post r fm → fm ao = f ao) (hpx : ∀ E fm, px E fm → E = exN2 ∨ E = exN0 ∨ E = exN1) : cH l yL_setCap cL_setCap 5 [(0, 10, 13, 20), (0, 10, 17, 13), (0, 10, 21, 15)] 8 183 1 (.ref h :: ([.int (zI a1), .int (zI a2)] ++ [.ref ao])) g b0 n f (hQ g ao (fun z fm => rI z ∧ post (zI z) fm) px [exN2, exN0, exN1]) := by
  refine gs_h (cc := cL_setCap) (maxL := 5) (by decide) (Nat.le_of_ble_eq_true rfl) ?_
  intro p e0 s m args below meth c ls hx hb hr hml hown hts hlk htab hE hK hM hl
  have hl : lv_has ls 5 [(0, .ref h), (1, .int (zI a1)), (2, .int (zI a2)), (3, .ref ao)] := hl
  refine lv_aload_n hx hb dL_setCap_0 rfl (lv_at hl 3 rfl) ?_
  refine g_iconst hx hb dL_setCap_1 ?_
  refine lv_aload_n hx hb dL_setCap_2 rfl (lv_at hl 0 rfl) ?_
  refine lv_iload_n hx hb dL_setCap_3 rfl (lv_at hl 1 rfl) ?_
  refine lv_iload_n hx hb dL_setCap_4 rfl (lv_at hl 2 rfl) ?_
  refine gx_callVi (ci := 10) (C := RX8) (T := TX8) (N := 9) (As := [.int (zI a1), .int (zI a2)]) (rest := [.int (zI 0), .ref ao]) ⟨hx, hb, hml, hown, hts⟩ hK hM hE hC (cuVx (n := 2) hts u_734 u_731 u_1 (by decide) u_732 u_733 ⟨Nat.le_of_ble_eq_true rfl, Nat.le_of_ble_eq_true rfl⟩) hrg hO rfl rfl hl.1 rfl (Nat.le_of_ble_eq_true rfl) dL_setCap_5 ⟨Nat.le_of_ble_eq_true rfl, Nat.le_of_ble_eq_true rfl⟩ (fun E9 ce9 q9 f1 H locs hM hp h91 h92 h93 => ?_) (fun r f1 H locs hM hp => ?_)
  · rcases hpx E9 f1 hp with rfl | rfl | rfl
    · refine gh_catch (p1 := []) (x := (0, 10, 13, 20)) (p2 := [(0, 10, 17, 13), (0, 10, 21, 15)]) hown hts hE htab (by decide) (fun _ h => nomatch h) (by decide) (by decide) u_710 h91 h92 h93 ?_
      refine lv_astore (lv' := [(4, .ref q9), (0, .ref h), (1, .int (zI a1)), (2, .int (zI a2)), (3, .ref ao)]) hx hb dL_setCap_13 hl (by decide) rfl (fun ls hl => ?_)
      refine g_iconst hx hb dL_setCap_15 ?_
      refine gx_iret hx hb hr hlk hK hM dL_setCap_16 (by decide) (by decide) ?_
      exact Or.inr (Or.inl ⟨rfl, hp⟩)
    · refine gh_catch (p1 := [(0, 10, 13, 20)]) (x := (0, 10, 17, 13)) (p2 := [(0, 10, 21, 15)]) hown hts hE htab (by decide) (List.forall_mem_cons.mpr ⟨⟨by decide, exN2, by decide, by decide, u_710⟩, (fun _ h => nomatch h)⟩) (by decide) (by decide) u_592 h91 h92 h93 ?_
      refine lv_astore (lv' := [(4, .ref q9), (0, .ref h), (1, .int (zI a1)), (2, .int (zI a2)), (3, .ref ao)]) hx hb dL_setCap_17 hl (by decide) rfl (fun ls hl => ?_)
      refine g_iconst hx hb dL_setCap_19 ?_
      refine gx_iret hx hb hr hlk hK hM dL_setCap_20 (by decide) (by decide) ?_
      exact Or.inr (Or.inr (Or.inl ⟨rfl, hp⟩))
    · refine gh_catch (p1 := [(0, 10, 13, 20), (0, 10, 17, 13)]) (x := (0, 10, 21, 15)) (p2 := []) hown hts hE htab (by decide) (List.forall_mem_cons.mpr ⟨⟨by decide, exN2, by decide, by decide, u_710⟩, (List.forall_mem_cons.mpr ⟨⟨by decide, exN0, by decide, by decide, u_592⟩, (fun _ h => nomatch h)⟩)⟩) (by decide) (by decide) u_593 h91 h92 h93 ?_
      refine lv_astore (lv' := [(4, .ref q9), (0, .ref h), (1, .int (zI a1)), (2, .int (zI a2)), (3, .ref ao)]) hx hb dL_setCap_21 hl (by decide) rfl (fun ls hl => ?_)
      refine g_iconst hx hb dL_setCap_23 ?_
      refine gx_iret hx hb hr hlk hK hM dL_setCap_24 (by decide) (by decide) ?_
      exact Or.inr (Or.inr (Or.inr (Or.inl ⟨rfl, hp⟩)))
  · have hz := zI_self r
    rw [← hz] at hp
    rw [← hz]
    refine g_i2l hx hb dL_setCap_8 (rI_self r) ?_
    refine g_last hx hb hK hM hao (hout.kept (hkeep _ _ hp)) (by decide) (by decide) (by decide) dL_setCap_9 (fun f2 H locs hM ha ho => ?_)
    refine lv_goto (tgt := 25) hx hb dL_setCap_10 (by decide) ?_
    refine g_iconst hx hb dL_setCap_25 ?_
    refine gx_iret hx hb hr hlk hK hM dL_setCap_26 (by decide) (by decide) ?_
    exact Or.inl ⟨rfl, r.toInt, f1, ⟨rI_self r, hp⟩, ha.cong (fun k hk => by rw [show k = 0 by omega]; exact pu_s _ _ _), ho⟩
set_option maxRecDepth 100000 in
set_option maxHeartbeats 1000000 in
theorem c_L_setRollover (l : Launch) (g : gE) (b0 n : Nat) (f : gF) (h ao : Nat) (a1 a2 : Int) (O : Nat → Int) (fs : List Value) (post : Int32 → gF → Prop) (px : String → gF → Prop) (hC : cxI l yX8_setRollover cX8_setRollover 3 (some .int) 7 161 1 (.ref h :: [.int (zI a1), .int (zI a2)]) g b0 n f post px) (hO : f h = .inr (10, fs)) (hrg : b0 ≤ h ∧ h < b0 + n) (hao : b0 ≤ ao ∧ ao < b0 + n) (hout : arJ g f ao 1 O) (hkeep : ∀ r fm, post r fm → fm ao = f ao) (hpx : ∀ E fm, px E fm → E = exN2 ∨ E = exN0 ∨ E = exN1) : cH l yL_setRollover cL_setRollover 5 [(0, 10, 13, 20), (0, 10, 17, 13), (0, 10, 21, 15)] 8 183 1 (.ref h :: ([.int (zI a1), .int (zI a2)] ++ [.ref ao])) g b0 n f (hQ g ao (fun z fm => rI z ∧ post (zI z) fm) px [exN2, exN0, exN1]) := by
  refine gs_h (cc := cL_setRollover) (maxL := 5) (by decide) (Nat.le_of_ble_eq_true rfl) ?_
  intro p e0 s m args below meth c ls hx hb hr hml hown hts hlk htab hE hK hM hl
  have hl : lv_has ls 5 [(0, .ref h), (1, .int (zI a1)), (2, .int (zI a2)), (3, .ref ao)] := hl
  refine lv_aload_n hx hb dL_setRollover_0 rfl (lv_at hl 3 rfl) ?_
  refine g_iconst hx hb dL_setRollover_1 ?_
  refine lv_aload_n hx hb dL_setRollover_2 rfl (lv_at hl 0 rfl) ?_
  refine lv_iload_n hx hb dL_setRollover_3 rfl (lv_at hl 1 rfl) ?_
  refine lv_iload_n hx hb dL_setRollover_4 rfl (lv_at hl 2 rfl) ?_
  refine gx_callVi (ci := 10) (C := RX8) (T := TX8) (N := 9) (As := [.int (zI a1), .int (zI a2)]) (rest := [.int (zI 0), .ref ao]) ⟨hx, hb, hml, hown, hts⟩ hK hM hE hC (cuVx (n := 2) hts u_741 u_738 u_1 (by decide) u_739 u_740 ⟨Nat.le_of_ble_eq_true rfl, Nat.le_of_ble_eq_true rfl⟩) hrg hO rfl rfl hl.1 rfl (Nat.le_of_ble_eq_true rfl) dL_setRollover_5 ⟨Nat.le_of_ble_eq_true rfl, Nat.le_of_ble_eq_true rfl⟩ (fun E9 ce9 q9 f1 H locs hM hp h91 h92 h93 => ?_) (fun r f1 H locs hM hp => ?_)
  · rcases hpx E9 f1 hp with rfl | rfl | rfl
    · refine gh_catch (p1 := []) (x := (0, 10, 13, 20)) (p2 := [(0, 10, 17, 13), (0, 10, 21, 15)]) hown hts hE htab (by decide) (fun _ h => nomatch h) (by decide) (by decide) u_710 h91 h92 h93 ?_
      refine lv_astore (lv' := [(4, .ref q9), (0, .ref h), (1, .int (zI a1)), (2, .int (zI a2)), (3, .ref ao)]) hx hb dL_setRollover_13 hl (by decide) rfl (fun ls hl => ?_)
      refine g_iconst hx hb dL_setRollover_15 ?_
      refine gx_iret hx hb hr hlk hK hM dL_setRollover_16 (by decide) (by decide) ?_
      exact Or.inr (Or.inl ⟨rfl, hp⟩)
    · refine gh_catch (p1 := [(0, 10, 13, 20)]) (x := (0, 10, 17, 13)) (p2 := [(0, 10, 21, 15)]) hown hts hE htab (by decide) (List.forall_mem_cons.mpr ⟨⟨by decide, exN2, by decide, by decide, u_710⟩, (fun _ h => nomatch h)⟩) (by decide) (by decide) u_592 h91 h92 h93 ?_
      refine lv_astore (lv' := [(4, .ref q9), (0, .ref h), (1, .int (zI a1)), (2, .int (zI a2)), (3, .ref ao)]) hx hb dL_setRollover_17 hl (by decide) rfl (fun ls hl => ?_)
      refine g_iconst hx hb dL_setRollover_19 ?_
      refine gx_iret hx hb hr hlk hK hM dL_setRollover_20 (by decide) (by decide) ?_
      exact Or.inr (Or.inr (Or.inl ⟨rfl, hp⟩))
    · refine gh_catch (p1 := [(0, 10, 13, 20), (0, 10, 17, 13)]) (x := (0, 10, 21, 15)) (p2 := []) hown hts hE htab (by decide) (List.forall_mem_cons.mpr ⟨⟨by decide, exN2, by decide, by decide, u_710⟩, (List.forall_mem_cons.mpr ⟨⟨by decide, exN0, by decide, by decide, u_592⟩, (fun _ h => nomatch h)⟩)⟩) (by decide) (by decide) u_593 h91 h92 h93 ?_
      refine lv_astore (lv' := [(4, .ref q9), (0, .ref h), (1, .int (zI a1)), (2, .int (zI a2)), (3, .ref ao)]) hx hb dL_setRollover_21 hl (by decide) rfl (fun ls hl => ?_)
      refine g_iconst hx hb dL_setRollover_23 ?_
      refine gx_iret hx hb hr hlk hK hM dL_setRollover_24 (by decide) (by decide) ?_
      exact Or.inr (Or.inr (Or.inr (Or.inl ⟨rfl, hp⟩)))
  · have hz := zI_self r
    rw [← hz] at hp
    rw [← hz]
    refine g_i2l hx hb dL_setRollover_8 (rI_self r) ?_
    refine g_last hx hb hK hM hao (hout.kept (hkeep _ _ hp)) (by decide) (by decide) (by decide) dL_setRollover_9 (fun f2 H locs hM ha ho => ?_)
    refine lv_goto (tgt := 25) hx hb dL_setRollover_10 (by decide) ?_
    refine g_iconst hx hb dL_setRollover_25 ?_
    refine gx_iret hx hb hr hlk hK hM dL_setRollover_26 (by decide) (by decide) ?_
    exact Or.inl ⟨rfl, r.toInt, f1, ⟨rI_self r, hp⟩, ha.cong (fun k hk => by rw [show k = 0 by omega]; exact pu_s _ _ _), ho⟩
set_option maxRecDepth 100000 in
set_option maxHeartbeats 1000000 in
theorem c_L_addRule (l : Launch) (g : gE) (b0 n : Nat) (f : gF) (h ao : Nat) (a1 a2 a3 : Int) (O : Nat → Int) (fs : List Value) (post : Int32 → gF → Prop) (px : String → gF → Prop) (hC : cxI l yX8_addRule cX8_addRule 4 (some .int) 7 161 1 (.ref h :: [.int (zI a1), .int (zI a2), .int (zI a3)]) g b0 n f post px) (hO : f h = .inr (10, fs)) (hrg : b0 ≤ h ∧ h < b0 + n) (hao : b0 ≤ ao ∧ ao < b0 + n) (hout : arJ g f ao 1 O) (hkeep : ∀ r fm, post r fm → fm ao = f ao) (hpx : ∀ E fm, px E fm → E = exN2 ∨ E = exN0 ∨ E = exN1) : cH l yL_addRule cL_addRule 6 [(0, 12, 15, 20), (0, 12, 19, 13), (0, 12, 23, 15)] 8 184 1 (.ref h :: ([.int (zI a1), .int (zI a2), .int (zI a3)] ++ [.ref ao])) g b0 n f (hQ g ao (fun z fm => rI z ∧ post (zI z) fm) px [exN2, exN0, exN1]) := by
  refine gs_h (cc := cL_addRule) (maxL := 6) (by decide) (Nat.le_of_ble_eq_true rfl) ?_
  intro p e0 s m args below meth c ls hx hb hr hml hown hts hlk htab hE hK hM hl
  have hl : lv_has ls 6 [(0, .ref h), (1, .int (zI a1)), (2, .int (zI a2)), (3, .int (zI a3)), (4, .ref ao)] := hl
  refine lv_aload hx hb dL_addRule_0 (lv_at hl 4 rfl) ?_
  refine g_iconst hx hb dL_addRule_2 ?_
  refine lv_aload_n hx hb dL_addRule_3 rfl (lv_at hl 0 rfl) ?_
  refine lv_iload_n hx hb dL_addRule_4 rfl (lv_at hl 1 rfl) ?_
  refine lv_iload_n hx hb dL_addRule_5 rfl (lv_at hl 2 rfl) ?_
  refine lv_iload_n hx hb dL_addRule_6 rfl (lv_at hl 3 rfl) ?_
  refine gx_callVi (ci := 10) (C := RX8) (T := TX8) (N := 9) (As := [.int (zI a1), .int (zI a2), .int (zI a3)]) (rest := [.int (zI 0), .ref ao]) ⟨hx, hb, hml, hown, hts⟩ hK hM hE hC (cuVx (n := 3) hts u_748 u_745 u_1 (by decide) u_746 u_747 ⟨Nat.le_of_ble_eq_true rfl, Nat.le_of_ble_eq_true rfl⟩) hrg hO rfl rfl hl.1 rfl (Nat.le_of_ble_eq_true rfl) dL_addRule_7 ⟨Nat.le_of_ble_eq_true rfl, Nat.le_of_ble_eq_true rfl⟩ (fun E9 ce9 q9 f1 H locs hM hp h91 h92 h93 => ?_) (fun r f1 H locs hM hp => ?_)
  · rcases hpx E9 f1 hp with rfl | rfl | rfl
    · refine gh_catch (p1 := []) (x := (0, 12, 15, 20)) (p2 := [(0, 12, 19, 13), (0, 12, 23, 15)]) hown hts hE htab (by decide) (fun _ h => nomatch h) (by decide) (by decide) u_710 h91 h92 h93 ?_
      refine lv_astore (lv' := [(5, .ref q9), (0, .ref h), (1, .int (zI a1)), (2, .int (zI a2)), (3, .int (zI a3)), (4, .ref ao)]) hx hb dL_addRule_15 hl (by decide) rfl (fun ls hl => ?_)
      refine g_iconst hx hb dL_addRule_17 ?_
      refine gx_iret hx hb hr hlk hK hM dL_addRule_18 (by decide) (by decide) ?_
      exact Or.inr (Or.inl ⟨rfl, hp⟩)
    · refine gh_catch (p1 := [(0, 12, 15, 20)]) (x := (0, 12, 19, 13)) (p2 := [(0, 12, 23, 15)]) hown hts hE htab (by decide) (List.forall_mem_cons.mpr ⟨⟨by decide, exN2, by decide, by decide, u_710⟩, (fun _ h => nomatch h)⟩) (by decide) (by decide) u_592 h91 h92 h93 ?_
      refine lv_astore (lv' := [(5, .ref q9), (0, .ref h), (1, .int (zI a1)), (2, .int (zI a2)), (3, .int (zI a3)), (4, .ref ao)]) hx hb dL_addRule_19 hl (by decide) rfl (fun ls hl => ?_)
      refine g_iconst hx hb dL_addRule_21 ?_
      refine gx_iret hx hb hr hlk hK hM dL_addRule_22 (by decide) (by decide) ?_
      exact Or.inr (Or.inr (Or.inl ⟨rfl, hp⟩))
    · refine gh_catch (p1 := [(0, 12, 15, 20), (0, 12, 19, 13)]) (x := (0, 12, 23, 15)) (p2 := []) hown hts hE htab (by decide) (List.forall_mem_cons.mpr ⟨⟨by decide, exN2, by decide, by decide, u_710⟩, (List.forall_mem_cons.mpr ⟨⟨by decide, exN0, by decide, by decide, u_592⟩, (fun _ h => nomatch h)⟩)⟩) (by decide) (by decide) u_593 h91 h92 h93 ?_
      refine lv_astore (lv' := [(5, .ref q9), (0, .ref h), (1, .int (zI a1)), (2, .int (zI a2)), (3, .int (zI a3)), (4, .ref ao)]) hx hb dL_addRule_23 hl (by decide) rfl (fun ls hl => ?_)
      refine g_iconst hx hb dL_addRule_25 ?_
      refine gx_iret hx hb hr hlk hK hM dL_addRule_26 (by decide) (by decide) ?_
      exact Or.inr (Or.inr (Or.inr (Or.inl ⟨rfl, hp⟩)))
  · have hz := zI_self r
    rw [← hz] at hp
    rw [← hz]
    refine g_i2l hx hb dL_addRule_10 (rI_self r) ?_
    refine g_last hx hb hK hM hao (hout.kept (hkeep _ _ hp)) (by decide) (by decide) (by decide) dL_addRule_11 (fun f2 H locs hM ha ho => ?_)
    refine lv_goto (tgt := 27) hx hb dL_addRule_12 (by decide) ?_
    refine g_iconst hx hb dL_addRule_27 ?_
    refine gx_iret hx hb hr hlk hK hM dL_addRule_28 (by decide) (by decide) ?_
    exact Or.inl ⟨rfl, r.toInt, f1, ⟨rI_self r, hp⟩, ha.cong (fun k hk => by rw [show k = 0 by omega]; exact pu_s _ _ _), ho⟩
set_option maxRecDepth 100000 in
set_option maxHeartbeats 1000000 in
theorem c_L_removeRule (l : Launch) (g : gE) (b0 n : Nat) (f : gF) (h ao : Nat) (a1 : Int) (O : Nat → Int) (fs : List Value) (post : Int32 → gF → Prop) (px : String → gF → Prop) (hC : cxI l yX8_removeRule cX8_removeRule 2 (some .int) 7 161 1 (.ref h :: [.int (zI a1)]) g b0 n f post px) (hO : f h = .inr (10, fs)) (hrg : b0 ≤ h ∧ h < b0 + n) (hao : b0 ≤ ao ∧ ao < b0 + n) (hout : arJ g f ao 1 O) (hkeep : ∀ r fm, post r fm → fm ao = f ao) (hpx : ∀ E fm, px E fm → E = exN2 ∨ E = exN1) : cH l yL_removeRule cL_removeRule 4 [(0, 9, 12, 20), (0, 9, 15, 15)] 8 182 1 (.ref h :: ([.int (zI a1)] ++ [.ref ao])) g b0 n f (hQ g ao (fun z fm => rI z ∧ post (zI z) fm) px [exN2, exN1]) := by
  refine gs_h (cc := cL_removeRule) (maxL := 4) (by decide) (Nat.le_of_ble_eq_true rfl) ?_
  intro p e0 s m args below meth c ls hx hb hr hml hown hts hlk htab hE hK hM hl
  have hl : lv_has ls 4 [(0, .ref h), (1, .int (zI a1)), (2, .ref ao)] := hl
  refine lv_aload_n hx hb dL_removeRule_0 rfl (lv_at hl 2 rfl) ?_
  refine g_iconst hx hb dL_removeRule_1 ?_
  refine lv_aload_n hx hb dL_removeRule_2 rfl (lv_at hl 0 rfl) ?_
  refine lv_iload_n hx hb dL_removeRule_3 rfl (lv_at hl 1 rfl) ?_
  refine gx_callVi (ci := 10) (C := RX8) (T := TX8) (N := 9) (As := [.int (zI a1)]) (rest := [.int (zI 0), .ref ao]) ⟨hx, hb, hml, hown, hts⟩ hK hM hE hC (cuVx (n := 1) hts u_755 u_752 u_1 (by decide) u_753 u_754 ⟨Nat.le_of_ble_eq_true rfl, Nat.le_of_ble_eq_true rfl⟩) hrg hO rfl rfl hl.1 rfl (Nat.le_of_ble_eq_true rfl) dL_removeRule_4 ⟨Nat.le_of_ble_eq_true rfl, Nat.le_of_ble_eq_true rfl⟩ (fun E9 ce9 q9 f1 H locs hM hp h91 h92 h93 => ?_) (fun r f1 H locs hM hp => ?_)
  · rcases hpx E9 f1 hp with rfl | rfl
    · refine gh_catch (p1 := []) (x := (0, 9, 12, 20)) (p2 := [(0, 9, 15, 15)]) hown hts hE htab (by decide) (fun _ h => nomatch h) (by decide) (by decide) u_710 h91 h92 h93 ?_
      refine lv_astore_n (lv' := [(3, .ref q9), (0, .ref h), (1, .int (zI a1)), (2, .ref ao)]) hx hb dL_removeRule_12 rfl hl (by decide) rfl (fun ls hl => ?_)
      refine g_iconst hx hb dL_removeRule_13 ?_
      refine gx_iret hx hb hr hlk hK hM dL_removeRule_14 (by decide) (by decide) ?_
      exact Or.inr (Or.inl ⟨rfl, hp⟩)
    · refine gh_catch (p1 := [(0, 9, 12, 20)]) (x := (0, 9, 15, 15)) (p2 := []) hown hts hE htab (by decide) (List.forall_mem_cons.mpr ⟨⟨by decide, exN2, by decide, by decide, u_710⟩, (fun _ h => nomatch h)⟩) (by decide) (by decide) u_593 h91 h92 h93 ?_
      refine lv_astore_n (lv' := [(3, .ref q9), (0, .ref h), (1, .int (zI a1)), (2, .ref ao)]) hx hb dL_removeRule_15 rfl hl (by decide) rfl (fun ls hl => ?_)
      refine g_iconst hx hb dL_removeRule_16 ?_
      refine gx_iret hx hb hr hlk hK hM dL_removeRule_17 (by decide) (by decide) ?_
      exact Or.inr (Or.inr (Or.inl ⟨rfl, hp⟩))
  · have hz := zI_self r
    rw [← hz] at hp
    rw [← hz]
    refine g_i2l hx hb dL_removeRule_7 (rI_self r) ?_
    refine g_last hx hb hK hM hao (hout.kept (hkeep _ _ hp)) (by decide) (by decide) (by decide) dL_removeRule_8 (fun f2 H locs hM ha ho => ?_)
    refine lv_goto (tgt := 18) hx hb dL_removeRule_9 (by decide) ?_
    refine g_iconst hx hb dL_removeRule_18 ?_
    refine gx_iret hx hb hr hlk hK hM dL_removeRule_19 (by decide) (by decide) ?_
    exact Or.inl ⟨rfl, r.toInt, f1, ⟨rI_self r, hp⟩, ha.cong (fun k hk => by rw [show k = 0 by omega]; exact pu_s _ _ _), ho⟩
set_option maxRecDepth 100000 in
set_option maxHeartbeats 1000000 in
theorem c_L_addLink (l : Launch) (g : gE) (b0 n : Nat) (f : gF) (h ao : Nat) (a1 a2 a3 a4 : Int) (O : Nat → Int) (fs : List Value) (post : Int32 → gF → Prop) (px : String → gF → Prop) (hC : cxI l yX8_addLink cX8_addLink 5 (some .int) 7 161 1 (.ref h :: [.int (zI a1), .int (zI a2), .int (zI a3), .int (zI a4)]) g b0 n f post px) (hO : f h = .inr (10, fs)) (hrg : b0 ≤ h ∧ h < b0 + n) (hao : b0 ≤ ao ∧ ao < b0 + n) (hout : arJ g f ao 1 O) (hkeep : ∀ r fm, post r fm → fm ao = f ao) (hpx : ∀ E fm, px E fm → E = exN2 ∨ E = exN0 ∨ E = exN1) : cH l yL_addLink cL_addLink 7 [(0, 14, 17, 20), (0, 14, 21, 13), (0, 14, 25, 15)] 8 185 1 (.ref h :: ([.int (zI a1), .int (zI a2), .int (zI a3), .int (zI a4)] ++ [.ref ao])) g b0 n f (hQ g ao (fun z fm => rI z ∧ post (zI z) fm) px [exN2, exN0, exN1]) := by
  refine gs_h (cc := cL_addLink) (maxL := 7) (by decide) (Nat.le_of_ble_eq_true rfl) ?_
  intro p e0 s m args below meth c ls hx hb hr hml hown hts hlk htab hE hK hM hl
  have hl : lv_has ls 7 [(0, .ref h), (1, .int (zI a1)), (2, .int (zI a2)), (3, .int (zI a3)), (4, .int (zI a4)), (5, .ref ao)] := hl
  refine lv_aload hx hb dL_addLink_0 (lv_at hl 5 rfl) ?_
  refine g_iconst hx hb dL_addLink_2 ?_
  refine lv_aload_n hx hb dL_addLink_3 rfl (lv_at hl 0 rfl) ?_
  refine lv_iload_n hx hb dL_addLink_4 rfl (lv_at hl 1 rfl) ?_
  refine lv_iload_n hx hb dL_addLink_5 rfl (lv_at hl 2 rfl) ?_
  refine lv_iload_n hx hb dL_addLink_6 rfl (lv_at hl 3 rfl) ?_
  refine lv_iload hx hb dL_addLink_7 (lv_at hl 4 rfl) ?_
  refine gx_callVi (ci := 10) (C := RX8) (T := TX8) (N := 9) (As := [.int (zI a1), .int (zI a2), .int (zI a3), .int (zI a4)]) (rest := [.int (zI 0), .ref ao]) ⟨hx, hb, hml, hown, hts⟩ hK hM hE hC (cuVx (n := 4) hts u_762 u_759 u_1 (by decide) u_760 u_761 ⟨Nat.le_of_ble_eq_true rfl, Nat.le_of_ble_eq_true rfl⟩) hrg hO rfl rfl hl.1 rfl (Nat.le_of_ble_eq_true rfl) dL_addLink_9 ⟨Nat.le_of_ble_eq_true rfl, Nat.le_of_ble_eq_true rfl⟩ (fun E9 ce9 q9 f1 H locs hM hp h91 h92 h93 => ?_) (fun r f1 H locs hM hp => ?_)
  · rcases hpx E9 f1 hp with rfl | rfl | rfl
    · refine gh_catch (p1 := []) (x := (0, 14, 17, 20)) (p2 := [(0, 14, 21, 13), (0, 14, 25, 15)]) hown hts hE htab (by decide) (fun _ h => nomatch h) (by decide) (by decide) u_710 h91 h92 h93 ?_
      refine lv_astore (lv' := [(6, .ref q9), (0, .ref h), (1, .int (zI a1)), (2, .int (zI a2)), (3, .int (zI a3)), (4, .int (zI a4)), (5, .ref ao)]) hx hb dL_addLink_17 hl (by decide) rfl (fun ls hl => ?_)
      refine g_iconst hx hb dL_addLink_19 ?_
      refine gx_iret hx hb hr hlk hK hM dL_addLink_20 (by decide) (by decide) ?_
      exact Or.inr (Or.inl ⟨rfl, hp⟩)
    · refine gh_catch (p1 := [(0, 14, 17, 20)]) (x := (0, 14, 21, 13)) (p2 := [(0, 14, 25, 15)]) hown hts hE htab (by decide) (List.forall_mem_cons.mpr ⟨⟨by decide, exN2, by decide, by decide, u_710⟩, (fun _ h => nomatch h)⟩) (by decide) (by decide) u_592 h91 h92 h93 ?_
      refine lv_astore (lv' := [(6, .ref q9), (0, .ref h), (1, .int (zI a1)), (2, .int (zI a2)), (3, .int (zI a3)), (4, .int (zI a4)), (5, .ref ao)]) hx hb dL_addLink_21 hl (by decide) rfl (fun ls hl => ?_)
      refine g_iconst hx hb dL_addLink_23 ?_
      refine gx_iret hx hb hr hlk hK hM dL_addLink_24 (by decide) (by decide) ?_
      exact Or.inr (Or.inr (Or.inl ⟨rfl, hp⟩))
    · refine gh_catch (p1 := [(0, 14, 17, 20), (0, 14, 21, 13)]) (x := (0, 14, 25, 15)) (p2 := []) hown hts hE htab (by decide) (List.forall_mem_cons.mpr ⟨⟨by decide, exN2, by decide, by decide, u_710⟩, (List.forall_mem_cons.mpr ⟨⟨by decide, exN0, by decide, by decide, u_592⟩, (fun _ h => nomatch h)⟩)⟩) (by decide) (by decide) u_593 h91 h92 h93 ?_
      refine lv_astore (lv' := [(6, .ref q9), (0, .ref h), (1, .int (zI a1)), (2, .int (zI a2)), (3, .int (zI a3)), (4, .int (zI a4)), (5, .ref ao)]) hx hb dL_addLink_25 hl (by decide) rfl (fun ls hl => ?_)
      refine g_iconst hx hb dL_addLink_27 ?_
      refine gx_iret hx hb hr hlk hK hM dL_addLink_28 (by decide) (by decide) ?_
      exact Or.inr (Or.inr (Or.inr (Or.inl ⟨rfl, hp⟩)))
  · have hz := zI_self r
    rw [← hz] at hp
    rw [← hz]
    refine g_i2l hx hb dL_addLink_12 (rI_self r) ?_
    refine g_last hx hb hK hM hao (hout.kept (hkeep _ _ hp)) (by decide) (by decide) (by decide) dL_addLink_13 (fun f2 H locs hM ha ho => ?_)
    refine lv_goto (tgt := 29) hx hb dL_addLink_14 (by decide) ?_
    refine g_iconst hx hb dL_addLink_29 ?_
    refine gx_iret hx hb hr hlk hK hM dL_addLink_30 (by decide) (by decide) ?_
    exact Or.inl ⟨rfl, r.toInt, f1, ⟨rI_self r, hp⟩, ha.cong (fun k hk => by rw [show k = 0 by omega]; exact pu_s _ _ _), ho⟩
set_option maxRecDepth 100000 in
set_option maxHeartbeats 1000000 in
theorem c_L_removeLink (l : Launch) (g : gE) (b0 n : Nat) (f : gF) (h ao : Nat) (a1 : Int) (O : Nat → Int) (fs : List Value) (post : Int32 → gF → Prop) (px : String → gF → Prop) (hC : cxI l yX8_removeLink cX8_removeLink 2 (some .int) 7 161 1 (.ref h :: [.int (zI a1)]) g b0 n f post px) (hO : f h = .inr (10, fs)) (hrg : b0 ≤ h ∧ h < b0 + n) (hao : b0 ≤ ao ∧ ao < b0 + n) (hout : arJ g f ao 1 O) (hkeep : ∀ r fm, post r fm → fm ao = f ao) (hpx : ∀ E fm, px E fm → E = exN2 ∨ E = exN1) : cH l yL_removeLink cL_removeLink 4 [(0, 9, 12, 20), (0, 9, 15, 15)] 8 182 1 (.ref h :: ([.int (zI a1)] ++ [.ref ao])) g b0 n f (hQ g ao (fun z fm => rI z ∧ post (zI z) fm) px [exN2, exN1]) := by
  refine gs_h (cc := cL_removeLink) (maxL := 4) (by decide) (Nat.le_of_ble_eq_true rfl) ?_
  intro p e0 s m args below meth c ls hx hb hr hml hown hts hlk htab hE hK hM hl
  have hl : lv_has ls 4 [(0, .ref h), (1, .int (zI a1)), (2, .ref ao)] := hl
  refine lv_aload_n hx hb dL_removeLink_0 rfl (lv_at hl 2 rfl) ?_
  refine g_iconst hx hb dL_removeLink_1 ?_
  refine lv_aload_n hx hb dL_removeLink_2 rfl (lv_at hl 0 rfl) ?_
  refine lv_iload_n hx hb dL_removeLink_3 rfl (lv_at hl 1 rfl) ?_
  refine gx_callVi (ci := 10) (C := RX8) (T := TX8) (N := 9) (As := [.int (zI a1)]) (rest := [.int (zI 0), .ref ao]) ⟨hx, hb, hml, hown, hts⟩ hK hM hE hC (cuVx (n := 1) hts u_769 u_766 u_1 (by decide) u_767 u_768 ⟨Nat.le_of_ble_eq_true rfl, Nat.le_of_ble_eq_true rfl⟩) hrg hO rfl rfl hl.1 rfl (Nat.le_of_ble_eq_true rfl) dL_removeLink_4 ⟨Nat.le_of_ble_eq_true rfl, Nat.le_of_ble_eq_true rfl⟩ (fun E9 ce9 q9 f1 H locs hM hp h91 h92 h93 => ?_) (fun r f1 H locs hM hp => ?_)
  · rcases hpx E9 f1 hp with rfl | rfl
    · refine gh_catch (p1 := []) (x := (0, 9, 12, 20)) (p2 := [(0, 9, 15, 15)]) hown hts hE htab (by decide) (fun _ h => nomatch h) (by decide) (by decide) u_710 h91 h92 h93 ?_
      refine lv_astore_n (lv' := [(3, .ref q9), (0, .ref h), (1, .int (zI a1)), (2, .ref ao)]) hx hb dL_removeLink_12 rfl hl (by decide) rfl (fun ls hl => ?_)
      refine g_iconst hx hb dL_removeLink_13 ?_
      refine gx_iret hx hb hr hlk hK hM dL_removeLink_14 (by decide) (by decide) ?_
      exact Or.inr (Or.inl ⟨rfl, hp⟩)
    · refine gh_catch (p1 := [(0, 9, 12, 20)]) (x := (0, 9, 15, 15)) (p2 := []) hown hts hE htab (by decide) (List.forall_mem_cons.mpr ⟨⟨by decide, exN2, by decide, by decide, u_710⟩, (fun _ h => nomatch h)⟩) (by decide) (by decide) u_593 h91 h92 h93 ?_
      refine lv_astore_n (lv' := [(3, .ref q9), (0, .ref h), (1, .int (zI a1)), (2, .ref ao)]) hx hb dL_removeLink_15 rfl hl (by decide) rfl (fun ls hl => ?_)
      refine g_iconst hx hb dL_removeLink_16 ?_
      refine gx_iret hx hb hr hlk hK hM dL_removeLink_17 (by decide) (by decide) ?_
      exact Or.inr (Or.inr (Or.inl ⟨rfl, hp⟩))
  · have hz := zI_self r
    rw [← hz] at hp
    rw [← hz]
    refine g_i2l hx hb dL_removeLink_7 (rI_self r) ?_
    refine g_last hx hb hK hM hao (hout.kept (hkeep _ _ hp)) (by decide) (by decide) (by decide) dL_removeLink_8 (fun f2 H locs hM ha ho => ?_)
    refine lv_goto (tgt := 18) hx hb dL_removeLink_9 (by decide) ?_
    refine g_iconst hx hb dL_removeLink_18 ?_
    refine gx_iret hx hb hr hlk hK hM dL_removeLink_19 (by decide) (by decide) ?_
    exact Or.inl ⟨rfl, r.toInt, f1, ⟨rI_self r, hp⟩, ha.cong (fun k hk => by rw [show k = 0 by omega]; exact pu_s _ _ _), ho⟩
set_option maxRecDepth 100000 in
set_option maxHeartbeats 1000000 in
theorem c_L_addItem (l : Launch) (g : gE) (b0 n : Nat) (f : gF) (h ao : Nat) (a1 a2 a3 a4 : Int) (O : Nat → Int) (fs : List Value) (post : Int32 → gF → Prop) (px : String → gF → Prop) (hC : cxI l yX8_addItem cX8_addItem 5 (some .int) 7 161 1 (.ref h :: [.int (zI a1), .int (zI a2), .int (zI a3), .int (zI a4)]) g b0 n f post px) (hO : f h = .inr (10, fs)) (hrg : b0 ≤ h ∧ h < b0 + n) (hao : b0 ≤ ao ∧ ao < b0 + n) (hout : arJ g f ao 1 O) (hkeep : ∀ r fm, post r fm → fm ao = f ao) (hpx : ∀ E fm, px E fm → E = exN2 ∨ E = exN0 ∨ E = exN1) : cH l yL_addItem cL_addItem 7 [(0, 14, 17, 20), (0, 14, 21, 13), (0, 14, 25, 15)] 8 185 1 (.ref h :: ([.int (zI a1), .int (zI a2), .int (zI a3), .int (zI a4)] ++ [.ref ao])) g b0 n f (hQ g ao (fun z fm => rI z ∧ post (zI z) fm) px [exN2, exN0, exN1]) := by
  refine gs_h (cc := cL_addItem) (maxL := 7) (by decide) (Nat.le_of_ble_eq_true rfl) ?_
  intro p e0 s m args below meth c ls hx hb hr hml hown hts hlk htab hE hK hM hl
  have hl : lv_has ls 7 [(0, .ref h), (1, .int (zI a1)), (2, .int (zI a2)), (3, .int (zI a3)), (4, .int (zI a4)), (5, .ref ao)] := hl
  refine lv_aload hx hb dL_addItem_0 (lv_at hl 5 rfl) ?_
  refine g_iconst hx hb dL_addItem_2 ?_
  refine lv_aload_n hx hb dL_addItem_3 rfl (lv_at hl 0 rfl) ?_
  refine lv_iload_n hx hb dL_addItem_4 rfl (lv_at hl 1 rfl) ?_
  refine lv_iload_n hx hb dL_addItem_5 rfl (lv_at hl 2 rfl) ?_
  refine lv_iload_n hx hb dL_addItem_6 rfl (lv_at hl 3 rfl) ?_
  refine lv_iload hx hb dL_addItem_7 (lv_at hl 4 rfl) ?_
  refine gx_callVi (ci := 10) (C := RX8) (T := TX8) (N := 9) (As := [.int (zI a1), .int (zI a2), .int (zI a3), .int (zI a4)]) (rest := [.int (zI 0), .ref ao]) ⟨hx, hb, hml, hown, hts⟩ hK hM hE hC (cuVx (n := 4) hts u_776 u_773 u_1 (by decide) u_774 u_775 ⟨Nat.le_of_ble_eq_true rfl, Nat.le_of_ble_eq_true rfl⟩) hrg hO rfl rfl hl.1 rfl (Nat.le_of_ble_eq_true rfl) dL_addItem_9 ⟨Nat.le_of_ble_eq_true rfl, Nat.le_of_ble_eq_true rfl⟩ (fun E9 ce9 q9 f1 H locs hM hp h91 h92 h93 => ?_) (fun r f1 H locs hM hp => ?_)
  · rcases hpx E9 f1 hp with rfl | rfl | rfl
    · refine gh_catch (p1 := []) (x := (0, 14, 17, 20)) (p2 := [(0, 14, 21, 13), (0, 14, 25, 15)]) hown hts hE htab (by decide) (fun _ h => nomatch h) (by decide) (by decide) u_710 h91 h92 h93 ?_
      refine lv_astore (lv' := [(6, .ref q9), (0, .ref h), (1, .int (zI a1)), (2, .int (zI a2)), (3, .int (zI a3)), (4, .int (zI a4)), (5, .ref ao)]) hx hb dL_addItem_17 hl (by decide) rfl (fun ls hl => ?_)
      refine g_iconst hx hb dL_addItem_19 ?_
      refine gx_iret hx hb hr hlk hK hM dL_addItem_20 (by decide) (by decide) ?_
      exact Or.inr (Or.inl ⟨rfl, hp⟩)
    · refine gh_catch (p1 := [(0, 14, 17, 20)]) (x := (0, 14, 21, 13)) (p2 := [(0, 14, 25, 15)]) hown hts hE htab (by decide) (List.forall_mem_cons.mpr ⟨⟨by decide, exN2, by decide, by decide, u_710⟩, (fun _ h => nomatch h)⟩) (by decide) (by decide) u_592 h91 h92 h93 ?_
      refine lv_astore (lv' := [(6, .ref q9), (0, .ref h), (1, .int (zI a1)), (2, .int (zI a2)), (3, .int (zI a3)), (4, .int (zI a4)), (5, .ref ao)]) hx hb dL_addItem_21 hl (by decide) rfl (fun ls hl => ?_)
      refine g_iconst hx hb dL_addItem_23 ?_
      refine gx_iret hx hb hr hlk hK hM dL_addItem_24 (by decide) (by decide) ?_
      exact Or.inr (Or.inr (Or.inl ⟨rfl, hp⟩))
    · refine gh_catch (p1 := [(0, 14, 17, 20), (0, 14, 21, 13)]) (x := (0, 14, 25, 15)) (p2 := []) hown hts hE htab (by decide) (List.forall_mem_cons.mpr ⟨⟨by decide, exN2, by decide, by decide, u_710⟩, (List.forall_mem_cons.mpr ⟨⟨by decide, exN0, by decide, by decide, u_592⟩, (fun _ h => nomatch h)⟩)⟩) (by decide) (by decide) u_593 h91 h92 h93 ?_
      refine lv_astore (lv' := [(6, .ref q9), (0, .ref h), (1, .int (zI a1)), (2, .int (zI a2)), (3, .int (zI a3)), (4, .int (zI a4)), (5, .ref ao)]) hx hb dL_addItem_25 hl (by decide) rfl (fun ls hl => ?_)
      refine g_iconst hx hb dL_addItem_27 ?_
      refine gx_iret hx hb hr hlk hK hM dL_addItem_28 (by decide) (by decide) ?_
      exact Or.inr (Or.inr (Or.inr (Or.inl ⟨rfl, hp⟩)))
  · have hz := zI_self r
    rw [← hz] at hp
    rw [← hz]
    refine g_i2l hx hb dL_addItem_12 (rI_self r) ?_
    refine g_last hx hb hK hM hao (hout.kept (hkeep _ _ hp)) (by decide) (by decide) (by decide) dL_addItem_13 (fun f2 H locs hM ha ho => ?_)
    refine lv_goto (tgt := 29) hx hb dL_addItem_14 (by decide) ?_
    refine g_iconst hx hb dL_addItem_29 ?_
    refine gx_iret hx hb hr hlk hK hM dL_addItem_30 (by decide) (by decide) ?_
    exact Or.inl ⟨rfl, r.toInt, f1, ⟨rI_self r, hp⟩, ha.cong (fun k hk => by rw [show k = 0 by omega]; exact pu_s _ _ _), ho⟩
set_option maxRecDepth 100000 in
set_option maxHeartbeats 1000000 in
theorem c_L_removeItem (l : Launch) (g : gE) (b0 n : Nat) (f : gF) (h ao : Nat) (a1 : Int) (O : Nat → Int) (fs : List Value) (post : Int32 → gF → Prop) (px : String → gF → Prop) (hC : cxI l yX8_removeItem cX8_removeItem 2 (some .int) 7 161 1 (.ref h :: [.int (zI a1)]) g b0 n f post px) (hO : f h = .inr (10, fs)) (hrg : b0 ≤ h ∧ h < b0 + n) (hao : b0 ≤ ao ∧ ao < b0 + n) (hout : arJ g f ao 1 O) (hkeep : ∀ r fm, post r fm → fm ao = f ao) (hpx : ∀ E fm, px E fm → E = exN2 ∨ E = exN1) : cH l yL_removeItem cL_removeItem 4 [(0, 9, 12, 20), (0, 9, 15, 15)] 8 182 1 (.ref h :: ([.int (zI a1)] ++ [.ref ao])) g b0 n f (hQ g ao (fun z fm => rI z ∧ post (zI z) fm) px [exN2, exN1]) := by
  refine gs_h (cc := cL_removeItem) (maxL := 4) (by decide) (Nat.le_of_ble_eq_true rfl) ?_
  intro p e0 s m args below meth c ls hx hb hr hml hown hts hlk htab hE hK hM hl
  have hl : lv_has ls 4 [(0, .ref h), (1, .int (zI a1)), (2, .ref ao)] := hl
  refine lv_aload_n hx hb dL_removeItem_0 rfl (lv_at hl 2 rfl) ?_
  refine g_iconst hx hb dL_removeItem_1 ?_
  refine lv_aload_n hx hb dL_removeItem_2 rfl (lv_at hl 0 rfl) ?_
  refine lv_iload_n hx hb dL_removeItem_3 rfl (lv_at hl 1 rfl) ?_
  refine gx_callVi (ci := 10) (C := RX8) (T := TX8) (N := 9) (As := [.int (zI a1)]) (rest := [.int (zI 0), .ref ao]) ⟨hx, hb, hml, hown, hts⟩ hK hM hE hC (cuVx (n := 1) hts u_783 u_780 u_1 (by decide) u_781 u_782 ⟨Nat.le_of_ble_eq_true rfl, Nat.le_of_ble_eq_true rfl⟩) hrg hO rfl rfl hl.1 rfl (Nat.le_of_ble_eq_true rfl) dL_removeItem_4 ⟨Nat.le_of_ble_eq_true rfl, Nat.le_of_ble_eq_true rfl⟩ (fun E9 ce9 q9 f1 H locs hM hp h91 h92 h93 => ?_) (fun r f1 H locs hM hp => ?_)
  · rcases hpx E9 f1 hp with rfl | rfl
    · refine gh_catch (p1 := []) (x := (0, 9, 12, 20)) (p2 := [(0, 9, 15, 15)]) hown hts hE htab (by decide) (fun _ h => nomatch h) (by decide) (by decide) u_710 h91 h92 h93 ?_
      refine lv_astore_n (lv' := [(3, .ref q9), (0, .ref h), (1, .int (zI a1)), (2, .ref ao)]) hx hb dL_removeItem_12 rfl hl (by decide) rfl (fun ls hl => ?_)
      refine g_iconst hx hb dL_removeItem_13 ?_
      refine gx_iret hx hb hr hlk hK hM dL_removeItem_14 (by decide) (by decide) ?_
      exact Or.inr (Or.inl ⟨rfl, hp⟩)
    · refine gh_catch (p1 := [(0, 9, 12, 20)]) (x := (0, 9, 15, 15)) (p2 := []) hown hts hE htab (by decide) (List.forall_mem_cons.mpr ⟨⟨by decide, exN2, by decide, by decide, u_710⟩, (fun _ h => nomatch h)⟩) (by decide) (by decide) u_593 h91 h92 h93 ?_
      refine lv_astore_n (lv' := [(3, .ref q9), (0, .ref h), (1, .int (zI a1)), (2, .ref ao)]) hx hb dL_removeItem_15 rfl hl (by decide) rfl (fun ls hl => ?_)
      refine g_iconst hx hb dL_removeItem_16 ?_
      refine gx_iret hx hb hr hlk hK hM dL_removeItem_17 (by decide) (by decide) ?_
      exact Or.inr (Or.inr (Or.inl ⟨rfl, hp⟩))
  · have hz := zI_self r
    rw [← hz] at hp
    rw [← hz]
    refine g_i2l hx hb dL_removeItem_7 (rI_self r) ?_
    refine g_last hx hb hK hM hao (hout.kept (hkeep _ _ hp)) (by decide) (by decide) (by decide) dL_removeItem_8 (fun f2 H locs hM ha ho => ?_)
    refine lv_goto (tgt := 18) hx hb dL_removeItem_9 (by decide) ?_
    refine g_iconst hx hb dL_removeItem_18 ?_
    refine gx_iret hx hb hr hlk hK hM dL_removeItem_19 (by decide) (by decide) ?_
    exact Or.inl ⟨rfl, r.toInt, f1, ⟨rI_self r, hp⟩, ha.cong (fun k hk => by rw [show k = 0 by omega]; exact pu_s _ _ _), ho⟩
set_option maxRecDepth 100000 in
set_option maxHeartbeats 1000000 in
theorem c_L_receive (l : Launch) (g : gE) (b0 n : Nat) (f : gF) (h ao : Nat) (a1 : Int) (O : Nat → Int) (fs : List Value) (post : Int32 → gF → Prop) (px : String → gF → Prop) (hC : cxI l yX8_receive cX8_receive 2 (some .int) 7 161 1 (.ref h :: [.int (zI a1)]) g b0 n f post px) (hO : f h = .inr (10, fs)) (hrg : b0 ≤ h ∧ h < b0 + n) (hao : b0 ≤ ao ∧ ao < b0 + n) (hout : arJ g f ao 1 O) (hkeep : ∀ r fm, post r fm → fm ao = f ao) (hpx : ∀ E fm, px E fm → E = exN0 ∨ E = exN1) : cH l yL_receive cL_receive 4 [(0, 9, 12, 13), (0, 9, 15, 15)] 8 182 1 (.ref h :: ([.int (zI a1)] ++ [.ref ao])) g b0 n f (hQ g ao (fun z fm => rI z ∧ post (zI z) fm) px [exN0, exN1]) := by
  refine gs_h (cc := cL_receive) (maxL := 4) (by decide) (Nat.le_of_ble_eq_true rfl) ?_
  intro p e0 s m args below meth c ls hx hb hr hml hown hts hlk htab hE hK hM hl
  have hl : lv_has ls 4 [(0, .ref h), (1, .int (zI a1)), (2, .ref ao)] := hl
  refine lv_aload_n hx hb dL_receive_0 rfl (lv_at hl 2 rfl) ?_
  refine g_iconst hx hb dL_receive_1 ?_
  refine lv_aload_n hx hb dL_receive_2 rfl (lv_at hl 0 rfl) ?_
  refine lv_iload_n hx hb dL_receive_3 rfl (lv_at hl 1 rfl) ?_
  refine gx_callVi (ci := 10) (C := RX8) (T := TX8) (N := 9) (As := [.int (zI a1)]) (rest := [.int (zI 0), .ref ao]) ⟨hx, hb, hml, hown, hts⟩ hK hM hE hC (cuVx (n := 1) hts u_790 u_787 u_1 (by decide) u_788 u_789 ⟨Nat.le_of_ble_eq_true rfl, Nat.le_of_ble_eq_true rfl⟩) hrg hO rfl rfl hl.1 rfl (Nat.le_of_ble_eq_true rfl) dL_receive_4 ⟨Nat.le_of_ble_eq_true rfl, Nat.le_of_ble_eq_true rfl⟩ (fun E9 ce9 q9 f1 H locs hM hp h91 h92 h93 => ?_) (fun r f1 H locs hM hp => ?_)
  · rcases hpx E9 f1 hp with rfl | rfl
    · refine gh_catch (p1 := []) (x := (0, 9, 12, 13)) (p2 := [(0, 9, 15, 15)]) hown hts hE htab (by decide) (fun _ h => nomatch h) (by decide) (by decide) u_592 h91 h92 h93 ?_
      refine lv_astore_n (lv' := [(3, .ref q9), (0, .ref h), (1, .int (zI a1)), (2, .ref ao)]) hx hb dL_receive_12 rfl hl (by decide) rfl (fun ls hl => ?_)
      refine g_iconst hx hb dL_receive_13 ?_
      refine gx_iret hx hb hr hlk hK hM dL_receive_14 (by decide) (by decide) ?_
      exact Or.inr (Or.inl ⟨rfl, hp⟩)
    · refine gh_catch (p1 := [(0, 9, 12, 13)]) (x := (0, 9, 15, 15)) (p2 := []) hown hts hE htab (by decide) (List.forall_mem_cons.mpr ⟨⟨by decide, exN0, by decide, by decide, u_592⟩, (fun _ h => nomatch h)⟩) (by decide) (by decide) u_593 h91 h92 h93 ?_
      refine lv_astore_n (lv' := [(3, .ref q9), (0, .ref h), (1, .int (zI a1)), (2, .ref ao)]) hx hb dL_receive_15 rfl hl (by decide) rfl (fun ls hl => ?_)
      refine g_iconst hx hb dL_receive_16 ?_
      refine gx_iret hx hb hr hlk hK hM dL_receive_17 (by decide) (by decide) ?_
      exact Or.inr (Or.inr (Or.inl ⟨rfl, hp⟩))
  · have hz := zI_self r
    rw [← hz] at hp
    rw [← hz]
    refine g_i2l hx hb dL_receive_7 (rI_self r) ?_
    refine g_last hx hb hK hM hao (hout.kept (hkeep _ _ hp)) (by decide) (by decide) (by decide) dL_receive_8 (fun f2 H locs hM ha ho => ?_)
    refine lv_goto (tgt := 18) hx hb dL_receive_9 (by decide) ?_
    refine g_iconst hx hb dL_receive_18 ?_
    refine gx_iret hx hb hr hlk hK hM dL_receive_19 (by decide) (by decide) ?_
    exact Or.inl ⟨rfl, r.toInt, f1, ⟨rI_self r, hp⟩, ha.cong (fun k hk => by rw [show k = 0 by omega]; exact pu_s _ _ _), ho⟩
set_option maxRecDepth 100000 in
set_option maxHeartbeats 1000000 in
theorem c_L_spend (l : Launch) (g : gE) (b0 n : Nat) (f : gF) (h ao : Nat) (a1 a2 : Int) (O : Nat → Int) (fs : List Value) (post : Int32 → gF → Prop) (px : String → gF → Prop) (hC : cxI l yX8_spend cX8_spend 3 (some .int) 7 161 1 (.ref h :: [.int (zI a1), .int (zI a2)]) g b0 n f post px) (hO : f h = .inr (10, fs)) (hrg : b0 ≤ h ∧ h < b0 + n) (hao : b0 ≤ ao ∧ ao < b0 + n) (hout : arJ g f ao 1 O) (hkeep : ∀ r fm, post r fm → fm ao = f ao) (hpx : ∀ E fm, px E fm → E = exN2 ∨ E = exN0 ∨ E = exN1) : cH l yL_spend cL_spend 5 [(0, 10, 13, 20), (0, 10, 17, 13), (0, 10, 21, 15)] 8 183 1 (.ref h :: ([.int (zI a1), .int (zI a2)] ++ [.ref ao])) g b0 n f (hQ g ao (fun z fm => rI z ∧ post (zI z) fm) px [exN2, exN0, exN1]) := by
  refine gs_h (cc := cL_spend) (maxL := 5) (by decide) (Nat.le_of_ble_eq_true rfl) ?_
  intro p e0 s m args below meth c ls hx hb hr hml hown hts hlk htab hE hK hM hl
  have hl : lv_has ls 5 [(0, .ref h), (1, .int (zI a1)), (2, .int (zI a2)), (3, .ref ao)] := hl
  refine lv_aload_n hx hb dL_spend_0 rfl (lv_at hl 3 rfl) ?_
  refine g_iconst hx hb dL_spend_1 ?_
  refine lv_aload_n hx hb dL_spend_2 rfl (lv_at hl 0 rfl) ?_
  refine lv_iload_n hx hb dL_spend_3 rfl (lv_at hl 1 rfl) ?_
  refine lv_iload_n hx hb dL_spend_4 rfl (lv_at hl 2 rfl) ?_
  refine gx_callVi (ci := 10) (C := RX8) (T := TX8) (N := 9) (As := [.int (zI a1), .int (zI a2)]) (rest := [.int (zI 0), .ref ao]) ⟨hx, hb, hml, hown, hts⟩ hK hM hE hC (cuVx (n := 2) hts u_797 u_794 u_1 (by decide) u_795 u_796 ⟨Nat.le_of_ble_eq_true rfl, Nat.le_of_ble_eq_true rfl⟩) hrg hO rfl rfl hl.1 rfl (Nat.le_of_ble_eq_true rfl) dL_spend_5 ⟨Nat.le_of_ble_eq_true rfl, Nat.le_of_ble_eq_true rfl⟩ (fun E9 ce9 q9 f1 H locs hM hp h91 h92 h93 => ?_) (fun r f1 H locs hM hp => ?_)
  · rcases hpx E9 f1 hp with rfl | rfl | rfl
    · refine gh_catch (p1 := []) (x := (0, 10, 13, 20)) (p2 := [(0, 10, 17, 13), (0, 10, 21, 15)]) hown hts hE htab (by decide) (fun _ h => nomatch h) (by decide) (by decide) u_710 h91 h92 h93 ?_
      refine lv_astore (lv' := [(4, .ref q9), (0, .ref h), (1, .int (zI a1)), (2, .int (zI a2)), (3, .ref ao)]) hx hb dL_spend_13 hl (by decide) rfl (fun ls hl => ?_)
      refine g_iconst hx hb dL_spend_15 ?_
      refine gx_iret hx hb hr hlk hK hM dL_spend_16 (by decide) (by decide) ?_
      exact Or.inr (Or.inl ⟨rfl, hp⟩)
    · refine gh_catch (p1 := [(0, 10, 13, 20)]) (x := (0, 10, 17, 13)) (p2 := [(0, 10, 21, 15)]) hown hts hE htab (by decide) (List.forall_mem_cons.mpr ⟨⟨by decide, exN2, by decide, by decide, u_710⟩, (fun _ h => nomatch h)⟩) (by decide) (by decide) u_592 h91 h92 h93 ?_
      refine lv_astore (lv' := [(4, .ref q9), (0, .ref h), (1, .int (zI a1)), (2, .int (zI a2)), (3, .ref ao)]) hx hb dL_spend_17 hl (by decide) rfl (fun ls hl => ?_)
      refine g_iconst hx hb dL_spend_19 ?_
      refine gx_iret hx hb hr hlk hK hM dL_spend_20 (by decide) (by decide) ?_
      exact Or.inr (Or.inr (Or.inl ⟨rfl, hp⟩))
    · refine gh_catch (p1 := [(0, 10, 13, 20), (0, 10, 17, 13)]) (x := (0, 10, 21, 15)) (p2 := []) hown hts hE htab (by decide) (List.forall_mem_cons.mpr ⟨⟨by decide, exN2, by decide, by decide, u_710⟩, (List.forall_mem_cons.mpr ⟨⟨by decide, exN0, by decide, by decide, u_592⟩, (fun _ h => nomatch h)⟩)⟩) (by decide) (by decide) u_593 h91 h92 h93 ?_
      refine lv_astore (lv' := [(4, .ref q9), (0, .ref h), (1, .int (zI a1)), (2, .int (zI a2)), (3, .ref ao)]) hx hb dL_spend_21 hl (by decide) rfl (fun ls hl => ?_)
      refine g_iconst hx hb dL_spend_23 ?_
      refine gx_iret hx hb hr hlk hK hM dL_spend_24 (by decide) (by decide) ?_
      exact Or.inr (Or.inr (Or.inr (Or.inl ⟨rfl, hp⟩)))
  · have hz := zI_self r
    rw [← hz] at hp
    rw [← hz]
    refine g_i2l hx hb dL_spend_8 (rI_self r) ?_
    refine g_last hx hb hK hM hao (hout.kept (hkeep _ _ hp)) (by decide) (by decide) (by decide) dL_spend_9 (fun f2 H locs hM ha ho => ?_)
    refine lv_goto (tgt := 25) hx hb dL_spend_10 (by decide) ?_
    refine g_iconst hx hb dL_spend_25 ?_
    refine gx_iret hx hb hr hlk hK hM dL_spend_26 (by decide) (by decide) ?_
    exact Or.inl ⟨rfl, r.toInt, f1, ⟨rI_self r, hp⟩, ha.cong (fun k hk => by rw [show k = 0 by omega]; exact pu_s _ _ _), ho⟩
set_option maxRecDepth 100000 in
set_option maxHeartbeats 1000000 in
theorem c_L_move (l : Launch) (g : gE) (b0 n : Nat) (f : gF) (h ao : Nat) (a1 a2 a3 : Int) (O : Nat → Int) (fs : List Value) (post : Int32 → gF → Prop) (px : String → gF → Prop) (hC : cxI l yX8_move cX8_move 4 (some .int) 7 161 1 (.ref h :: [.int (zI a1), .int (zI a2), .int (zI a3)]) g b0 n f post px) (hO : f h = .inr (10, fs)) (hrg : b0 ≤ h ∧ h < b0 + n) (hao : b0 ≤ ao ∧ ao < b0 + n) (hout : arJ g f ao 1 O) (hkeep : ∀ r fm, post r fm → fm ao = f ao) (hpx : ∀ E fm, px E fm → E = exN2 ∨ E = exN0 ∨ E = exN1) : cH l yL_move cL_move 6 [(0, 12, 15, 20), (0, 12, 19, 13), (0, 12, 23, 15)] 8 184 1 (.ref h :: ([.int (zI a1), .int (zI a2), .int (zI a3)] ++ [.ref ao])) g b0 n f (hQ g ao (fun z fm => rI z ∧ post (zI z) fm) px [exN2, exN0, exN1]) := by
  refine gs_h (cc := cL_move) (maxL := 6) (by decide) (Nat.le_of_ble_eq_true rfl) ?_
  intro p e0 s m args below meth c ls hx hb hr hml hown hts hlk htab hE hK hM hl
  have hl : lv_has ls 6 [(0, .ref h), (1, .int (zI a1)), (2, .int (zI a2)), (3, .int (zI a3)), (4, .ref ao)] := hl
  refine lv_aload hx hb dL_move_0 (lv_at hl 4 rfl) ?_
  refine g_iconst hx hb dL_move_2 ?_
  refine lv_aload_n hx hb dL_move_3 rfl (lv_at hl 0 rfl) ?_
  refine lv_iload_n hx hb dL_move_4 rfl (lv_at hl 1 rfl) ?_
  refine lv_iload_n hx hb dL_move_5 rfl (lv_at hl 2 rfl) ?_
  refine lv_iload_n hx hb dL_move_6 rfl (lv_at hl 3 rfl) ?_
  refine gx_callVi (ci := 10) (C := RX8) (T := TX8) (N := 9) (As := [.int (zI a1), .int (zI a2), .int (zI a3)]) (rest := [.int (zI 0), .ref ao]) ⟨hx, hb, hml, hown, hts⟩ hK hM hE hC (cuVx (n := 3) hts u_804 u_801 u_1 (by decide) u_802 u_803 ⟨Nat.le_of_ble_eq_true rfl, Nat.le_of_ble_eq_true rfl⟩) hrg hO rfl rfl hl.1 rfl (Nat.le_of_ble_eq_true rfl) dL_move_7 ⟨Nat.le_of_ble_eq_true rfl, Nat.le_of_ble_eq_true rfl⟩ (fun E9 ce9 q9 f1 H locs hM hp h91 h92 h93 => ?_) (fun r f1 H locs hM hp => ?_)
  · rcases hpx E9 f1 hp with rfl | rfl | rfl
    · refine gh_catch (p1 := []) (x := (0, 12, 15, 20)) (p2 := [(0, 12, 19, 13), (0, 12, 23, 15)]) hown hts hE htab (by decide) (fun _ h => nomatch h) (by decide) (by decide) u_710 h91 h92 h93 ?_
      refine lv_astore (lv' := [(5, .ref q9), (0, .ref h), (1, .int (zI a1)), (2, .int (zI a2)), (3, .int (zI a3)), (4, .ref ao)]) hx hb dL_move_15 hl (by decide) rfl (fun ls hl => ?_)
      refine g_iconst hx hb dL_move_17 ?_
      refine gx_iret hx hb hr hlk hK hM dL_move_18 (by decide) (by decide) ?_
      exact Or.inr (Or.inl ⟨rfl, hp⟩)
    · refine gh_catch (p1 := [(0, 12, 15, 20)]) (x := (0, 12, 19, 13)) (p2 := [(0, 12, 23, 15)]) hown hts hE htab (by decide) (List.forall_mem_cons.mpr ⟨⟨by decide, exN2, by decide, by decide, u_710⟩, (fun _ h => nomatch h)⟩) (by decide) (by decide) u_592 h91 h92 h93 ?_
      refine lv_astore (lv' := [(5, .ref q9), (0, .ref h), (1, .int (zI a1)), (2, .int (zI a2)), (3, .int (zI a3)), (4, .ref ao)]) hx hb dL_move_19 hl (by decide) rfl (fun ls hl => ?_)
      refine g_iconst hx hb dL_move_21 ?_
      refine gx_iret hx hb hr hlk hK hM dL_move_22 (by decide) (by decide) ?_
      exact Or.inr (Or.inr (Or.inl ⟨rfl, hp⟩))
    · refine gh_catch (p1 := [(0, 12, 15, 20), (0, 12, 19, 13)]) (x := (0, 12, 23, 15)) (p2 := []) hown hts hE htab (by decide) (List.forall_mem_cons.mpr ⟨⟨by decide, exN2, by decide, by decide, u_710⟩, (List.forall_mem_cons.mpr ⟨⟨by decide, exN0, by decide, by decide, u_592⟩, (fun _ h => nomatch h)⟩)⟩) (by decide) (by decide) u_593 h91 h92 h93 ?_
      refine lv_astore (lv' := [(5, .ref q9), (0, .ref h), (1, .int (zI a1)), (2, .int (zI a2)), (3, .int (zI a3)), (4, .ref ao)]) hx hb dL_move_23 hl (by decide) rfl (fun ls hl => ?_)
      refine g_iconst hx hb dL_move_25 ?_
      refine gx_iret hx hb hr hlk hK hM dL_move_26 (by decide) (by decide) ?_
      exact Or.inr (Or.inr (Or.inr (Or.inl ⟨rfl, hp⟩)))
  · have hz := zI_self r
    rw [← hz] at hp
    rw [← hz]
    refine g_i2l hx hb dL_move_10 (rI_self r) ?_
    refine g_last hx hb hK hM hao (hout.kept (hkeep _ _ hp)) (by decide) (by decide) (by decide) dL_move_11 (fun f2 H locs hM ha ho => ?_)
    refine lv_goto (tgt := 27) hx hb dL_move_12 (by decide) ?_
    refine g_iconst hx hb dL_move_27 ?_
    refine gx_iret hx hb hr hlk hK hM dL_move_28 (by decide) (by decide) ?_
    exact Or.inl ⟨rfl, r.toInt, f1, ⟨rI_self r, hp⟩, ha.cong (fun k hk => by rw [show k = 0 by omega]; exact pu_s _ _ _), ho⟩
set_option maxRecDepth 100000 in
set_option maxHeartbeats 1000000 in
theorem c_L_advance (l : Launch) (g : gE) (b0 n : Nat) (f : gF) (h ao : Nat) (a1 : Int) (O : Nat → Int) (fs : List Value) (post : Int32 → gF → Prop) (px : String → gF → Prop) (hC : cxI l yX8_advance cX8_advance 2 (some .int) 7 161 1 (.ref h :: [.int (zI a1)]) g b0 n f post px) (hO : f h = .inr (10, fs)) (hrg : b0 ≤ h ∧ h < b0 + n) (hao : b0 ≤ ao ∧ ao < b0 + n) (hout : arJ g f ao 1 O) (hkeep : ∀ r fm, post r fm → fm ao = f ao) (hpx : ∀ E fm, px E fm → E = exN0 ∨ E = exN1) : cH l yL_advance cL_advance 4 [(0, 9, 12, 13), (0, 9, 15, 15)] 8 182 1 (.ref h :: ([.int (zI a1)] ++ [.ref ao])) g b0 n f (hQ g ao (fun z fm => rI z ∧ post (zI z) fm) px [exN0, exN1]) := by
  refine gs_h (cc := cL_advance) (maxL := 4) (by decide) (Nat.le_of_ble_eq_true rfl) ?_
  intro p e0 s m args below meth c ls hx hb hr hml hown hts hlk htab hE hK hM hl
  have hl : lv_has ls 4 [(0, .ref h), (1, .int (zI a1)), (2, .ref ao)] := hl
  refine lv_aload_n hx hb dL_advance_0 rfl (lv_at hl 2 rfl) ?_
  refine g_iconst hx hb dL_advance_1 ?_
  refine lv_aload_n hx hb dL_advance_2 rfl (lv_at hl 0 rfl) ?_
  refine lv_iload_n hx hb dL_advance_3 rfl (lv_at hl 1 rfl) ?_
  refine gx_callVi (ci := 10) (C := RX8) (T := TX8) (N := 9) (As := [.int (zI a1)]) (rest := [.int (zI 0), .ref ao]) ⟨hx, hb, hml, hown, hts⟩ hK hM hE hC (cuVx (n := 1) hts u_811 u_808 u_1 (by decide) u_809 u_810 ⟨Nat.le_of_ble_eq_true rfl, Nat.le_of_ble_eq_true rfl⟩) hrg hO rfl rfl hl.1 rfl (Nat.le_of_ble_eq_true rfl) dL_advance_4 ⟨Nat.le_of_ble_eq_true rfl, Nat.le_of_ble_eq_true rfl⟩ (fun E9 ce9 q9 f1 H locs hM hp h91 h92 h93 => ?_) (fun r f1 H locs hM hp => ?_)
  · rcases hpx E9 f1 hp with rfl | rfl
    · refine gh_catch (p1 := []) (x := (0, 9, 12, 13)) (p2 := [(0, 9, 15, 15)]) hown hts hE htab (by decide) (fun _ h => nomatch h) (by decide) (by decide) u_592 h91 h92 h93 ?_
      refine lv_astore_n (lv' := [(3, .ref q9), (0, .ref h), (1, .int (zI a1)), (2, .ref ao)]) hx hb dL_advance_12 rfl hl (by decide) rfl (fun ls hl => ?_)
      refine g_iconst hx hb dL_advance_13 ?_
      refine gx_iret hx hb hr hlk hK hM dL_advance_14 (by decide) (by decide) ?_
      exact Or.inr (Or.inl ⟨rfl, hp⟩)
    · refine gh_catch (p1 := [(0, 9, 12, 13)]) (x := (0, 9, 15, 15)) (p2 := []) hown hts hE htab (by decide) (List.forall_mem_cons.mpr ⟨⟨by decide, exN0, by decide, by decide, u_592⟩, (fun _ h => nomatch h)⟩) (by decide) (by decide) u_593 h91 h92 h93 ?_
      refine lv_astore_n (lv' := [(3, .ref q9), (0, .ref h), (1, .int (zI a1)), (2, .ref ao)]) hx hb dL_advance_15 rfl hl (by decide) rfl (fun ls hl => ?_)
      refine g_iconst hx hb dL_advance_16 ?_
      refine gx_iret hx hb hr hlk hK hM dL_advance_17 (by decide) (by decide) ?_
      exact Or.inr (Or.inr (Or.inl ⟨rfl, hp⟩))
  · have hz := zI_self r
    rw [← hz] at hp
    rw [← hz]
    refine g_i2l hx hb dL_advance_7 (rI_self r) ?_
    refine g_last hx hb hK hM hao (hout.kept (hkeep _ _ hp)) (by decide) (by decide) (by decide) dL_advance_8 (fun f2 H locs hM ha ho => ?_)
    refine lv_goto (tgt := 18) hx hb dL_advance_9 (by decide) ?_
    refine g_iconst hx hb dL_advance_18 ?_
    refine gx_iret hx hb hr hlk hK hM dL_advance_19 (by decide) (by decide) ?_
    exact Or.inl ⟨rfl, r.toInt, f1, ⟨rI_self r, hp⟩, ha.cong (fun k hk => by rw [show k = 0 by omega]; exact pu_s _ _ _), ho⟩
set_option maxRecDepth 100000 in
set_option maxHeartbeats 1000000 in
theorem c_L_envelope (l : Launch) (g : gE) (b0 n : Nat) (f : gF) (h ao : Nat) (a1 a2 : Int) (O : Nat → Int) (fs : List Value) (post : Int64 → gF → Prop) (px : String → gF → Prop) (hC : cxL l yX8_envelope cX8_envelope 4 (some .long) 7 102 2 (.ref h :: [.int (zI a1), .int (zI a2)]) g b0 n f post px) (hO : f h = .inr (10, fs)) (hrg : b0 ≤ h ∧ h < b0 + n) (hao : b0 ≤ ao ∧ ao < b0 + n) (hout : arJ g f ao 1 O) (hkeep : ∀ r fm, post r fm → fm ao = f ao) (hpx : ∀ E fm, px E fm → E = exN2 ∨ E = exN0) : cH l yL_envelope cL_envelope 5 [(0, 9, 12, 20), (0, 9, 16, 13)] 8 125 2 (.ref h :: ([.int (zI a1), .int (zI a2)] ++ [.ref ao])) g b0 n f (hQ g ao (fun z fm => rL z ∧ post (zL z) fm) px [exN2, exN0]) := by
  refine gs_h (cc := cL_envelope) (maxL := 5) (by decide) (Nat.le_of_ble_eq_true rfl) ?_
  intro p e0 s m args below meth c ls hx hb hr hml hown hts hlk htab hE hK hM hl
  have hl : lv_has ls 5 [(0, .ref h), (1, .int (zI a1)), (2, .int (zI a2)), (3, .ref ao)] := hl
  refine lv_aload_n hx hb dL_envelope_0 rfl (lv_at hl 3 rfl) ?_
  refine g_iconst hx hb dL_envelope_1 ?_
  refine lv_aload_n hx hb dL_envelope_2 rfl (lv_at hl 0 rfl) ?_
  refine lv_iload_n hx hb dL_envelope_3 rfl (lv_at hl 1 rfl) ?_
  refine lv_iload_n hx hb dL_envelope_4 rfl (lv_at hl 2 rfl) ?_
  refine gx_callVl (ci := 10) (C := RX8) (T := TX8) (N := 9) (As := [.int (zI a1), .int (zI a2)]) (rest := [.int (zI 0), .ref ao]) ⟨hx, hb, hml, hown, hts⟩ hK hM hE hC (cuVx (n := 2) hts u_818 u_815 u_1 (by decide) u_816 u_817 ⟨Nat.le_of_ble_eq_true rfl, Nat.le_of_ble_eq_true rfl⟩) hrg hO rfl rfl hl.1 rfl (Nat.le_of_ble_eq_true rfl) dL_envelope_5 ⟨Nat.le_of_ble_eq_true rfl, Nat.le_of_ble_eq_true rfl⟩ (fun E9 ce9 q9 f1 H locs hM hp h91 h92 h93 => ?_) (fun r f1 H locs hM hp => ?_)
  · rcases hpx E9 f1 hp with rfl | rfl
    · refine gh_catch (p1 := []) (x := (0, 9, 12, 20)) (p2 := [(0, 9, 16, 13)]) hown hts hE htab (by decide) (fun _ h => nomatch h) (by decide) (by decide) u_710 h91 h92 h93 ?_
      refine lv_astore (lv' := [(4, .ref q9), (0, .ref h), (1, .int (zI a1)), (2, .int (zI a2)), (3, .ref ao)]) hx hb dL_envelope_12 hl (by decide) rfl (fun ls hl => ?_)
      refine g_iconst hx hb dL_envelope_14 ?_
      refine gx_iret hx hb hr hlk hK hM dL_envelope_15 (by decide) (by decide) ?_
      exact Or.inr (Or.inl ⟨rfl, hp⟩)
    · refine gh_catch (p1 := [(0, 9, 12, 20)]) (x := (0, 9, 16, 13)) (p2 := []) hown hts hE htab (by decide) (List.forall_mem_cons.mpr ⟨⟨by decide, exN2, by decide, by decide, u_710⟩, (fun _ h => nomatch h)⟩) (by decide) (by decide) u_592 h91 h92 h93 ?_
      refine lv_astore (lv' := [(4, .ref q9), (0, .ref h), (1, .int (zI a1)), (2, .int (zI a2)), (3, .ref ao)]) hx hb dL_envelope_16 hl (by decide) rfl (fun ls hl => ?_)
      refine g_iconst hx hb dL_envelope_18 ?_
      refine gx_iret hx hb hr hlk hK hM dL_envelope_19 (by decide) (by decide) ?_
      exact Or.inr (Or.inr (Or.inl ⟨rfl, hp⟩))
  · have hz := zL_self r
    rw [← hz] at hp
    rw [← hz]
    refine g_last hx hb hK hM hao (hout.kept (hkeep _ _ hp)) (by decide) (by decide) (by decide) dL_envelope_8 (fun f2 H locs hM ha ho => ?_)
    refine lv_goto (tgt := 20) hx hb dL_envelope_9 (by decide) ?_
    refine g_iconst hx hb dL_envelope_20 ?_
    refine gx_iret hx hb hr hlk hK hM dL_envelope_21 (by decide) (by decide) ?_
    exact Or.inl ⟨rfl, r.toInt, f1, ⟨⟨Int64.le_toInt r, Int64.toInt_lt r⟩, hp⟩, ha.cong (fun k hk => by rw [show k = 0 by omega]; exact pu_s _ _ _), ho⟩
set_option maxRecDepth 100000 in
set_option maxHeartbeats 1000000 in
theorem c_L_rule (l : Launch) (g : gE) (b0 n : Nat) (f : gF) (h ao : Nat) (a1 a2 : Int) (O : Nat → Int) (fs : List Value) (post : Int32 → gF → Prop) (px : String → gF → Prop) (hC : cxI l yX8_rule cX8_rule 4 (some .int) 7 102 2 (.ref h :: [.int (zI a1), .int (zI a2)]) g b0 n f post px) (hO : f h = .inr (10, fs)) (hrg : b0 ≤ h ∧ h < b0 + n) (hao : b0 ≤ ao ∧ ao < b0 + n) (hout : arJ g f ao 1 O) (hkeep : ∀ r fm, post r fm → fm ao = f ao) (hpx : ∀ E fm, px E fm → E = exN2 ∨ E = exN0) : cH l yL_rule cL_rule 5 [(0, 10, 13, 20), (0, 10, 17, 13)] 8 125 2 (.ref h :: ([.int (zI a1), .int (zI a2)] ++ [.ref ao])) g b0 n f (hQ g ao (fun z fm => rI z ∧ post (zI z) fm) px [exN2, exN0]) := by
  refine gs_h (cc := cL_rule) (maxL := 5) (by decide) (Nat.le_of_ble_eq_true rfl) ?_
  intro p e0 s m args below meth c ls hx hb hr hml hown hts hlk htab hE hK hM hl
  have hl : lv_has ls 5 [(0, .ref h), (1, .int (zI a1)), (2, .int (zI a2)), (3, .ref ao)] := hl
  refine lv_aload_n hx hb dL_rule_0 rfl (lv_at hl 3 rfl) ?_
  refine g_iconst hx hb dL_rule_1 ?_
  refine lv_aload_n hx hb dL_rule_2 rfl (lv_at hl 0 rfl) ?_
  refine lv_iload_n hx hb dL_rule_3 rfl (lv_at hl 1 rfl) ?_
  refine lv_iload_n hx hb dL_rule_4 rfl (lv_at hl 2 rfl) ?_
  refine gx_callVi (ci := 10) (C := RX8) (T := TX8) (N := 9) (As := [.int (zI a1), .int (zI a2)]) (rest := [.int (zI 0), .ref ao]) ⟨hx, hb, hml, hown, hts⟩ hK hM hE hC (cuVx (n := 2) hts u_842 u_839 u_1 (by decide) u_840 u_841 ⟨Nat.le_of_ble_eq_true rfl, Nat.le_of_ble_eq_true rfl⟩) hrg hO rfl rfl hl.1 rfl (Nat.le_of_ble_eq_true rfl) dL_rule_5 ⟨Nat.le_of_ble_eq_true rfl, Nat.le_of_ble_eq_true rfl⟩ (fun E9 ce9 q9 f1 H locs hM hp h91 h92 h93 => ?_) (fun r f1 H locs hM hp => ?_)
  · rcases hpx E9 f1 hp with rfl | rfl
    · refine gh_catch (p1 := []) (x := (0, 10, 13, 20)) (p2 := [(0, 10, 17, 13)]) hown hts hE htab (by decide) (fun _ h => nomatch h) (by decide) (by decide) u_710 h91 h92 h93 ?_
      refine lv_astore (lv' := [(4, .ref q9), (0, .ref h), (1, .int (zI a1)), (2, .int (zI a2)), (3, .ref ao)]) hx hb dL_rule_13 hl (by decide) rfl (fun ls hl => ?_)
      refine g_iconst hx hb dL_rule_15 ?_
      refine gx_iret hx hb hr hlk hK hM dL_rule_16 (by decide) (by decide) ?_
      exact Or.inr (Or.inl ⟨rfl, hp⟩)
    · refine gh_catch (p1 := [(0, 10, 13, 20)]) (x := (0, 10, 17, 13)) (p2 := []) hown hts hE htab (by decide) (List.forall_mem_cons.mpr ⟨⟨by decide, exN2, by decide, by decide, u_710⟩, (fun _ h => nomatch h)⟩) (by decide) (by decide) u_592 h91 h92 h93 ?_
      refine lv_astore (lv' := [(4, .ref q9), (0, .ref h), (1, .int (zI a1)), (2, .int (zI a2)), (3, .ref ao)]) hx hb dL_rule_17 hl (by decide) rfl (fun ls hl => ?_)
      refine g_iconst hx hb dL_rule_19 ?_
      refine gx_iret hx hb hr hlk hK hM dL_rule_20 (by decide) (by decide) ?_
      exact Or.inr (Or.inr (Or.inl ⟨rfl, hp⟩))
  · have hz := zI_self r
    rw [← hz] at hp
    rw [← hz]
    refine g_i2l hx hb dL_rule_8 (rI_self r) ?_
    refine g_last hx hb hK hM hao (hout.kept (hkeep _ _ hp)) (by decide) (by decide) (by decide) dL_rule_9 (fun f2 H locs hM ha ho => ?_)
    refine lv_goto (tgt := 21) hx hb dL_rule_10 (by decide) ?_
    refine g_iconst hx hb dL_rule_21 ?_
    refine gx_iret hx hb hr hlk hK hM dL_rule_22 (by decide) (by decide) ?_
    exact Or.inl ⟨rfl, r.toInt, f1, ⟨rI_self r, hp⟩, ha.cong (fun k hk => by rw [show k = 0 by omega]; exact pu_s _ _ _), ho⟩
set_option maxRecDepth 100000 in
set_option maxHeartbeats 1000000 in
theorem c_L_split (l : Launch) (g : gE) (b0 n : Nat) (f : gF) (h ao : Nat) (a1 a2 : Int) (O : Nat → Int) (fs : List Value) (post : Int32 → gF → Prop) (px : String → gF → Prop) (hC : cxI l yX8_split cX8_split 4 (some .int) 7 102 2 (.ref h :: [.int (zI a1), .int (zI a2)]) g b0 n f post px) (hO : f h = .inr (10, fs)) (hrg : b0 ≤ h ∧ h < b0 + n) (hao : b0 ≤ ao ∧ ao < b0 + n) (hout : arJ g f ao 1 O) (hkeep : ∀ r fm, post r fm → fm ao = f ao) (hpx : ∀ E fm, px E fm → E = exN2 ∨ E = exN0) : cH l yL_split cL_split 5 [(0, 10, 13, 20), (0, 10, 17, 13)] 8 125 2 (.ref h :: ([.int (zI a1), .int (zI a2)] ++ [.ref ao])) g b0 n f (hQ g ao (fun z fm => rI z ∧ post (zI z) fm) px [exN2, exN0]) := by
  refine gs_h (cc := cL_split) (maxL := 5) (by decide) (Nat.le_of_ble_eq_true rfl) ?_
  intro p e0 s m args below meth c ls hx hb hr hml hown hts hlk htab hE hK hM hl
  have hl : lv_has ls 5 [(0, .ref h), (1, .int (zI a1)), (2, .int (zI a2)), (3, .ref ao)] := hl
  refine lv_aload_n hx hb dL_split_0 rfl (lv_at hl 3 rfl) ?_
  refine g_iconst hx hb dL_split_1 ?_
  refine lv_aload_n hx hb dL_split_2 rfl (lv_at hl 0 rfl) ?_
  refine lv_iload_n hx hb dL_split_3 rfl (lv_at hl 1 rfl) ?_
  refine lv_iload_n hx hb dL_split_4 rfl (lv_at hl 2 rfl) ?_
  refine gx_callVi (ci := 10) (C := RX8) (T := TX8) (N := 9) (As := [.int (zI a1), .int (zI a2)]) (rest := [.int (zI 0), .ref ao]) ⟨hx, hb, hml, hown, hts⟩ hK hM hE hC (cuVx (n := 2) hts u_854 u_851 u_1 (by decide) u_852 u_853 ⟨Nat.le_of_ble_eq_true rfl, Nat.le_of_ble_eq_true rfl⟩) hrg hO rfl rfl hl.1 rfl (Nat.le_of_ble_eq_true rfl) dL_split_5 ⟨Nat.le_of_ble_eq_true rfl, Nat.le_of_ble_eq_true rfl⟩ (fun E9 ce9 q9 f1 H locs hM hp h91 h92 h93 => ?_) (fun r f1 H locs hM hp => ?_)
  · rcases hpx E9 f1 hp with rfl | rfl
    · refine gh_catch (p1 := []) (x := (0, 10, 13, 20)) (p2 := [(0, 10, 17, 13)]) hown hts hE htab (by decide) (fun _ h => nomatch h) (by decide) (by decide) u_710 h91 h92 h93 ?_
      refine lv_astore (lv' := [(4, .ref q9), (0, .ref h), (1, .int (zI a1)), (2, .int (zI a2)), (3, .ref ao)]) hx hb dL_split_13 hl (by decide) rfl (fun ls hl => ?_)
      refine g_iconst hx hb dL_split_15 ?_
      refine gx_iret hx hb hr hlk hK hM dL_split_16 (by decide) (by decide) ?_
      exact Or.inr (Or.inl ⟨rfl, hp⟩)
    · refine gh_catch (p1 := [(0, 10, 13, 20)]) (x := (0, 10, 17, 13)) (p2 := []) hown hts hE htab (by decide) (List.forall_mem_cons.mpr ⟨⟨by decide, exN2, by decide, by decide, u_710⟩, (fun _ h => nomatch h)⟩) (by decide) (by decide) u_592 h91 h92 h93 ?_
      refine lv_astore (lv' := [(4, .ref q9), (0, .ref h), (1, .int (zI a1)), (2, .int (zI a2)), (3, .ref ao)]) hx hb dL_split_17 hl (by decide) rfl (fun ls hl => ?_)
      refine g_iconst hx hb dL_split_19 ?_
      refine gx_iret hx hb hr hlk hK hM dL_split_20 (by decide) (by decide) ?_
      exact Or.inr (Or.inr (Or.inl ⟨rfl, hp⟩))
  · have hz := zI_self r
    rw [← hz] at hp
    rw [← hz]
    refine g_i2l hx hb dL_split_8 (rI_self r) ?_
    refine g_last hx hb hK hM hao (hout.kept (hkeep _ _ hp)) (by decide) (by decide) (by decide) dL_split_9 (fun f2 H locs hM ha ho => ?_)
    refine lv_goto (tgt := 21) hx hb dL_split_10 (by decide) ?_
    refine g_iconst hx hb dL_split_21 ?_
    refine gx_iret hx hb hr hlk hK hM dL_split_22 (by decide) (by decide) ?_
    exact Or.inl ⟨rfl, r.toInt, f1, ⟨rI_self r, hp⟩, ha.cong (fun k hk => by rw [show k = 0 by omega]; exact pu_s _ _ _), ho⟩
set_option maxRecDepth 100000 in
set_option maxHeartbeats 1000000 in
theorem c_L_link (l : Launch) (g : gE) (b0 n : Nat) (f : gF) (h ao : Nat) (a1 a2 : Int) (O : Nat → Int) (fs : List Value) (post : Int64 → gF → Prop) (px : String → gF → Prop) (hC : cxL l yX8_link cX8_link 4 (some .long) 7 102 2 (.ref h :: [.int (zI a1), .int (zI a2)]) g b0 n f post px) (hO : f h = .inr (10, fs)) (hrg : b0 ≤ h ∧ h < b0 + n) (hao : b0 ≤ ao ∧ ao < b0 + n) (hout : arJ g f ao 1 O) (hkeep : ∀ r fm, post r fm → fm ao = f ao) (hpx : ∀ E fm, px E fm → E = exN2 ∨ E = exN0) : cH l yL_link cL_link 5 [(0, 9, 12, 20), (0, 9, 16, 13)] 8 125 2 (.ref h :: ([.int (zI a1), .int (zI a2)] ++ [.ref ao])) g b0 n f (hQ g ao (fun z fm => rL z ∧ post (zL z) fm) px [exN2, exN0]) := by
  refine gs_h (cc := cL_link) (maxL := 5) (by decide) (Nat.le_of_ble_eq_true rfl) ?_
  intro p e0 s m args below meth c ls hx hb hr hml hown hts hlk htab hE hK hM hl
  have hl : lv_has ls 5 [(0, .ref h), (1, .int (zI a1)), (2, .int (zI a2)), (3, .ref ao)] := hl
  refine lv_aload_n hx hb dL_link_0 rfl (lv_at hl 3 rfl) ?_
  refine g_iconst hx hb dL_link_1 ?_
  refine lv_aload_n hx hb dL_link_2 rfl (lv_at hl 0 rfl) ?_
  refine lv_iload_n hx hb dL_link_3 rfl (lv_at hl 1 rfl) ?_
  refine lv_iload_n hx hb dL_link_4 rfl (lv_at hl 2 rfl) ?_
  refine gx_callVl (ci := 10) (C := RX8) (T := TX8) (N := 9) (As := [.int (zI a1), .int (zI a2)]) (rest := [.int (zI 0), .ref ao]) ⟨hx, hb, hml, hown, hts⟩ hK hM hE hC (cuVx (n := 2) hts u_866 u_863 u_1 (by decide) u_864 u_865 ⟨Nat.le_of_ble_eq_true rfl, Nat.le_of_ble_eq_true rfl⟩) hrg hO rfl rfl hl.1 rfl (Nat.le_of_ble_eq_true rfl) dL_link_5 ⟨Nat.le_of_ble_eq_true rfl, Nat.le_of_ble_eq_true rfl⟩ (fun E9 ce9 q9 f1 H locs hM hp h91 h92 h93 => ?_) (fun r f1 H locs hM hp => ?_)
  · rcases hpx E9 f1 hp with rfl | rfl
    · refine gh_catch (p1 := []) (x := (0, 9, 12, 20)) (p2 := [(0, 9, 16, 13)]) hown hts hE htab (by decide) (fun _ h => nomatch h) (by decide) (by decide) u_710 h91 h92 h93 ?_
      refine lv_astore (lv' := [(4, .ref q9), (0, .ref h), (1, .int (zI a1)), (2, .int (zI a2)), (3, .ref ao)]) hx hb dL_link_12 hl (by decide) rfl (fun ls hl => ?_)
      refine g_iconst hx hb dL_link_14 ?_
      refine gx_iret hx hb hr hlk hK hM dL_link_15 (by decide) (by decide) ?_
      exact Or.inr (Or.inl ⟨rfl, hp⟩)
    · refine gh_catch (p1 := [(0, 9, 12, 20)]) (x := (0, 9, 16, 13)) (p2 := []) hown hts hE htab (by decide) (List.forall_mem_cons.mpr ⟨⟨by decide, exN2, by decide, by decide, u_710⟩, (fun _ h => nomatch h)⟩) (by decide) (by decide) u_592 h91 h92 h93 ?_
      refine lv_astore (lv' := [(4, .ref q9), (0, .ref h), (1, .int (zI a1)), (2, .int (zI a2)), (3, .ref ao)]) hx hb dL_link_16 hl (by decide) rfl (fun ls hl => ?_)
      refine g_iconst hx hb dL_link_18 ?_
      refine gx_iret hx hb hr hlk hK hM dL_link_19 (by decide) (by decide) ?_
      exact Or.inr (Or.inr (Or.inl ⟨rfl, hp⟩))
  · have hz := zL_self r
    rw [← hz] at hp
    rw [← hz]
    refine g_last hx hb hK hM hao (hout.kept (hkeep _ _ hp)) (by decide) (by decide) (by decide) dL_link_8 (fun f2 H locs hM ha ho => ?_)
    refine lv_goto (tgt := 20) hx hb dL_link_9 (by decide) ?_
    refine g_iconst hx hb dL_link_20 ?_
    refine gx_iret hx hb hr hlk hK hM dL_link_21 (by decide) (by decide) ?_
    exact Or.inl ⟨rfl, r.toInt, f1, ⟨⟨Int64.le_toInt r, Int64.toInt_lt r⟩, hp⟩, ha.cong (fun k hk => by rw [show k = 0 by omega]; exact pu_s _ _ _), ho⟩
set_option maxRecDepth 100000 in
set_option maxHeartbeats 1000000 in
theorem c_L_item (l : Launch) (g : gE) (b0 n : Nat) (f : gF) (h ao : Nat) (a1 a2 : Int) (O : Nat → Int) (fs : List Value) (post : Int32 → gF → Prop) (px : String → gF → Prop) (hC : cxI l yX8_item cX8_item 4 (some .int) 7 102 2 (.ref h :: [.int (zI a1), .int (zI a2)]) g b0 n f post px) (hO : f h = .inr (10, fs)) (hrg : b0 ≤ h ∧ h < b0 + n) (hao : b0 ≤ ao ∧ ao < b0 + n) (hout : arJ g f ao 1 O) (hkeep : ∀ r fm, post r fm → fm ao = f ao) (hpx : ∀ E fm, px E fm → E = exN2 ∨ E = exN0) : cH l yL_item cL_item 5 [(0, 10, 13, 20), (0, 10, 17, 13)] 8 125 2 (.ref h :: ([.int (zI a1), .int (zI a2)] ++ [.ref ao])) g b0 n f (hQ g ao (fun z fm => rI z ∧ post (zI z) fm) px [exN2, exN0]) := by
  refine gs_h (cc := cL_item) (maxL := 5) (by decide) (Nat.le_of_ble_eq_true rfl) ?_
  intro p e0 s m args below meth c ls hx hb hr hml hown hts hlk htab hE hK hM hl
  have hl : lv_has ls 5 [(0, .ref h), (1, .int (zI a1)), (2, .int (zI a2)), (3, .ref ao)] := hl
  refine lv_aload_n hx hb dL_item_0 rfl (lv_at hl 3 rfl) ?_
  refine g_iconst hx hb dL_item_1 ?_
  refine lv_aload_n hx hb dL_item_2 rfl (lv_at hl 0 rfl) ?_
  refine lv_iload_n hx hb dL_item_3 rfl (lv_at hl 1 rfl) ?_
  refine lv_iload_n hx hb dL_item_4 rfl (lv_at hl 2 rfl) ?_
  refine gx_callVi (ci := 10) (C := RX8) (T := TX8) (N := 9) (As := [.int (zI a1), .int (zI a2)]) (rest := [.int (zI 0), .ref ao]) ⟨hx, hb, hml, hown, hts⟩ hK hM hE hC (cuVx (n := 2) hts u_878 u_875 u_1 (by decide) u_876 u_877 ⟨Nat.le_of_ble_eq_true rfl, Nat.le_of_ble_eq_true rfl⟩) hrg hO rfl rfl hl.1 rfl (Nat.le_of_ble_eq_true rfl) dL_item_5 ⟨Nat.le_of_ble_eq_true rfl, Nat.le_of_ble_eq_true rfl⟩ (fun E9 ce9 q9 f1 H locs hM hp h91 h92 h93 => ?_) (fun r f1 H locs hM hp => ?_)
  · rcases hpx E9 f1 hp with rfl | rfl
    · refine gh_catch (p1 := []) (x := (0, 10, 13, 20)) (p2 := [(0, 10, 17, 13)]) hown hts hE htab (by decide) (fun _ h => nomatch h) (by decide) (by decide) u_710 h91 h92 h93 ?_
      refine lv_astore (lv' := [(4, .ref q9), (0, .ref h), (1, .int (zI a1)), (2, .int (zI a2)), (3, .ref ao)]) hx hb dL_item_13 hl (by decide) rfl (fun ls hl => ?_)
      refine g_iconst hx hb dL_item_15 ?_
      refine gx_iret hx hb hr hlk hK hM dL_item_16 (by decide) (by decide) ?_
      exact Or.inr (Or.inl ⟨rfl, hp⟩)
    · refine gh_catch (p1 := [(0, 10, 13, 20)]) (x := (0, 10, 17, 13)) (p2 := []) hown hts hE htab (by decide) (List.forall_mem_cons.mpr ⟨⟨by decide, exN2, by decide, by decide, u_710⟩, (fun _ h => nomatch h)⟩) (by decide) (by decide) u_592 h91 h92 h93 ?_
      refine lv_astore (lv' := [(4, .ref q9), (0, .ref h), (1, .int (zI a1)), (2, .int (zI a2)), (3, .ref ao)]) hx hb dL_item_17 hl (by decide) rfl (fun ls hl => ?_)
      refine g_iconst hx hb dL_item_19 ?_
      refine gx_iret hx hb hr hlk hK hM dL_item_20 (by decide) (by decide) ?_
      exact Or.inr (Or.inr (Or.inl ⟨rfl, hp⟩))
  · have hz := zI_self r
    rw [← hz] at hp
    rw [← hz]
    refine g_i2l hx hb dL_item_8 (rI_self r) ?_
    refine g_last hx hb hK hM hao (hout.kept (hkeep _ _ hp)) (by decide) (by decide) (by decide) dL_item_9 (fun f2 H locs hM ha ho => ?_)
    refine lv_goto (tgt := 21) hx hb dL_item_10 (by decide) ?_
    refine g_iconst hx hb dL_item_21 ?_
    refine gx_iret hx hb hr hlk hK hM dL_item_22 (by decide) (by decide) ?_
    exact Or.inl ⟨rfl, r.toInt, f1, ⟨rI_self r, hp⟩, ha.cong (fun k hk => by rw [show k = 0 by omega]; exact pu_s _ _ _), ho⟩
set_option maxRecDepth 100000 in
set_option maxHeartbeats 1000000 in
theorem c_L_total (l : Launch) (g : gE) (b0 n : Nat) (f : gF) (h ao : Nat) (a1 : Int) (O : Nat → Int) (fs : List Value) (post : Int64 → gF → Prop) (px : String → gF → Prop) (hC : cxL l yX8_total cX8_total 2 (some .long) 7 102 1 (.ref h :: [.int (zI a1)]) g b0 n f post px) (hO : f h = .inr (10, fs)) (hrg : b0 ≤ h ∧ h < b0 + n) (hao : b0 ≤ ao ∧ ao < b0 + n) (hout : arJ g f ao 1 O) (hkeep : ∀ r fm, post r fm → fm ao = f ao) (hpx : ∀ E fm, px E fm → E = exN0) : cH l yL_total cL_total 4 [(0, 8, 11, 13)] 8 123 1 (.ref h :: ([.int (zI a1)] ++ [.ref ao])) g b0 n f (hQ g ao (fun z fm => rL z ∧ post (zL z) fm) px [exN0]) := by
  refine gs_h (cc := cL_total) (maxL := 4) (by decide) (Nat.le_of_ble_eq_true rfl) ?_
  intro p e0 s m args below meth c ls hx hb hr hml hown hts hlk htab hE hK hM hl
  have hl : lv_has ls 4 [(0, .ref h), (1, .int (zI a1)), (2, .ref ao)] := hl
  refine lv_aload_n hx hb dL_total_0 rfl (lv_at hl 2 rfl) ?_
  refine g_iconst hx hb dL_total_1 ?_
  refine lv_aload_n hx hb dL_total_2 rfl (lv_at hl 0 rfl) ?_
  refine lv_iload_n hx hb dL_total_3 rfl (lv_at hl 1 rfl) ?_
  refine gx_callVl (ci := 10) (C := RX8) (T := TX8) (N := 9) (As := [.int (zI a1)]) (rest := [.int (zI 0), .ref ao]) ⟨hx, hb, hml, hown, hts⟩ hK hM hE hC (cuVx (n := 1) hts u_890 u_887 u_1 (by decide) u_888 u_889 ⟨Nat.le_of_ble_eq_true rfl, Nat.le_of_ble_eq_true rfl⟩) hrg hO rfl rfl hl.1 rfl (Nat.le_of_ble_eq_true rfl) dL_total_4 ⟨Nat.le_of_ble_eq_true rfl, Nat.le_of_ble_eq_true rfl⟩ (fun E9 ce9 q9 f1 H locs hM hp h91 h92 h93 => ?_) (fun r f1 H locs hM hp => ?_)
  · rcases hpx E9 f1 hp with rfl
    · refine gh_catch (p1 := []) (x := (0, 8, 11, 13)) (p2 := []) hown hts hE htab (by decide) (fun _ h => nomatch h) (by decide) (by decide) u_592 h91 h92 h93 ?_
      refine lv_astore_n (lv' := [(3, .ref q9), (0, .ref h), (1, .int (zI a1)), (2, .ref ao)]) hx hb dL_total_11 rfl hl (by decide) rfl (fun ls hl => ?_)
      refine g_iconst hx hb dL_total_12 ?_
      refine gx_iret hx hb hr hlk hK hM dL_total_13 (by decide) (by decide) ?_
      exact Or.inr (Or.inl ⟨rfl, hp⟩)
  · have hz := zL_self r
    rw [← hz] at hp
    rw [← hz]
    refine g_last hx hb hK hM hao (hout.kept (hkeep _ _ hp)) (by decide) (by decide) (by decide) dL_total_7 (fun f2 H locs hM ha ho => ?_)
    refine lv_goto (tgt := 14) hx hb dL_total_8 (by decide) ?_
    refine g_iconst hx hb dL_total_14 ?_
    refine gx_iret hx hb hr hlk hK hM dL_total_15 (by decide) (by decide) ?_
    exact Or.inl ⟨rfl, r.toInt, f1, ⟨⟨Int64.le_toInt r, Int64.toInt_lt r⟩, hp⟩, ha.cong (fun k hk => by rw [show k = 0 by omega]; exact pu_s _ _ _), ho⟩
set_option maxRecDepth 100000 in
set_option maxHeartbeats 1000000 in
theorem c_L_savedShare (l : Launch) (g : gE) (b0 n : Nat) (f : gF) (h ao : Nat) (_u : Unit) (O : Nat → UInt64) (fs : List Value) (post : UInt64 → gF → Prop) (px : String → gF → Prop) (hC : cxD l yX8_savedShare cX8_savedShare 2 (some .double) 6 82 1 (.ref h :: []) g b0 n f post px) (hO : f h = .inr (10, fs)) (hrg : b0 ≤ h ∧ h < b0 + n) (hao : b0 ≤ ao ∧ ao < b0 + n) (hout : arD g f ao 1 O) (hkeep : ∀ r fm, post r fm → fm ao = f ao) (hpx : ∀ E fm, px E fm → E = exN5) : cH l yL_savedShare cL_savedShare 3 [(0, 7, 10, 82)] 7 103 1 (.ref h :: ([] ++ [.ref ao])) g b0 n f (hQd g ao post px [exN5]) := by
  refine gs_h (cc := cL_savedShare) (maxL := 3) (by decide) (Nat.le_of_ble_eq_true rfl) ?_
  intro p e0 s m args below meth c ls hx hb hr hml hown hts hlk htab hE hK hM hl
  have hl : lv_has ls 3 [(0, .ref h), (1, .ref ao)] := hl
  refine lv_aload_n hx hb dL_savedShare_0 rfl (lv_at hl 1 rfl) ?_
  refine g_iconst hx hb dL_savedShare_1 ?_
  refine lv_aload_n hx hb dL_savedShare_2 rfl (lv_at hl 0 rfl) ?_
  refine gx_callVd (ci := 10) (C := RX8) (T := TX8) (N := 9) (As := []) (rest := [.int (zI 0), .ref ao]) ⟨hx, hb, hml, hown, hts⟩ hK hM hE hC (cuVx (n := 0) hts u_919 u_916 u_1 (by decide) u_917 u_918 ⟨Nat.le_of_ble_eq_true rfl, Nat.le_of_ble_eq_true rfl⟩) hrg hO rfl rfl hl.1 rfl (Nat.le_of_ble_eq_true rfl) dL_savedShare_3 ⟨Nat.le_of_ble_eq_true rfl, Nat.le_of_ble_eq_true rfl⟩ (fun E9 ce9 q9 f1 H locs hM hp h91 h92 h93 => ?_) (fun r f1 H locs hM hp => ?_)
  · rcases hpx E9 f1 hp with rfl
    · refine gh_catch (p1 := []) (x := (0, 7, 10, 82)) (p2 := []) hown hts hE htab (by decide) (fun _ h => nomatch h) (by decide) (by decide) u_902 h91 h92 h93 ?_
      refine lv_astore_n (lv' := [(2, .ref q9), (0, .ref h), (1, .ref ao)]) hx hb dL_savedShare_10 rfl hl (by decide) rfl (fun ls hl => ?_)
      refine g_iconst hx hb dL_savedShare_11 ?_
      refine gx_iret hx hb hr hlk hK hM dL_savedShare_12 (by decide) (by decide) ?_
      exact Or.inr (Or.inl ⟨rfl, hp⟩)
  · skip
    refine g_dast hx hb hK hM hao (hout.kept (hkeep _ _ hp)) (by decide) (by decide) (by decide) dL_savedShare_6 (fun f2 H locs hM ha ho => ?_)
    refine lv_goto (tgt := 13) hx hb dL_savedShare_7 (by decide) ?_
    refine g_iconst hx hb dL_savedShare_13 ?_
    refine gx_iret hx hb hr hlk hK hM dL_savedShare_14 (by decide) (by decide) ?_
    exact Or.inl ⟨rfl, r, f1, hp, ha.cong (fun k hk => by rw [show k = 0 by omega]; rfl), ho⟩
set_option maxRecDepth 100000 in
set_option maxHeartbeats 1000000 in
theorem c_L_forecast (l : Launch) (g : gE) (b0 n : Nat) (f : gF) (h ao : Nat) (a1 a2 : Int) (O : Nat → Int) (fs : List Value) (post : Int64 → gF → Prop) (px : String → gF → Prop) (hC : cxL l yX8_forecast cX8_forecast 8 (some .long) 7 107 1 (.ref h :: [.int (zI a1), .int (zI a2)]) g b0 n f post px) (hO : f h = .inr (10, fs)) (hrg : b0 ≤ h ∧ h < b0 + n) (hao : b0 ≤ ao ∧ ao < b0 + n) (hout : arJ g f ao 1 O) (hkeep : ∀ r fm, post r fm → fm ao = f ao) (hpx : ∀ E fm, px E fm → E = exN0) : cH l yL_forecast cL_forecast 5 [(0, 9, 12, 13)] 8 134 1 (.ref h :: ([.int (zI a1), .int (zI a2)] ++ [.ref ao])) g b0 n f (hQ g ao (fun z fm => rL z ∧ post (zL z) fm) px [exN0]) := by
  refine gs_h (cc := cL_forecast) (maxL := 5) (by decide) (Nat.le_of_ble_eq_true rfl) ?_
  intro p e0 s m args below meth c ls hx hb hr hml hown hts hlk htab hE hK hM hl
  have hl : lv_has ls 5 [(0, .ref h), (1, .int (zI a1)), (2, .int (zI a2)), (3, .ref ao)] := hl
  refine lv_aload_n hx hb dL_forecast_0 rfl (lv_at hl 3 rfl) ?_
  refine g_iconst hx hb dL_forecast_1 ?_
  refine lv_aload_n hx hb dL_forecast_2 rfl (lv_at hl 0 rfl) ?_
  refine lv_iload_n hx hb dL_forecast_3 rfl (lv_at hl 1 rfl) ?_
  refine lv_iload_n hx hb dL_forecast_4 rfl (lv_at hl 2 rfl) ?_
  refine gx_callVl (ci := 10) (C := RX8) (T := TX8) (N := 9) (As := [.int (zI a1), .int (zI a2)]) (rest := [.int (zI 0), .ref ao]) ⟨hx, hb, hml, hown, hts⟩ hK hM hE hC (cuVx (n := 2) hts u_929 u_926 u_1 (by decide) u_927 u_928 ⟨Nat.le_of_ble_eq_true rfl, Nat.le_of_ble_eq_true rfl⟩) hrg hO rfl rfl hl.1 rfl (Nat.le_of_ble_eq_true rfl) dL_forecast_5 ⟨Nat.le_of_ble_eq_true rfl, Nat.le_of_ble_eq_true rfl⟩ (fun E9 ce9 q9 f1 H locs hM hp h91 h92 h93 => ?_) (fun r f1 H locs hM hp => ?_)
  · rcases hpx E9 f1 hp with rfl
    · refine gh_catch (p1 := []) (x := (0, 9, 12, 13)) (p2 := []) hown hts hE htab (by decide) (fun _ h => nomatch h) (by decide) (by decide) u_592 h91 h92 h93 ?_
      refine lv_astore (lv' := [(4, .ref q9), (0, .ref h), (1, .int (zI a1)), (2, .int (zI a2)), (3, .ref ao)]) hx hb dL_forecast_12 hl (by decide) rfl (fun ls hl => ?_)
      refine g_iconst hx hb dL_forecast_14 ?_
      refine gx_iret hx hb hr hlk hK hM dL_forecast_15 (by decide) (by decide) ?_
      exact Or.inr (Or.inl ⟨rfl, hp⟩)
  · have hz := zL_self r
    rw [← hz] at hp
    rw [← hz]
    refine g_last hx hb hK hM hao (hout.kept (hkeep _ _ hp)) (by decide) (by decide) (by decide) dL_forecast_8 (fun f2 H locs hM ha ho => ?_)
    refine lv_goto (tgt := 16) hx hb dL_forecast_9 (by decide) ?_
    refine g_iconst hx hb dL_forecast_16 ?_
    refine gx_iret hx hb hr hlk hK hM dL_forecast_17 (by decide) (by decide) ?_
    exact Or.inl ⟨rfl, r.toInt, f1, ⟨⟨Int64.le_toInt r, Int64.toInt_lt r⟩, hp⟩, ha.cong (fun k hk => by rw [show k = 0 by omega]; exact pu_s _ _ _), ho⟩
set_option maxRecDepth 100000 in
set_option maxHeartbeats 1000000 in
theorem c_L_daysUntil (l : Launch) (g : gE) (b0 n : Nat) (f : gF) (h ao : Nat) (a1 a2 : Int) (O : Nat → Int) (fs : List Value) (post : Int32 → gF → Prop) (px : String → gF → Prop) (hC : cxI l yX8_daysUntil cX8_daysUntil 5 (some .int) 7 107 3 (.ref h :: [.int (zI a1), .int (zI a2)]) g b0 n f post px) (hO : f h = .inr (10, fs)) (hrg : b0 ≤ h ∧ h < b0 + n) (hao : b0 ≤ ao ∧ ao < b0 + n) (hout : arJ g f ao 1 O) (hkeep : ∀ r fm, post r fm → fm ao = f ao) (hpx : ∀ E fm, px E fm → E = exN2 ∨ E = exN0 ∨ E = exN3) : cH l yL_daysUntil cL_daysUntil 5 [(0, 10, 13, 20), (0, 10, 17, 13), (0, 10, 21, 90)] 8 131 3 (.ref h :: ([.int (zI a1), .int (zI a2)] ++ [.ref ao])) g b0 n f (hQ g ao (fun z fm => rI z ∧ post (zI z) fm) px [exN2, exN0, exN3]) := by
  refine gs_h (cc := cL_daysUntil) (maxL := 5) (by decide) (Nat.le_of_ble_eq_true rfl) ?_
  intro p e0 s m args below meth c ls hx hb hr hml hown hts hlk htab hE hK hM hl
  have hl : lv_has ls 5 [(0, .ref h), (1, .int (zI a1)), (2, .int (zI a2)), (3, .ref ao)] := hl
  refine lv_aload_n hx hb dL_daysUntil_0 rfl (lv_at hl 3 rfl) ?_
  refine g_iconst hx hb dL_daysUntil_1 ?_
  refine lv_aload_n hx hb dL_daysUntil_2 rfl (lv_at hl 0 rfl) ?_
  refine lv_iload_n hx hb dL_daysUntil_3 rfl (lv_at hl 1 rfl) ?_
  refine lv_iload_n hx hb dL_daysUntil_4 rfl (lv_at hl 2 rfl) ?_
  refine gx_callVi (ci := 10) (C := RX8) (T := TX8) (N := 9) (As := [.int (zI a1), .int (zI a2)]) (rest := [.int (zI 0), .ref ao]) ⟨hx, hb, hml, hown, hts⟩ hK hM hE hC (cuVx (n := 2) hts u_941 u_938 u_1 (by decide) u_939 u_940 ⟨Nat.le_of_ble_eq_true rfl, Nat.le_of_ble_eq_true rfl⟩) hrg hO rfl rfl hl.1 rfl (Nat.le_of_ble_eq_true rfl) dL_daysUntil_5 ⟨Nat.le_of_ble_eq_true rfl, Nat.le_of_ble_eq_true rfl⟩ (fun E9 ce9 q9 f1 H locs hM hp h91 h92 h93 => ?_) (fun r f1 H locs hM hp => ?_)
  · rcases hpx E9 f1 hp with rfl | rfl | rfl
    · refine gh_catch (p1 := []) (x := (0, 10, 13, 20)) (p2 := [(0, 10, 17, 13), (0, 10, 21, 90)]) hown hts hE htab (by decide) (fun _ h => nomatch h) (by decide) (by decide) u_710 h91 h92 h93 ?_
      refine lv_astore (lv' := [(4, .ref q9), (0, .ref h), (1, .int (zI a1)), (2, .int (zI a2)), (3, .ref ao)]) hx hb dL_daysUntil_13 hl (by decide) rfl (fun ls hl => ?_)
      refine g_iconst hx hb dL_daysUntil_15 ?_
      refine gx_iret hx hb hr hlk hK hM dL_daysUntil_16 (by decide) (by decide) ?_
      exact Or.inr (Or.inl ⟨rfl, hp⟩)
    · refine gh_catch (p1 := [(0, 10, 13, 20)]) (x := (0, 10, 17, 13)) (p2 := [(0, 10, 21, 90)]) hown hts hE htab (by decide) (List.forall_mem_cons.mpr ⟨⟨by decide, exN2, by decide, by decide, u_710⟩, (fun _ h => nomatch h)⟩) (by decide) (by decide) u_592 h91 h92 h93 ?_
      refine lv_astore (lv' := [(4, .ref q9), (0, .ref h), (1, .int (zI a1)), (2, .int (zI a2)), (3, .ref ao)]) hx hb dL_daysUntil_17 hl (by decide) rfl (fun ls hl => ?_)
      refine g_iconst hx hb dL_daysUntil_19 ?_
      refine gx_iret hx hb hr hlk hK hM dL_daysUntil_20 (by decide) (by decide) ?_
      exact Or.inr (Or.inr (Or.inl ⟨rfl, hp⟩))
    · refine gh_catch (p1 := [(0, 10, 13, 20), (0, 10, 17, 13)]) (x := (0, 10, 21, 90)) (p2 := []) hown hts hE htab (by decide) (List.forall_mem_cons.mpr ⟨⟨by decide, exN2, by decide, by decide, u_710⟩, (List.forall_mem_cons.mpr ⟨⟨by decide, exN0, by decide, by decide, u_592⟩, (fun _ h => nomatch h)⟩)⟩) (by decide) (by decide) u_937 h91 h92 h93 ?_
      refine lv_astore (lv' := [(4, .ref q9), (0, .ref h), (1, .int (zI a1)), (2, .int (zI a2)), (3, .ref ao)]) hx hb dL_daysUntil_21 hl (by decide) rfl (fun ls hl => ?_)
      refine g_iconst hx hb dL_daysUntil_23 ?_
      refine gx_iret hx hb hr hlk hK hM dL_daysUntil_24 (by decide) (by decide) ?_
      exact Or.inr (Or.inr (Or.inr (Or.inl ⟨rfl, hp⟩)))
  · have hz := zI_self r
    rw [← hz] at hp
    rw [← hz]
    refine g_i2l hx hb dL_daysUntil_8 (rI_self r) ?_
    refine g_last hx hb hK hM hao (hout.kept (hkeep _ _ hp)) (by decide) (by decide) (by decide) dL_daysUntil_9 (fun f2 H locs hM ha ho => ?_)
    refine lv_goto (tgt := 25) hx hb dL_daysUntil_10 (by decide) ?_
    refine g_iconst hx hb dL_daysUntil_25 ?_
    refine gx_iret hx hb hr hlk hK hM dL_daysUntil_26 (by decide) (by decide) ?_
    exact Or.inl ⟨rfl, r.toInt, f1, ⟨rI_self r, hp⟩, ha.cong (fun k hk => by rw [show k = 0 by omega]; exact pu_s _ _ _), ho⟩
set_option maxRecDepth 100000 in
set_option maxHeartbeats 1000000 in
theorem c_L_spare (l : Launch) (g : gE) (b0 n : Nat) (f : gF) (h ao : Nat) (a1 a2 : Int) (O : Nat → Int) (fs : List Value) (post : Int32 → gF → Prop) (px : String → gF → Prop) (hC : cxI l yX8_spare cX8_spare 7 (some .int) 7 131 2 (.ref h :: [.int (zI a1), .int (zI a2)]) g b0 n f post px) (hO : f h = .inr (10, fs)) (hrg : b0 ≤ h ∧ h < b0 + n) (hao : b0 ≤ ao ∧ ao < b0 + n) (hout : arJ g f ao 1 O) (hkeep : ∀ r fm, post r fm → fm ao = f ao) (hpx : ∀ E fm, px E fm → E = exN2 ∨ E = exN0) : cH l yL_spare cL_spare 5 [(0, 10, 13, 20), (0, 10, 17, 13)] 8 157 2 (.ref h :: ([.int (zI a1), .int (zI a2)] ++ [.ref ao])) g b0 n f (hQ g ao (fun z fm => rI z ∧ post (zI z) fm) px [exN2, exN0]) := by
  refine gs_h (cc := cL_spare) (maxL := 5) (by decide) (Nat.le_of_ble_eq_true rfl) ?_
  intro p e0 s m args below meth c ls hx hb hr hml hown hts hlk htab hE hK hM hl
  have hl : lv_has ls 5 [(0, .ref h), (1, .int (zI a1)), (2, .int (zI a2)), (3, .ref ao)] := hl
  refine lv_aload_n hx hb dL_spare_0 rfl (lv_at hl 3 rfl) ?_
  refine g_iconst hx hb dL_spare_1 ?_
  refine lv_aload_n hx hb dL_spare_2 rfl (lv_at hl 0 rfl) ?_
  refine lv_iload_n hx hb dL_spare_3 rfl (lv_at hl 1 rfl) ?_
  refine lv_iload_n hx hb dL_spare_4 rfl (lv_at hl 2 rfl) ?_
  refine gx_callVi (ci := 10) (C := RX8) (T := TX8) (N := 9) (As := [.int (zI a1), .int (zI a2)]) (rest := [.int (zI 0), .ref ao]) ⟨hx, hb, hml, hown, hts⟩ hK hM hE hC (cuVx (n := 2) hts u_965 u_962 u_1 (by decide) u_963 u_964 ⟨Nat.le_of_ble_eq_true rfl, Nat.le_of_ble_eq_true rfl⟩) hrg hO rfl rfl hl.1 rfl (Nat.le_of_ble_eq_true rfl) dL_spare_5 ⟨Nat.le_of_ble_eq_true rfl, Nat.le_of_ble_eq_true rfl⟩ (fun E9 ce9 q9 f1 H locs hM hp h91 h92 h93 => ?_) (fun r f1 H locs hM hp => ?_)
  · rcases hpx E9 f1 hp with rfl | rfl
    · refine gh_catch (p1 := []) (x := (0, 10, 13, 20)) (p2 := [(0, 10, 17, 13)]) hown hts hE htab (by decide) (fun _ h => nomatch h) (by decide) (by decide) u_710 h91 h92 h93 ?_
      refine lv_astore (lv' := [(4, .ref q9), (0, .ref h), (1, .int (zI a1)), (2, .int (zI a2)), (3, .ref ao)]) hx hb dL_spare_13 hl (by decide) rfl (fun ls hl => ?_)
      refine g_iconst hx hb dL_spare_15 ?_
      refine gx_iret hx hb hr hlk hK hM dL_spare_16 (by decide) (by decide) ?_
      exact Or.inr (Or.inl ⟨rfl, hp⟩)
    · refine gh_catch (p1 := [(0, 10, 13, 20)]) (x := (0, 10, 17, 13)) (p2 := []) hown hts hE htab (by decide) (List.forall_mem_cons.mpr ⟨⟨by decide, exN2, by decide, by decide, u_710⟩, (fun _ h => nomatch h)⟩) (by decide) (by decide) u_592 h91 h92 h93 ?_
      refine lv_astore (lv' := [(4, .ref q9), (0, .ref h), (1, .int (zI a1)), (2, .int (zI a2)), (3, .ref ao)]) hx hb dL_spare_17 hl (by decide) rfl (fun ls hl => ?_)
      refine g_iconst hx hb dL_spare_19 ?_
      refine gx_iret hx hb hr hlk hK hM dL_spare_20 (by decide) (by decide) ?_
      exact Or.inr (Or.inr (Or.inl ⟨rfl, hp⟩))
  · have hz := zI_self r
    rw [← hz] at hp
    rw [← hz]
    refine g_i2l hx hb dL_spare_8 (rI_self r) ?_
    refine g_last hx hb hK hM hao (hout.kept (hkeep _ _ hp)) (by decide) (by decide) (by decide) dL_spare_9 (fun f2 H locs hM ha ho => ?_)
    refine lv_goto (tgt := 21) hx hb dL_spare_10 (by decide) ?_
    refine g_iconst hx hb dL_spare_21 ?_
    refine gx_iret hx hb hr hlk hK hM dL_spare_22 (by decide) (by decide) ?_
    exact Or.inl ⟨rfl, r.toInt, f1, ⟨rI_self r, hp⟩, ha.cong (fun k hk => by rw [show k = 0 by omega]; exact pu_s _ _ _), ho⟩
set_option maxRecDepth 100000 in
set_option maxHeartbeats 1000000 in
theorem c_L_fork (l : Launch) (g : gE) (b0 n : Nat) (f : gF) (h ao : Nat) (_u : Unit) (O : Nat → Int) (fs : List Value) (post : Int32 → gF → Prop) (px : String → gF → Prop) (hC : cxI l yX8_fork cX8_fork 2 (some .int) 6 146 1 (.ref h :: []) g b0 n f post px) (hO : f h = .inr (10, fs)) (hrg : b0 ≤ h ∧ h < b0 + n) (hao : b0 ≤ ao ∧ ao < b0 + n) (hout : arJ g f ao 1 O) (hkeep : ∀ r fm, post r fm → fm ao = f ao) (hpx : ∀ E fm, px E fm → E = exN1) : cH l yL_fork cL_fork 3 [(0, 8, 11, 15)] 7 167 1 (.ref h :: ([] ++ [.ref ao])) g b0 n f (hQ g ao (fun z fm => rI z ∧ post (zI z) fm) px [exN1]) := by
  refine gs_h (cc := cL_fork) (maxL := 3) (by decide) (Nat.le_of_ble_eq_true rfl) ?_
  intro p e0 s m args below meth c ls hx hb hr hml hown hts hlk htab hE hK hM hl
  have hl : lv_has ls 3 [(0, .ref h), (1, .ref ao)] := hl
  refine lv_aload_n hx hb dL_fork_0 rfl (lv_at hl 1 rfl) ?_
  refine g_iconst hx hb dL_fork_1 ?_
  refine lv_aload_n hx hb dL_fork_2 rfl (lv_at hl 0 rfl) ?_
  refine gx_callVi (ci := 10) (C := RX8) (T := TX8) (N := 9) (As := []) (rest := [.int (zI 0), .ref ao]) ⟨hx, hb, hml, hown, hts⟩ hK hM hE hC (cuVx (n := 0) hts u_980 u_977 u_1 (by decide) u_978 u_979 ⟨Nat.le_of_ble_eq_true rfl, Nat.le_of_ble_eq_true rfl⟩) hrg hO rfl rfl hl.1 rfl (Nat.le_of_ble_eq_true rfl) dL_fork_3 ⟨Nat.le_of_ble_eq_true rfl, Nat.le_of_ble_eq_true rfl⟩ (fun E9 ce9 q9 f1 H locs hM hp h91 h92 h93 => ?_) (fun r f1 H locs hM hp => ?_)
  · rcases hpx E9 f1 hp with rfl
    · refine gh_catch (p1 := []) (x := (0, 8, 11, 15)) (p2 := []) hown hts hE htab (by decide) (fun _ h => nomatch h) (by decide) (by decide) u_593 h91 h92 h93 ?_
      refine lv_astore_n (lv' := [(2, .ref q9), (0, .ref h), (1, .ref ao)]) hx hb dL_fork_11 rfl hl (by decide) rfl (fun ls hl => ?_)
      refine g_iconst hx hb dL_fork_12 ?_
      refine gx_iret hx hb hr hlk hK hM dL_fork_13 (by decide) (by decide) ?_
      exact Or.inr (Or.inl ⟨rfl, hp⟩)
  · have hz := zI_self r
    rw [← hz] at hp
    rw [← hz]
    refine g_i2l hx hb dL_fork_6 (rI_self r) ?_
    refine g_last hx hb hK hM hao (hout.kept (hkeep _ _ hp)) (by decide) (by decide) (by decide) dL_fork_7 (fun f2 H locs hM ha ho => ?_)
    refine lv_goto (tgt := 14) hx hb dL_fork_8 (by decide) ?_
    refine g_iconst hx hb dL_fork_14 ?_
    refine gx_iret hx hb hr hlk hK hM dL_fork_15 (by decide) (by decide) ?_
    exact Or.inl ⟨rfl, r.toInt, f1, ⟨rI_self r, hp⟩, ha.cong (fun k hk => by rw [show k = 0 by omega]; exact pu_s _ _ _), ho⟩
set_option maxRecDepth 100000 in
set_option maxHeartbeats 1000000 in
theorem c_L_select (l : Launch) (g : gE) (b0 n : Nat) (f : gF) (h ao : Nat) (a1 : Int) (O : Nat → Int) (fs : List Value) (post : Int32 → gF → Prop) (px : String → gF → Prop) (hC : cxI l yX8_select cX8_select 3 (some .int) 6 82 1 (.ref h :: [.int (zI a1)]) g b0 n f post px) (hO : f h = .inr (10, fs)) (hrg : b0 ≤ h ∧ h < b0 + n) (hao : b0 ≤ ao ∧ ao < b0 + n) (hout : arJ g f ao 1 O) (hkeep : ∀ r fm, post r fm → fm ao = f ao) (hpx : ∀ E fm, px E fm → E = exN3) : cH l yL_select cL_select 4 [(0, 9, 12, 90)] 7 104 1 (.ref h :: ([.int (zI a1)] ++ [.ref ao])) g b0 n f (hQ g ao (fun z fm => rI z ∧ post (zI z) fm) px [exN3]) := by
  refine gs_h (cc := cL_select) (maxL := 4) (by decide) (Nat.le_of_ble_eq_true rfl) ?_
  intro p e0 s m args below meth c ls hx hb hr hml hown hts hlk htab hE hK hM hl
  have hl : lv_has ls 4 [(0, .ref h), (1, .int (zI a1)), (2, .ref ao)] := hl
  refine lv_aload_n hx hb dL_select_0 rfl (lv_at hl 2 rfl) ?_
  refine g_iconst hx hb dL_select_1 ?_
  refine lv_aload_n hx hb dL_select_2 rfl (lv_at hl 0 rfl) ?_
  refine lv_iload_n hx hb dL_select_3 rfl (lv_at hl 1 rfl) ?_
  refine gx_callVi (ci := 10) (C := RX8) (T := TX8) (N := 9) (As := [.int (zI a1)]) (rest := [.int (zI 0), .ref ao]) ⟨hx, hb, hml, hown, hts⟩ hK hM hE hC (cuVx (n := 1) hts u_1001 u_998 u_1 (by decide) u_999 u_1000 ⟨Nat.le_of_ble_eq_true rfl, Nat.le_of_ble_eq_true rfl⟩) hrg hO rfl rfl hl.1 rfl (Nat.le_of_ble_eq_true rfl) dL_select_4 ⟨Nat.le_of_ble_eq_true rfl, Nat.le_of_ble_eq_true rfl⟩ (fun E9 ce9 q9 f1 H locs hM hp h91 h92 h93 => ?_) (fun r f1 H locs hM hp => ?_)
  · rcases hpx E9 f1 hp with rfl
    · refine gh_catch (p1 := []) (x := (0, 9, 12, 90)) (p2 := []) hown hts hE htab (by decide) (fun _ h => nomatch h) (by decide) (by decide) u_937 h91 h92 h93 ?_
      refine lv_astore_n (lv' := [(3, .ref q9), (0, .ref h), (1, .int (zI a1)), (2, .ref ao)]) hx hb dL_select_12 rfl hl (by decide) rfl (fun ls hl => ?_)
      refine g_iconst hx hb dL_select_13 ?_
      refine gx_iret hx hb hr hlk hK hM dL_select_14 (by decide) (by decide) ?_
      exact Or.inr (Or.inl ⟨rfl, hp⟩)
  · have hz := zI_self r
    rw [← hz] at hp
    rw [← hz]
    refine g_i2l hx hb dL_select_7 (rI_self r) ?_
    refine g_last hx hb hK hM hao (hout.kept (hkeep _ _ hp)) (by decide) (by decide) (by decide) dL_select_8 (fun f2 H locs hM ha ho => ?_)
    refine lv_goto (tgt := 15) hx hb dL_select_9 (by decide) ?_
    refine g_iconst hx hb dL_select_15 ?_
    refine gx_iret hx hb hr hlk hK hM dL_select_16 (by decide) (by decide) ?_
    exact Or.inl ⟨rfl, r.toInt, f1, ⟨rI_self r, hp⟩, ha.cong (fun k hk => by rw [show k = 0 by omega]; exact pu_s _ _ _), ho⟩
set_option maxRecDepth 100000 in
set_option maxHeartbeats 1000000 in
theorem c_L_discard (l : Launch) (g : gE) (b0 n : Nat) (f : gF) (h ao : Nat) (a1 : Int) (O : Nat → Int) (fs : List Value) (post : Int32 → gF → Prop) (px : String → gF → Prop) (hC : cxI l yX8_discard cX8_discard 3 (some .int) 6 82 1 (.ref h :: [.int (zI a1)]) g b0 n f post px) (hO : f h = .inr (10, fs)) (hrg : b0 ≤ h ∧ h < b0 + n) (hao : b0 ≤ ao ∧ ao < b0 + n) (hout : arJ g f ao 1 O) (hkeep : ∀ r fm, post r fm → fm ao = f ao) (hpx : ∀ E fm, px E fm → E = exN3 ∨ E = exN1) : cH l yL_discard cL_discard 4 [(0, 9, 12, 90), (0, 9, 15, 15)] 7 104 1 (.ref h :: ([.int (zI a1)] ++ [.ref ao])) g b0 n f (hQ g ao (fun z fm => rI z ∧ post (zI z) fm) px [exN3, exN1]) := by
  refine gs_h (cc := cL_discard) (maxL := 4) (by decide) (Nat.le_of_ble_eq_true rfl) ?_
  intro p e0 s m args below meth c ls hx hb hr hml hown hts hlk htab hE hK hM hl
  have hl : lv_has ls 4 [(0, .ref h), (1, .int (zI a1)), (2, .ref ao)] := hl
  refine lv_aload_n hx hb dL_discard_0 rfl (lv_at hl 2 rfl) ?_
  refine g_iconst hx hb dL_discard_1 ?_
  refine lv_aload_n hx hb dL_discard_2 rfl (lv_at hl 0 rfl) ?_
  refine lv_iload_n hx hb dL_discard_3 rfl (lv_at hl 1 rfl) ?_
  refine gx_callVi (ci := 10) (C := RX8) (T := TX8) (N := 9) (As := [.int (zI a1)]) (rest := [.int (zI 0), .ref ao]) ⟨hx, hb, hml, hown, hts⟩ hK hM hE hC (cuVx (n := 1) hts u_1010 u_1007 u_1 (by decide) u_1008 u_1009 ⟨Nat.le_of_ble_eq_true rfl, Nat.le_of_ble_eq_true rfl⟩) hrg hO rfl rfl hl.1 rfl (Nat.le_of_ble_eq_true rfl) dL_discard_4 ⟨Nat.le_of_ble_eq_true rfl, Nat.le_of_ble_eq_true rfl⟩ (fun E9 ce9 q9 f1 H locs hM hp h91 h92 h93 => ?_) (fun r f1 H locs hM hp => ?_)
  · rcases hpx E9 f1 hp with rfl | rfl
    · refine gh_catch (p1 := []) (x := (0, 9, 12, 90)) (p2 := [(0, 9, 15, 15)]) hown hts hE htab (by decide) (fun _ h => nomatch h) (by decide) (by decide) u_937 h91 h92 h93 ?_
      refine lv_astore_n (lv' := [(3, .ref q9), (0, .ref h), (1, .int (zI a1)), (2, .ref ao)]) hx hb dL_discard_12 rfl hl (by decide) rfl (fun ls hl => ?_)
      refine g_iconst hx hb dL_discard_13 ?_
      refine gx_iret hx hb hr hlk hK hM dL_discard_14 (by decide) (by decide) ?_
      exact Or.inr (Or.inl ⟨rfl, hp⟩)
    · refine gh_catch (p1 := [(0, 9, 12, 90)]) (x := (0, 9, 15, 15)) (p2 := []) hown hts hE htab (by decide) (List.forall_mem_cons.mpr ⟨⟨by decide, exN3, by decide, by decide, u_937⟩, (fun _ h => nomatch h)⟩) (by decide) (by decide) u_593 h91 h92 h93 ?_
      refine lv_astore_n (lv' := [(3, .ref q9), (0, .ref h), (1, .int (zI a1)), (2, .ref ao)]) hx hb dL_discard_15 rfl hl (by decide) rfl (fun ls hl => ?_)
      refine g_iconst hx hb dL_discard_16 ?_
      refine gx_iret hx hb hr hlk hK hM dL_discard_17 (by decide) (by decide) ?_
      exact Or.inr (Or.inr (Or.inl ⟨rfl, hp⟩))
  · have hz := zI_self r
    rw [← hz] at hp
    rw [← hz]
    refine g_i2l hx hb dL_discard_7 (rI_self r) ?_
    refine g_last hx hb hK hM hao (hout.kept (hkeep _ _ hp)) (by decide) (by decide) (by decide) dL_discard_8 (fun f2 H locs hM ha ho => ?_)
    refine lv_goto (tgt := 18) hx hb dL_discard_9 (by decide) ?_
    refine g_iconst hx hb dL_discard_18 ?_
    refine gx_iret hx hb hr hlk hK hM dL_discard_19 (by decide) (by decide) ?_
    exact Or.inl ⟨rfl, r.toInt, f1, ⟨rI_self r, hp⟩, ha.cong (fun k hk => by rw [show k = 0 by omega]; exact pu_s _ _ _), ho⟩
set_option maxRecDepth 100000 in
set_option maxHeartbeats 1000000 in
theorem c_L_merge (l : Launch) (g : gE) (b0 n : Nat) (f : gF) (h ao : Nat) (a1 : Int) (O : Nat → Int) (fs : List Value) (post : Int32 → gF → Prop) (px : String → gF → Prop) (hC : cxI l yX8_merge cX8_merge 5 (some .int) 6 158 1 (.ref h :: [.int (zI a1)]) g b0 n f post px) (hO : f h = .inr (10, fs)) (hrg : b0 ≤ h ∧ h < b0 + n) (hao : b0 ≤ ao ∧ ao < b0 + n) (hout : arJ g f ao 1 O) (hkeep : ∀ r fm, post r fm → fm ao = f ao) (hpx : ∀ E fm, px E fm → E = exN3 ∨ E = exN1 ∨ E = exN4) : cH l yL_merge cL_merge 4 [(0, 9, 12, 90), (0, 9, 15, 15), (0, 9, 18, 108)] 7 182 1 (.ref h :: ([.int (zI a1)] ++ [.ref ao])) g b0 n f (hQ g ao (fun z fm => rI z ∧ post (zI z) fm) px [exN3, exN1, exN4]) := by
  refine gs_h (cc := cL_merge) (maxL := 4) (by decide) (Nat.le_of_ble_eq_true rfl) ?_
  intro p e0 s m args below meth c ls hx hb hr hml hown hts hlk htab hE hK hM hl
  have hl : lv_has ls 4 [(0, .ref h), (1, .int (zI a1)), (2, .ref ao)] := hl
  refine lv_aload_n hx hb dL_merge_0 rfl (lv_at hl 2 rfl) ?_
  refine g_iconst hx hb dL_merge_1 ?_
  refine lv_aload_n hx hb dL_merge_2 rfl (lv_at hl 0 rfl) ?_
  refine lv_iload_n hx hb dL_merge_3 rfl (lv_at hl 1 rfl) ?_
  refine gx_callVi (ci := 10) (C := RX8) (T := TX8) (N := 9) (As := [.int (zI a1)]) (rest := [.int (zI 0), .ref ao]) ⟨hx, hb, hml, hown, hts⟩ hK hM hE hC (cuVx (n := 1) hts u_1027 u_1024 u_1 (by decide) u_1025 u_1026 ⟨Nat.le_of_ble_eq_true rfl, Nat.le_of_ble_eq_true rfl⟩) hrg hO rfl rfl hl.1 rfl (Nat.le_of_ble_eq_true rfl) dL_merge_4 ⟨Nat.le_of_ble_eq_true rfl, Nat.le_of_ble_eq_true rfl⟩ (fun E9 ce9 q9 f1 H locs hM hp h91 h92 h93 => ?_) (fun r f1 H locs hM hp => ?_)
  · rcases hpx E9 f1 hp with rfl | rfl | rfl
    · refine gh_catch (p1 := []) (x := (0, 9, 12, 90)) (p2 := [(0, 9, 15, 15), (0, 9, 18, 108)]) hown hts hE htab (by decide) (fun _ h => nomatch h) (by decide) (by decide) u_937 h91 h92 h93 ?_
      refine lv_astore_n (lv' := [(3, .ref q9), (0, .ref h), (1, .int (zI a1)), (2, .ref ao)]) hx hb dL_merge_12 rfl hl (by decide) rfl (fun ls hl => ?_)
      refine g_iconst hx hb dL_merge_13 ?_
      refine gx_iret hx hb hr hlk hK hM dL_merge_14 (by decide) (by decide) ?_
      exact Or.inr (Or.inl ⟨rfl, hp⟩)
    · refine gh_catch (p1 := [(0, 9, 12, 90)]) (x := (0, 9, 15, 15)) (p2 := [(0, 9, 18, 108)]) hown hts hE htab (by decide) (List.forall_mem_cons.mpr ⟨⟨by decide, exN3, by decide, by decide, u_937⟩, (fun _ h => nomatch h)⟩) (by decide) (by decide) u_593 h91 h92 h93 ?_
      refine lv_astore_n (lv' := [(3, .ref q9), (0, .ref h), (1, .int (zI a1)), (2, .ref ao)]) hx hb dL_merge_15 rfl hl (by decide) rfl (fun ls hl => ?_)
      refine g_iconst hx hb dL_merge_16 ?_
      refine gx_iret hx hb hr hlk hK hM dL_merge_17 (by decide) (by decide) ?_
      exact Or.inr (Or.inr (Or.inl ⟨rfl, hp⟩))
    · refine gh_catch (p1 := [(0, 9, 12, 90), (0, 9, 15, 15)]) (x := (0, 9, 18, 108)) (p2 := []) hown hts hE htab (by decide) (List.forall_mem_cons.mpr ⟨⟨by decide, exN3, by decide, by decide, u_937⟩, (List.forall_mem_cons.mpr ⟨⟨by decide, exN1, by decide, by decide, u_593⟩, (fun _ h => nomatch h)⟩)⟩) (by decide) (by decide) u_1023 h91 h92 h93 ?_
      refine lv_astore_n (lv' := [(3, .ref q9), (0, .ref h), (1, .int (zI a1)), (2, .ref ao)]) hx hb dL_merge_18 rfl hl (by decide) rfl (fun ls hl => ?_)
      refine g_iconst hx hb dL_merge_19 ?_
      refine gx_iret hx hb hr hlk hK hM dL_merge_20 (by decide) (by decide) ?_
      exact Or.inr (Or.inr (Or.inr (Or.inl ⟨rfl, hp⟩)))
  · have hz := zI_self r
    rw [← hz] at hp
    rw [← hz]
    refine g_i2l hx hb dL_merge_7 (rI_self r) ?_
    refine g_last hx hb hK hM hao (hout.kept (hkeep _ _ hp)) (by decide) (by decide) (by decide) dL_merge_8 (fun f2 H locs hM ha ho => ?_)
    refine lv_goto (tgt := 21) hx hb dL_merge_9 (by decide) ?_
    refine g_iconst hx hb dL_merge_21 ?_
    refine gx_iret hx hb hr hlk hK hM dL_merge_22 (by decide) (by decide) ?_
    exact Or.inl ⟨rfl, r.toInt, f1, ⟨rI_self r, hp⟩, ha.cong (fun k hk => by rw [show k = 0 by omega]; exact pu_s _ _ _), ho⟩
set_option maxRecDepth 100000 in
set_option maxHeartbeats 1000000 in
theorem c_L_conflict (l : Launch) (g : gE) (b0 n : Nat) (f : gF) (h ao : Nat) (a1 : Int) (O : Nat → Int) (fs : List Value) (post : Int32 → gF → Prop) (px : String → gF → Prop) (hC : cxI l yX8_conflict cX8_conflict 2 (some .int) 6 82 1 (.ref h :: [.int (zI a1)]) g b0 n f post px) (hO : f h = .inr (10, fs)) (hrg : b0 ≤ h ∧ h < b0 + n) (hao : b0 ≤ ao ∧ ao < b0 + n) (hout : arJ g f ao 1 O) (hkeep : ∀ r fm, post r fm → fm ao = f ao) (hpx : ∀ E fm, px E fm → E = exN3) : cH l yL_conflict cL_conflict 4 [(0, 9, 12, 90)] 7 103 1 (.ref h :: ([.int (zI a1)] ++ [.ref ao])) g b0 n f (hQ g ao (fun z fm => rI z ∧ post (zI z) fm) px [exN3]) := by
  refine gs_h (cc := cL_conflict) (maxL := 4) (by decide) (Nat.le_of_ble_eq_true rfl) ?_
  intro p e0 s m args below meth c ls hx hb hr hml hown hts hlk htab hE hK hM hl
  have hl : lv_has ls 4 [(0, .ref h), (1, .int (zI a1)), (2, .ref ao)] := hl
  refine lv_aload_n hx hb dL_conflict_0 rfl (lv_at hl 2 rfl) ?_
  refine g_iconst hx hb dL_conflict_1 ?_
  refine lv_aload_n hx hb dL_conflict_2 rfl (lv_at hl 0 rfl) ?_
  refine lv_iload_n hx hb dL_conflict_3 rfl (lv_at hl 1 rfl) ?_
  refine gx_callVi (ci := 10) (C := RX8) (T := TX8) (N := 9) (As := [.int (zI a1)]) (rest := [.int (zI 0), .ref ao]) ⟨hx, hb, hml, hown, hts⟩ hK hM hE hC (cuVx (n := 1) hts u_1069 u_1066 u_1 (by decide) u_1067 u_1068 ⟨Nat.le_of_ble_eq_true rfl, Nat.le_of_ble_eq_true rfl⟩) hrg hO rfl rfl hl.1 rfl (Nat.le_of_ble_eq_true rfl) dL_conflict_4 ⟨Nat.le_of_ble_eq_true rfl, Nat.le_of_ble_eq_true rfl⟩ (fun E9 ce9 q9 f1 H locs hM hp h91 h92 h93 => ?_) (fun r f1 H locs hM hp => ?_)
  · rcases hpx E9 f1 hp with rfl
    · refine gh_catch (p1 := []) (x := (0, 9, 12, 90)) (p2 := []) hown hts hE htab (by decide) (fun _ h => nomatch h) (by decide) (by decide) u_937 h91 h92 h93 ?_
      refine lv_astore_n (lv' := [(3, .ref q9), (0, .ref h), (1, .int (zI a1)), (2, .ref ao)]) hx hb dL_conflict_12 rfl hl (by decide) rfl (fun ls hl => ?_)
      refine g_iconst hx hb dL_conflict_13 ?_
      refine gx_iret hx hb hr hlk hK hM dL_conflict_14 (by decide) (by decide) ?_
      exact Or.inr (Or.inl ⟨rfl, hp⟩)
  · have hz := zI_self r
    rw [← hz] at hp
    rw [← hz]
    refine g_i2l hx hb dL_conflict_7 (rI_self r) ?_
    refine g_last hx hb hK hM hao (hout.kept (hkeep _ _ hp)) (by decide) (by decide) (by decide) dL_conflict_8 (fun f2 H locs hM ha ho => ?_)
    refine lv_goto (tgt := 15) hx hb dL_conflict_9 (by decide) ?_
    refine g_iconst hx hb dL_conflict_15 ?_
    refine gx_iret hx hb hr hlk hK hM dL_conflict_16 (by decide) (by decide) ?_
    exact Or.inl ⟨rfl, r.toInt, f1, ⟨rI_self r, hp⟩, ha.cong (fun k hk => by rw [show k = 0 by omega]; exact pu_s _ _ _), ho⟩
set_option maxRecDepth 100000 in
set_option maxHeartbeats 1000000 in
theorem c_L_branch (l : Launch) (g : gE) (b0 n : Nat) (f : gF) (h ao : Nat) (a1 a2 : Int) (O : Nat → Int) (fs : List Value) (post : Int64 → gF → Prop) (px : String → gF → Prop) (hC : cxL l yX8_branch cX8_branch 4 (some .long) 7 102 1 (.ref h :: [.int (zI a1), .int (zI a2)]) g b0 n f post px) (hO : f h = .inr (10, fs)) (hrg : b0 ≤ h ∧ h < b0 + n) (hao : b0 ≤ ao ∧ ao < b0 + n) (hout : arJ g f ao 1 O) (hkeep : ∀ r fm, post r fm → fm ao = f ao) (hpx : ∀ E fm, px E fm → E = exN3 ∨ E = exN0) : cH l yL_branch cL_branch 5 [(0, 9, 12, 90), (0, 9, 16, 13)] 8 125 1 (.ref h :: ([.int (zI a1), .int (zI a2)] ++ [.ref ao])) g b0 n f (hQ g ao (fun z fm => rL z ∧ post (zL z) fm) px [exN3, exN0]) := by
  refine gs_h (cc := cL_branch) (maxL := 5) (by decide) (Nat.le_of_ble_eq_true rfl) ?_
  intro p e0 s m args below meth c ls hx hb hr hml hown hts hlk htab hE hK hM hl
  have hl : lv_has ls 5 [(0, .ref h), (1, .int (zI a1)), (2, .int (zI a2)), (3, .ref ao)] := hl
  refine lv_aload_n hx hb dL_branch_0 rfl (lv_at hl 3 rfl) ?_
  refine g_iconst hx hb dL_branch_1 ?_
  refine lv_aload_n hx hb dL_branch_2 rfl (lv_at hl 0 rfl) ?_
  refine lv_iload_n hx hb dL_branch_3 rfl (lv_at hl 1 rfl) ?_
  refine lv_iload_n hx hb dL_branch_4 rfl (lv_at hl 2 rfl) ?_
  refine gx_callVl (ci := 10) (C := RX8) (T := TX8) (N := 9) (As := [.int (zI a1), .int (zI a2)]) (rest := [.int (zI 0), .ref ao]) ⟨hx, hb, hml, hown, hts⟩ hK hM hE hC (cuVx (n := 2) hts u_1077 u_1074 u_1 (by decide) u_1075 u_1076 ⟨Nat.le_of_ble_eq_true rfl, Nat.le_of_ble_eq_true rfl⟩) hrg hO rfl rfl hl.1 rfl (Nat.le_of_ble_eq_true rfl) dL_branch_5 ⟨Nat.le_of_ble_eq_true rfl, Nat.le_of_ble_eq_true rfl⟩ (fun E9 ce9 q9 f1 H locs hM hp h91 h92 h93 => ?_) (fun r f1 H locs hM hp => ?_)
  · rcases hpx E9 f1 hp with rfl | rfl
    · refine gh_catch (p1 := []) (x := (0, 9, 12, 90)) (p2 := [(0, 9, 16, 13)]) hown hts hE htab (by decide) (fun _ h => nomatch h) (by decide) (by decide) u_937 h91 h92 h93 ?_
      refine lv_astore (lv' := [(4, .ref q9), (0, .ref h), (1, .int (zI a1)), (2, .int (zI a2)), (3, .ref ao)]) hx hb dL_branch_12 hl (by decide) rfl (fun ls hl => ?_)
      refine g_iconst hx hb dL_branch_14 ?_
      refine gx_iret hx hb hr hlk hK hM dL_branch_15 (by decide) (by decide) ?_
      exact Or.inr (Or.inl ⟨rfl, hp⟩)
    · refine gh_catch (p1 := [(0, 9, 12, 90)]) (x := (0, 9, 16, 13)) (p2 := []) hown hts hE htab (by decide) (List.forall_mem_cons.mpr ⟨⟨by decide, exN3, by decide, by decide, u_937⟩, (fun _ h => nomatch h)⟩) (by decide) (by decide) u_592 h91 h92 h93 ?_
      refine lv_astore (lv' := [(4, .ref q9), (0, .ref h), (1, .int (zI a1)), (2, .int (zI a2)), (3, .ref ao)]) hx hb dL_branch_16 hl (by decide) rfl (fun ls hl => ?_)
      refine g_iconst hx hb dL_branch_18 ?_
      refine gx_iret hx hb hr hlk hK hM dL_branch_19 (by decide) (by decide) ?_
      exact Or.inr (Or.inr (Or.inl ⟨rfl, hp⟩))
  · have hz := zL_self r
    rw [← hz] at hp
    rw [← hz]
    refine g_last hx hb hK hM hao (hout.kept (hkeep _ _ hp)) (by decide) (by decide) (by decide) dL_branch_8 (fun f2 H locs hM ha ho => ?_)
    refine lv_goto (tgt := 20) hx hb dL_branch_9 (by decide) ?_
    refine g_iconst hx hb dL_branch_20 ?_
    refine gx_iret hx hb hr hlk hK hM dL_branch_21 (by decide) (by decide) ?_
    exact Or.inl ⟨rfl, r.toInt, f1, ⟨⟨Int64.le_toInt r, Int64.toInt_lt r⟩, hp⟩, ha.cong (fun k hk => by rw [show k = 0 by omega]; exact pu_s _ _ _), ho⟩
set_option maxRecDepth 100000 in
set_option maxHeartbeats 1000000 in
theorem c_L_difference (l : Launch) (g : gE) (b0 n : Nat) (f : gF) (h ao : Nat) (a1 a2 a3 : Int) (O : Nat → Int) (fs : List Value) (post : Int64 → gF → Prop) (px : String → gF → Prop) (hC : cxL l yX8_difference cX8_difference 6 (some .long) 7 102 1 (.ref h :: [.int (zI a1), .int (zI a2), .int (zI a3)]) g b0 n f post px) (hO : f h = .inr (10, fs)) (hrg : b0 ≤ h ∧ h < b0 + n) (hao : b0 ≤ ao ∧ ao < b0 + n) (hout : arJ g f ao 1 O) (hkeep : ∀ r fm, post r fm → fm ao = f ao) (hpx : ∀ E fm, px E fm → E = exN3 ∨ E = exN2) : cH l yL_difference cL_difference 6 [(0, 11, 14, 90), (0, 11, 18, 20)] 8 127 1 (.ref h :: ([.int (zI a1), .int (zI a2), .int (zI a3)] ++ [.ref ao])) g b0 n f (hQ g ao (fun z fm => rL z ∧ post (zL z) fm) px [exN3, exN2]) := by
  refine gs_h (cc := cL_difference) (maxL := 6) (by decide) (Nat.le_of_ble_eq_true rfl) ?_
  intro p e0 s m args below meth c ls hx hb hr hml hown hts hlk htab hE hK hM hl
  have hl : lv_has ls 6 [(0, .ref h), (1, .int (zI a1)), (2, .int (zI a2)), (3, .int (zI a3)), (4, .ref ao)] := hl
  refine lv_aload hx hb dL_difference_0 (lv_at hl 4 rfl) ?_
  refine g_iconst hx hb dL_difference_2 ?_
  refine lv_aload_n hx hb dL_difference_3 rfl (lv_at hl 0 rfl) ?_
  refine lv_iload_n hx hb dL_difference_4 rfl (lv_at hl 1 rfl) ?_
  refine lv_iload_n hx hb dL_difference_5 rfl (lv_at hl 2 rfl) ?_
  refine lv_iload_n hx hb dL_difference_6 rfl (lv_at hl 3 rfl) ?_
  refine gx_callVl (ci := 10) (C := RX8) (T := TX8) (N := 9) (As := [.int (zI a1), .int (zI a2), .int (zI a3)]) (rest := [.int (zI 0), .ref ao]) ⟨hx, hb, hml, hown, hts⟩ hK hM hE hC (cuVx (n := 3) hts u_1086 u_1083 u_1 (by decide) u_1084 u_1085 ⟨Nat.le_of_ble_eq_true rfl, Nat.le_of_ble_eq_true rfl⟩) hrg hO rfl rfl hl.1 rfl (Nat.le_of_ble_eq_true rfl) dL_difference_7 ⟨Nat.le_of_ble_eq_true rfl, Nat.le_of_ble_eq_true rfl⟩ (fun E9 ce9 q9 f1 H locs hM hp h91 h92 h93 => ?_) (fun r f1 H locs hM hp => ?_)
  · rcases hpx E9 f1 hp with rfl | rfl
    · refine gh_catch (p1 := []) (x := (0, 11, 14, 90)) (p2 := [(0, 11, 18, 20)]) hown hts hE htab (by decide) (fun _ h => nomatch h) (by decide) (by decide) u_937 h91 h92 h93 ?_
      refine lv_astore (lv' := [(5, .ref q9), (0, .ref h), (1, .int (zI a1)), (2, .int (zI a2)), (3, .int (zI a3)), (4, .ref ao)]) hx hb dL_difference_14 hl (by decide) rfl (fun ls hl => ?_)
      refine g_iconst hx hb dL_difference_16 ?_
      refine gx_iret hx hb hr hlk hK hM dL_difference_17 (by decide) (by decide) ?_
      exact Or.inr (Or.inl ⟨rfl, hp⟩)
    · refine gh_catch (p1 := [(0, 11, 14, 90)]) (x := (0, 11, 18, 20)) (p2 := []) hown hts hE htab (by decide) (List.forall_mem_cons.mpr ⟨⟨by decide, exN3, by decide, by decide, u_937⟩, (fun _ h => nomatch h)⟩) (by decide) (by decide) u_710 h91 h92 h93 ?_
      refine lv_astore (lv' := [(5, .ref q9), (0, .ref h), (1, .int (zI a1)), (2, .int (zI a2)), (3, .int (zI a3)), (4, .ref ao)]) hx hb dL_difference_18 hl (by decide) rfl (fun ls hl => ?_)
      refine g_iconst hx hb dL_difference_20 ?_
      refine gx_iret hx hb hr hlk hK hM dL_difference_21 (by decide) (by decide) ?_
      exact Or.inr (Or.inr (Or.inl ⟨rfl, hp⟩))
  · have hz := zL_self r
    rw [← hz] at hp
    rw [← hz]
    refine g_last hx hb hK hM hao (hout.kept (hkeep _ _ hp)) (by decide) (by decide) (by decide) dL_difference_10 (fun f2 H locs hM ha ho => ?_)
    refine lv_goto (tgt := 22) hx hb dL_difference_11 (by decide) ?_
    refine g_iconst hx hb dL_difference_22 ?_
    refine gx_iret hx hb hr hlk hK hM dL_difference_23 (by decide) (by decide) ?_
    exact Or.inl ⟨rfl, r.toInt, f1, ⟨⟨Int64.le_toInt r, Int64.toInt_lt r⟩, hp⟩, ha.cong (fun k hk => by rw [show k = 0 by omega]; exact pu_s _ _ _), ho⟩
set_option maxRecDepth 100000 in
set_option maxHeartbeats 1000000 in
theorem c_L_step (l : Launch) (g : gE) (b0 n : Nat) (f : gF) (h ao : Nat) (a1 a2 : Int) (O : Nat → Int) (fs : List Value) (post : Int32 → gF → Prop) (px : String → gF → Prop) (hC : cxI l yX8_step cX8_step 4 (some .int) 7 102 2 (.ref h :: [.int (zI a1), .int (zI a2)]) g b0 n f post px) (hO : f h = .inr (10, fs)) (hrg : b0 ≤ h ∧ h < b0 + n) (hao : b0 ≤ ao ∧ ao < b0 + n) (hout : arJ g f ao 1 O) (hkeep : ∀ r fm, post r fm → fm ao = f ao) (hpx : ∀ E fm, px E fm → E = exN2 ∨ E = exN0) : cH l yL_step cL_step 5 [(0, 10, 13, 20), (0, 10, 17, 13)] 8 125 2 (.ref h :: ([.int (zI a1), .int (zI a2)] ++ [.ref ao])) g b0 n f (hQ g ao (fun z fm => rI z ∧ post (zI z) fm) px [exN2, exN0]) := by
  refine gs_h (cc := cL_step) (maxL := 5) (by decide) (Nat.le_of_ble_eq_true rfl) ?_
  intro p e0 s m args below meth c ls hx hb hr hml hown hts hlk htab hE hK hM hl
  have hl : lv_has ls 5 [(0, .ref h), (1, .int (zI a1)), (2, .int (zI a2)), (3, .ref ao)] := hl
  refine lv_aload_n hx hb dL_step_0 rfl (lv_at hl 3 rfl) ?_
  refine g_iconst hx hb dL_step_1 ?_
  refine lv_aload_n hx hb dL_step_2 rfl (lv_at hl 0 rfl) ?_
  refine lv_iload_n hx hb dL_step_3 rfl (lv_at hl 1 rfl) ?_
  refine lv_iload_n hx hb dL_step_4 rfl (lv_at hl 2 rfl) ?_
  refine gx_callVi (ci := 10) (C := RX8) (T := TX8) (N := 9) (As := [.int (zI a1), .int (zI a2)]) (rest := [.int (zI 0), .ref ao]) ⟨hx, hb, hml, hown, hts⟩ hK hM hE hC (cuVx (n := 2) hts u_1093 u_1090 u_1 (by decide) u_1091 u_1092 ⟨Nat.le_of_ble_eq_true rfl, Nat.le_of_ble_eq_true rfl⟩) hrg hO rfl rfl hl.1 rfl (Nat.le_of_ble_eq_true rfl) dL_step_5 ⟨Nat.le_of_ble_eq_true rfl, Nat.le_of_ble_eq_true rfl⟩ (fun E9 ce9 q9 f1 H locs hM hp h91 h92 h93 => ?_) (fun r f1 H locs hM hp => ?_)
  · rcases hpx E9 f1 hp with rfl | rfl
    · refine gh_catch (p1 := []) (x := (0, 10, 13, 20)) (p2 := [(0, 10, 17, 13)]) hown hts hE htab (by decide) (fun _ h => nomatch h) (by decide) (by decide) u_710 h91 h92 h93 ?_
      refine lv_astore (lv' := [(4, .ref q9), (0, .ref h), (1, .int (zI a1)), (2, .int (zI a2)), (3, .ref ao)]) hx hb dL_step_13 hl (by decide) rfl (fun ls hl => ?_)
      refine g_iconst hx hb dL_step_15 ?_
      refine gx_iret hx hb hr hlk hK hM dL_step_16 (by decide) (by decide) ?_
      exact Or.inr (Or.inl ⟨rfl, hp⟩)
    · refine gh_catch (p1 := [(0, 10, 13, 20)]) (x := (0, 10, 17, 13)) (p2 := []) hown hts hE htab (by decide) (List.forall_mem_cons.mpr ⟨⟨by decide, exN2, by decide, by decide, u_710⟩, (fun _ h => nomatch h)⟩) (by decide) (by decide) u_592 h91 h92 h93 ?_
      refine lv_astore (lv' := [(4, .ref q9), (0, .ref h), (1, .int (zI a1)), (2, .int (zI a2)), (3, .ref ao)]) hx hb dL_step_17 hl (by decide) rfl (fun ls hl => ?_)
      refine g_iconst hx hb dL_step_19 ?_
      refine gx_iret hx hb hr hlk hK hM dL_step_20 (by decide) (by decide) ?_
      exact Or.inr (Or.inr (Or.inl ⟨rfl, hp⟩))
  · have hz := zI_self r
    rw [← hz] at hp
    rw [← hz]
    refine g_i2l hx hb dL_step_8 (rI_self r) ?_
    refine g_last hx hb hK hM hao (hout.kept (hkeep _ _ hp)) (by decide) (by decide) (by decide) dL_step_9 (fun f2 H locs hM ha ho => ?_)
    refine lv_goto (tgt := 21) hx hb dL_step_10 (by decide) ?_
    refine g_iconst hx hb dL_step_21 ?_
    refine gx_iret hx hb hr hlk hK hM dL_step_22 (by decide) (by decide) ?_
    exact Or.inl ⟨rfl, r.toInt, f1, ⟨rI_self r, hp⟩, ha.cong (fun k hk => by rw [show k = 0 by omega]; exact pu_s _ _ _), ho⟩
set_option maxRecDepth 100000 in
set_option maxHeartbeats 1000000 in
theorem c_L_undo (l : Launch) (g : gE) (b0 n : Nat) (f : gF) (h ao : Nat) (_u : Unit) (O : Nat → Int) (fs : List Value) (post : Int32 → gF → Prop) (px : String → gF → Prop) (hC : cxI l yX8_undo cX8_undo 3 (some .int) 6 158 1 (.ref h :: []) g b0 n f post px) (hO : f h = .inr (10, fs)) (hrg : b0 ≤ h ∧ h < b0 + n) (hao : b0 ≤ ao ∧ ao < b0 + n) (hout : arJ g f ao 1 O) (hkeep : ∀ r fm, post r fm → fm ao = f ao) (hpx : ∀ E fm, px E fm → E = exN1) : cH l yL_undo cL_undo 3 [(0, 8, 11, 15)] 7 180 1 (.ref h :: ([] ++ [.ref ao])) g b0 n f (hQ g ao (fun z fm => rI z ∧ post (zI z) fm) px [exN1]) := by
  refine gs_h (cc := cL_undo) (maxL := 3) (by decide) (Nat.le_of_ble_eq_true rfl) ?_
  intro p e0 s m args below meth c ls hx hb hr hml hown hts hlk htab hE hK hM hl
  have hl : lv_has ls 3 [(0, .ref h), (1, .ref ao)] := hl
  refine lv_aload_n hx hb dL_undo_0 rfl (lv_at hl 1 rfl) ?_
  refine g_iconst hx hb dL_undo_1 ?_
  refine lv_aload_n hx hb dL_undo_2 rfl (lv_at hl 0 rfl) ?_
  refine gx_callVi (ci := 10) (C := RX8) (T := TX8) (N := 9) (As := []) (rest := [.int (zI 0), .ref ao]) ⟨hx, hb, hml, hown, hts⟩ hK hM hE hC (cuVx (n := 0) hts u_1100 u_1097 u_1 (by decide) u_1098 u_1099 ⟨Nat.le_of_ble_eq_true rfl, Nat.le_of_ble_eq_true rfl⟩) hrg hO rfl rfl hl.1 rfl (Nat.le_of_ble_eq_true rfl) dL_undo_3 ⟨Nat.le_of_ble_eq_true rfl, Nat.le_of_ble_eq_true rfl⟩ (fun E9 ce9 q9 f1 H locs hM hp h91 h92 h93 => ?_) (fun r f1 H locs hM hp => ?_)
  · rcases hpx E9 f1 hp with rfl
    · refine gh_catch (p1 := []) (x := (0, 8, 11, 15)) (p2 := []) hown hts hE htab (by decide) (fun _ h => nomatch h) (by decide) (by decide) u_593 h91 h92 h93 ?_
      refine lv_astore_n (lv' := [(2, .ref q9), (0, .ref h), (1, .ref ao)]) hx hb dL_undo_11 rfl hl (by decide) rfl (fun ls hl => ?_)
      refine g_iconst hx hb dL_undo_12 ?_
      refine gx_iret hx hb hr hlk hK hM dL_undo_13 (by decide) (by decide) ?_
      exact Or.inr (Or.inl ⟨rfl, hp⟩)
  · have hz := zI_self r
    rw [← hz] at hp
    rw [← hz]
    refine g_i2l hx hb dL_undo_6 (rI_self r) ?_
    refine g_last hx hb hK hM hao (hout.kept (hkeep _ _ hp)) (by decide) (by decide) (by decide) dL_undo_7 (fun f2 H locs hM ha ho => ?_)
    refine lv_goto (tgt := 14) hx hb dL_undo_8 (by decide) ?_
    refine g_iconst hx hb dL_undo_14 ?_
    refine gx_iret hx hb hr hlk hK hM dL_undo_15 (by decide) (by decide) ?_
    exact Or.inl ⟨rfl, r.toInt, f1, ⟨rI_self r, hp⟩, ha.cong (fun k hk => by rw [show k = 0 by omega]; exact pu_s _ _ _), ho⟩
set_option maxRecDepth 100000 in
set_option maxHeartbeats 1000000 in
theorem c_L_dropStep (l : Launch) (g : gE) (b0 n : Nat) (f : gF) (h ao : Nat) (a1 : Int) (O : Nat → Int) (fs : List Value) (post : Int32 → gF → Prop) (px : String → gF → Prop) (hC : cxI l yX8_dropStep cX8_dropStep 3 (some .int) 7 158 2 (.ref h :: [.int (zI a1)]) g b0 n f post px) (hO : f h = .inr (10, fs)) (hrg : b0 ≤ h ∧ h < b0 + n) (hao : b0 ≤ ao ∧ ao < b0 + n) (hout : arJ g f ao 1 O) (hkeep : ∀ r fm, post r fm → fm ao = f ao) (hpx : ∀ E fm, px E fm → E = exN2 ∨ E = exN4) : cH l yL_dropStep cL_dropStep 4 [(0, 9, 12, 20), (0, 9, 15, 108)] 8 180 2 (.ref h :: ([.int (zI a1)] ++ [.ref ao])) g b0 n f (hQ g ao (fun z fm => rI z ∧ post (zI z) fm) px [exN2, exN4]) := by
  refine gs_h (cc := cL_dropStep) (maxL := 4) (by decide) (Nat.le_of_ble_eq_true rfl) ?_
  intro p e0 s m args below meth c ls hx hb hr hml hown hts hlk htab hE hK hM hl
  have hl : lv_has ls 4 [(0, .ref h), (1, .int (zI a1)), (2, .ref ao)] := hl
  refine lv_aload_n hx hb dL_dropStep_0 rfl (lv_at hl 2 rfl) ?_
  refine g_iconst hx hb dL_dropStep_1 ?_
  refine lv_aload_n hx hb dL_dropStep_2 rfl (lv_at hl 0 rfl) ?_
  refine lv_iload_n hx hb dL_dropStep_3 rfl (lv_at hl 1 rfl) ?_
  refine gx_callVi (ci := 10) (C := RX8) (T := TX8) (N := 9) (As := [.int (zI a1)]) (rest := [.int (zI 0), .ref ao]) ⟨hx, hb, hml, hown, hts⟩ hK hM hE hC (cuVx (n := 1) hts u_1112 u_1109 u_1 (by decide) u_1110 u_1111 ⟨Nat.le_of_ble_eq_true rfl, Nat.le_of_ble_eq_true rfl⟩) hrg hO rfl rfl hl.1 rfl (Nat.le_of_ble_eq_true rfl) dL_dropStep_4 ⟨Nat.le_of_ble_eq_true rfl, Nat.le_of_ble_eq_true rfl⟩ (fun E9 ce9 q9 f1 H locs hM hp h91 h92 h93 => ?_) (fun r f1 H locs hM hp => ?_)
  · rcases hpx E9 f1 hp with rfl | rfl
    · refine gh_catch (p1 := []) (x := (0, 9, 12, 20)) (p2 := [(0, 9, 15, 108)]) hown hts hE htab (by decide) (fun _ h => nomatch h) (by decide) (by decide) u_710 h91 h92 h93 ?_
      refine lv_astore_n (lv' := [(3, .ref q9), (0, .ref h), (1, .int (zI a1)), (2, .ref ao)]) hx hb dL_dropStep_12 rfl hl (by decide) rfl (fun ls hl => ?_)
      refine g_iconst hx hb dL_dropStep_13 ?_
      refine gx_iret hx hb hr hlk hK hM dL_dropStep_14 (by decide) (by decide) ?_
      exact Or.inr (Or.inl ⟨rfl, hp⟩)
    · refine gh_catch (p1 := [(0, 9, 12, 20)]) (x := (0, 9, 15, 108)) (p2 := []) hown hts hE htab (by decide) (List.forall_mem_cons.mpr ⟨⟨by decide, exN2, by decide, by decide, u_710⟩, (fun _ h => nomatch h)⟩) (by decide) (by decide) u_1023 h91 h92 h93 ?_
      refine lv_astore_n (lv' := [(3, .ref q9), (0, .ref h), (1, .int (zI a1)), (2, .ref ao)]) hx hb dL_dropStep_15 rfl hl (by decide) rfl (fun ls hl => ?_)
      refine g_iconst hx hb dL_dropStep_16 ?_
      refine gx_iret hx hb hr hlk hK hM dL_dropStep_17 (by decide) (by decide) ?_
      exact Or.inr (Or.inr (Or.inl ⟨rfl, hp⟩))
  · have hz := zI_self r
    rw [← hz] at hp
    rw [← hz]
    refine g_i2l hx hb dL_dropStep_7 (rI_self r) ?_
    refine g_last hx hb hK hM hao (hout.kept (hkeep _ _ hp)) (by decide) (by decide) (by decide) dL_dropStep_8 (fun f2 H locs hM ha ho => ?_)
    refine lv_goto (tgt := 18) hx hb dL_dropStep_9 (by decide) ?_
    refine g_iconst hx hb dL_dropStep_18 ?_
    refine gx_iret hx hb hr hlk hK hM dL_dropStep_19 (by decide) (by decide) ?_
    exact Or.inl ⟨rfl, r.toInt, f1, ⟨rI_self r, hp⟩, ha.cong (fun k hk => by rw [show k = 0 by omega]; exact pu_s _ _ _), ho⟩
set_option maxRecDepth 100000 in
set_option maxHeartbeats 1000000 in
theorem c_L_feed (l : Launch) (g : gE) (b0 n : Nat) (f : gF) (h ao : Nat) (a1 : Int) (O : Nat → Int) (fs : List Value) (post : Int32 → gF → Prop) (px : String → gF → Prop) (hC : cxI l yX8_feed cX8_feed 2 (some .int) 6 82 1 (.ref h :: [.int (zI a1)]) g b0 n f post px) (hO : f h = .inr (10, fs)) (hrg : b0 ≤ h ∧ h < b0 + n) (hao : b0 ≤ ao ∧ ao < b0 + n) (hout : arJ g f ao 1 O) (hkeep : ∀ r fm, post r fm → fm ao = f ao) (hpx : ∀ E fm, px E fm → E = exN1) : cH l yL_feed cL_feed 4 [(0, 9, 12, 15)] 7 103 1 (.ref h :: ([.int (zI a1)] ++ [.ref ao])) g b0 n f (hQ g ao (fun z fm => rI z ∧ post (zI z) fm) px [exN1]) := by
  refine gs_h (cc := cL_feed) (maxL := 4) (by decide) (Nat.le_of_ble_eq_true rfl) ?_
  intro p e0 s m args below meth c ls hx hb hr hml hown hts hlk htab hE hK hM hl
  have hl : lv_has ls 4 [(0, .ref h), (1, .int (zI a1)), (2, .ref ao)] := hl
  refine lv_aload_n hx hb dL_feed_0 rfl (lv_at hl 2 rfl) ?_
  refine g_iconst hx hb dL_feed_1 ?_
  refine lv_aload_n hx hb dL_feed_2 rfl (lv_at hl 0 rfl) ?_
  refine lv_iload_n hx hb dL_feed_3 rfl (lv_at hl 1 rfl) ?_
  refine gx_callVi (ci := 10) (C := RX8) (T := TX8) (N := 9) (As := [.int (zI a1)]) (rest := [.int (zI 0), .ref ao]) ⟨hx, hb, hml, hown, hts⟩ hK hM hE hC (cuVx (n := 1) hts u_1120 u_1117 u_1 (by decide) u_1118 u_1119 ⟨Nat.le_of_ble_eq_true rfl, Nat.le_of_ble_eq_true rfl⟩) hrg hO rfl rfl hl.1 rfl (Nat.le_of_ble_eq_true rfl) dL_feed_4 ⟨Nat.le_of_ble_eq_true rfl, Nat.le_of_ble_eq_true rfl⟩ (fun E9 ce9 q9 f1 H locs hM hp h91 h92 h93 => ?_) (fun r f1 H locs hM hp => ?_)
  · rcases hpx E9 f1 hp with rfl
    · refine gh_catch (p1 := []) (x := (0, 9, 12, 15)) (p2 := []) hown hts hE htab (by decide) (fun _ h => nomatch h) (by decide) (by decide) u_593 h91 h92 h93 ?_
      refine lv_astore_n (lv' := [(3, .ref q9), (0, .ref h), (1, .int (zI a1)), (2, .ref ao)]) hx hb dL_feed_12 rfl hl (by decide) rfl (fun ls hl => ?_)
      refine g_iconst hx hb dL_feed_13 ?_
      refine gx_iret hx hb hr hlk hK hM dL_feed_14 (by decide) (by decide) ?_
      exact Or.inr (Or.inl ⟨rfl, hp⟩)
  · have hz := zI_self r
    rw [← hz] at hp
    rw [← hz]
    refine g_i2l hx hb dL_feed_7 (rI_self r) ?_
    refine g_last hx hb hK hM hao (hout.kept (hkeep _ _ hp)) (by decide) (by decide) (by decide) dL_feed_8 (fun f2 H locs hM ha ho => ?_)
    refine lv_goto (tgt := 15) hx hb dL_feed_9 (by decide) ?_
    refine g_iconst hx hb dL_feed_15 ?_
    refine gx_iret hx hb hr hlk hK hM dL_feed_16 (by decide) (by decide) ?_
    exact Or.inl ⟨rfl, r.toInt, f1, ⟨rI_self r, hp⟩, ha.cong (fun k hk => by rw [show k = 0 by omega]; exact pu_s _ _ _), ho⟩
set_option maxRecDepth 100000 in
set_option maxHeartbeats 1000000 in
theorem c_L_restore (l : Launch) (g : gE) (b0 n : Nat) (f : gF) (h ao : Nat) (_u : Unit) (O : Nat → Int) (fs : List Value) (post : Int32 → gF → Prop) (px : String → gF → Prop) (hC : cxI l yX8_restore cX8_restore 1 (some .int) 6 147 1 (.ref h :: []) g b0 n f post px) (hO : f h = .inr (10, fs)) (hrg : b0 ≤ h ∧ h < b0 + n) (hao : b0 ≤ ao ∧ ao < b0 + n) (hout : arJ g f ao 1 O) (hkeep : ∀ r fm, post r fm → fm ao = f ao) (hpx : ∀ E fm, px E fm → E = exN1) : cH l yL_restore cL_restore 3 [(0, 8, 11, 15)] 7 167 1 (.ref h :: ([] ++ [.ref ao])) g b0 n f (hQ g ao (fun z fm => rI z ∧ post (zI z) fm) px [exN1]) := by
  refine gs_h (cc := cL_restore) (maxL := 3) (by decide) (Nat.le_of_ble_eq_true rfl) ?_
  intro p e0 s m args below meth c ls hx hb hr hml hown hts hlk htab hE hK hM hl
  have hl : lv_has ls 3 [(0, .ref h), (1, .ref ao)] := hl
  refine lv_aload_n hx hb dL_restore_0 rfl (lv_at hl 1 rfl) ?_
  refine g_iconst hx hb dL_restore_1 ?_
  refine lv_aload_n hx hb dL_restore_2 rfl (lv_at hl 0 rfl) ?_
  refine gx_callVi (ci := 10) (C := RX8) (T := TX8) (N := 9) (As := []) (rest := [.int (zI 0), .ref ao]) ⟨hx, hb, hml, hown, hts⟩ hK hM hE hC (cuVx (n := 0) hts u_1132 u_1129 u_1 (by decide) u_1130 u_1131 ⟨Nat.le_of_ble_eq_true rfl, Nat.le_of_ble_eq_true rfl⟩) hrg hO rfl rfl hl.1 rfl (Nat.le_of_ble_eq_true rfl) dL_restore_3 ⟨Nat.le_of_ble_eq_true rfl, Nat.le_of_ble_eq_true rfl⟩ (fun E9 ce9 q9 f1 H locs hM hp h91 h92 h93 => ?_) (fun r f1 H locs hM hp => ?_)
  · rcases hpx E9 f1 hp with rfl
    · refine gh_catch (p1 := []) (x := (0, 8, 11, 15)) (p2 := []) hown hts hE htab (by decide) (fun _ h => nomatch h) (by decide) (by decide) u_593 h91 h92 h93 ?_
      refine lv_astore_n (lv' := [(2, .ref q9), (0, .ref h), (1, .ref ao)]) hx hb dL_restore_11 rfl hl (by decide) rfl (fun ls hl => ?_)
      refine g_iconst hx hb dL_restore_12 ?_
      refine gx_iret hx hb hr hlk hK hM dL_restore_13 (by decide) (by decide) ?_
      exact Or.inr (Or.inl ⟨rfl, hp⟩)
  · have hz := zI_self r
    rw [← hz] at hp
    rw [← hz]
    refine g_i2l hx hb dL_restore_6 (rI_self r) ?_
    refine g_last hx hb hK hM hao (hout.kept (hkeep _ _ hp)) (by decide) (by decide) (by decide) dL_restore_7 (fun f2 H locs hM ha ho => ?_)
    refine lv_goto (tgt := 14) hx hb dL_restore_8 (by decide) ?_
    refine g_iconst hx hb dL_restore_14 ?_
    refine gx_iret hx hb hr hlk hK hM dL_restore_15 (by decide) (by decide) ?_
    exact Or.inl ⟨rfl, r.toInt, f1, ⟨rI_self r, hp⟩, ha.cong (fun k hk => by rw [show k = 0 by omega]; exact pu_s _ _ _), ho⟩
