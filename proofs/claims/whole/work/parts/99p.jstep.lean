/-! the thirteen steps -/
set_option maxRecDepth 100000 in
set_option maxHeartbeats 2000000 in
theorem j_addEnvelope (l : Launch) (g : gE) (b0 : Nat) (f : gF) (v cd0 : Int) (a : Int) (hra : rI a) (b : Int) (hrb : rI b) (hl9 : l.stackTraces = false) (hv0 : 0 ≤ v) (hv1 : v ≤ 20000000) (hI : lwI g b0 v cd0 f) : jI l g b0 f v yL_addEnvelope cL_addEnvelope 5 [(0, 10, 13, 13), (0, 10, 17, 15)] 8 183 1 yX9_addEnvelope cX9_addEnvelope 3 9 276 [.int (zI a), .int (zI b)] := by
  obtain ⟨B, P, T, sc, pr, ex, ps, B2, P2, T2, sc2, pr2, ex2, ps2, sv, rs, cs, cr, rT, rL, hA, hS9, hx2, hsv, hcs, hcr, hL, htx, hC, hR, ⟨O, hO⟩, ⟨D, hD⟩⟩ := hI
  obtain ⟨hex, he0, hps, hpx, hp0, hpri, hpar, hok, hokB, hsc, htO, hrp⟩ := id hA
  obtain ⟨an, Tr, rC, rn, ra, rm, hOb, hSt8, hS2, hTr, hRd⟩ := id hC
  have hn1 : tRf P T sc ps 0 a b 0 0 ≠ 1 := ref_n1 (by simp [nmP])
  have hX := c_X8_addEnvelope l g b0 622 f b0 B P T sc pr ex ps sv rs an cs cr a b v hl9 hOb ⟨by omega, by omega⟩ hSt8 hex hps hpx hok hv0 (by omega) hsc hra hrb
  have hH := c_L_addEnvelope l g b0 622 f b0 (b0 + 620) a b O _ _ _ hX hOb ⟨by omega, by omega⟩ ⟨by omega, by omega⟩ hO (fun r fm hp => by exact hp.2.2.2.2 _ (by omega)) (fun E fm hp => by
      rcases hp.1 with ⟨h8, h9⟩ | ⟨h8, h9⟩ | ⟨h8, h9⟩
      · exact absurd h8 hn1
      · exact Or.inl h9
      · exact Or.inr (h9)
    )
  refine ⟨_, hH, fun k f1 hk => ?_⟩
  have hmid := hQ_mid (Q := fun cd f1 => mC g f1 b0 B (tP P T sc ps 0 a b 0 0) (tT P T sc ps 0 a b 0 0) (tS P T sc ps 0 a b 0 0) pr ex ps B2 P2 T2 sc2 pr2 ex2 ps2 sv (tR P T sc ps 0 a b 0 0 rs) cs cr rT rL) (R := fun cd => cd = (tld (tRf P T sc ps 0 a b 0 0) 0 1 2)) (q := fun z => rI z ∧ zI z = zI (tAn P T sc ps 0 a b 0 0)) hk ⟨O, hO⟩ (fun z fm hp => by
      obtain ⟨hz, q0, q1, q2, q3, q4⟩ := hp
      refine ⟨fun q h1 => q4 q (by omega), by unfold tld; rw [if_pos q0], ⟨hz, ?_⟩, fun f2 h2 => mC.kept ⟨_, Tr, rC, rn, ra, rm, q3, q2, hS2.kept (fun q h1 h2 => q4 q (by omega)), hTr.kept (fun q h1 h2 => q4 q (by omega)), hRd.kept (fun q h1 h2 => q4 q (by omega))⟩ (fun q _ h3 => h2 q (by omega))⟩
      rw [q1]
      unfold tA tAn
      rw [if_pos q0, if_pos q0]
    ) (fun i E hi hp => by
      rcases i with _ | _ | i
      · obtain rfl : exN0 = E := Option.some.inj hi
        obtain ⟨h8, q2, q3, q4⟩ := hp
        have h7 : tRf P T sc ps 0 a b 0 0 = 2 := by
          rcases h8 with ⟨h8, h9⟩ | ⟨h8, h9⟩ | ⟨h8, h9⟩
          · exact absurd h9 (by decide)
          · exact h8
          · exact absurd h9 (by decide)
        exact ⟨fun q h1 => q4 q (by omega), by unfold tld; rw [h7]; rfl, ⟨_, Tr, rC, rn, ra, rm, q3, q2, hS2.kept (fun q h1 h2 => q4 q (by omega)), hTr.kept (fun q h1 h2 => q4 q (by omega)), hRd.kept (fun q h1 h2 => q4 q (by omega))⟩⟩
      · obtain rfl : exN1 = E := Option.some.inj hi
        obtain ⟨h8, q2, q3, q4⟩ := hp
        have h7 : 3 ≤ tRf P T sc ps 0 a b 0 0 := by
          rcases h8 with ⟨h8, h9⟩ | ⟨h8, h9⟩ | ⟨h8, h9⟩
          · exact absurd h9 (by decide)
          · exact absurd h9 (by decide)
          · exact h8
        exact ⟨fun q h1 => q4 q (by omega), by unfold tld; rw [if_neg (by omega), if_neg (by omega), if_neg (by omega)]; rfl, ⟨_, Tr, rC, rn, ra, rm, q3, q2, hS2.kept (fun q h1 h2 => q4 q (by omega)), hTr.kept (fun q h1 h2 => q4 q (by omega)), hRd.kept (fun q h1 h2 => q4 q (by omega))⟩⟩
      · exact absurd hi (by simp)
    ) (by decide)
  obtain ⟨cd, hcd, rfl, hRc, hQ, hfr, ⟨O1, hO1⟩, hval⟩ := hmid
  have hRc : cd = (tld (tRf P T sc ps 0 a b 0 0) 0 1 2) := hRc
  have hR1 := hR.kept (fun q h1 h2 => hfr q h1 (by omega))
  have hD1 := hD.kept (hfr (b0 + 621) (by omega) (by omega))
  obtain ⟨Z, M, M2, St, Mn, Pr, St2, Mn2, Pr2, In, C, z0, z1, z2, z3, z4, z5, z6, z7, z8, z9, z11, z12, zr, zs, ht⟩ := hR1
  refine ⟨⟨_, z0⟩, _, c_X9_addEnvelope l g b0 622 f1 (b0 + 607) Z M St Mn Pr B P T sc pr ex ps a b v z0 ⟨by omega, by omega⟩ z1 z3 z4 z5 zr ht.2.2.2.1 hps hpx (fun k hk _ => hsc k hk) z9 (hok ps hps) hv0 (by omega) hra hrb, fun r f2 hp => ?_⟩
  obtain ⟨M1, St1, Mn1, y1, y3, y4, yr, y0, yv, y9, yf⟩ := hp
  obtain ⟨w1, w2, w3⟩ := zSt_t (Z := Z) (aa := 294 * ps) (rf := tRf P T sc ps 0 a b 0 0) (cd := (tld (tRf P T sc ps 0 a b 0 0) 0 1 2))
  have ht9 := ht.step w1 w2 (rs1 := tR P T sc ps 0 a b 0 0 rs) (by rw [w3]; unfold tR; split; exact ht.2.2.2.2.1; rfl)
  have hA9 := sOk_step (kd := 0) hA (by decide) hra hrb rI_0 rI_0 hv0 (by omega) (w := v + 33542) (by omega)
  have hmR : mR g f2 (b0 + 607) B (tP P T sc ps 0 a b 0 0) (tT P T sc ps 0 a b 0 0) (tS P T sc ps 0 a b 0 0) pr ex ps B2 P2 T2 sc2 pr2 ex2 ps2 sv (tR P T sc ps 0 a b 0 0 rs) cs cr rT rL (tld (tRf P T sc ps 0 a b 0 0) 0 1 2) := ⟨_, _, _, _, _, _, _, _, _, _, _, y0, y1, z2.kept (yf _ (by omega)), y3, y4, z5.kept (yf _ (by omega)), z6.kept (yf _ (by omega)), z7.kept (yf _ (by omega)), z8.kept (yf _ (by omega)), y9, z11.kept (yf _ (by omega)), z12.kept (yf _ (by omega)), yr, zs, ht9⟩
  refine ⟨cd, hcd, rfl, ⟨B, (tP P T sc ps 0 a b 0 0), (tT P T sc ps 0 a b 0 0), (tS P T sc ps 0 a b 0 0), pr, ex, ps, B2, P2, T2, sc2, pr2, ex2, ps2, sv, (tR P T sc ps 0 a b 0 0 rs), cs, cr, rT, rL, hA9, (fun h9 => (hS9 h9).mono (by omega)), hx2, hsv, hcs, hcr, hL, htx, hQ.kept (fun q h1 h2 => yf q (by omega)), by rw [hRc]; exact hmR, ⟨_, hO1.kept (yf _ (by omega))⟩, ⟨_, hD1.kept (yf _ (by omega))⟩⟩, fun h0 => ?_⟩
  obtain ⟨z, hz1, hz2⟩ := hval h0
  refine ⟨z, hz1.kept (yf _ (by omega)), ?_⟩
  exact ⟨hz2.1, by rw [yv, ← hz2.2]⟩
set_option maxRecDepth 100000 in
set_option maxHeartbeats 2000000 in
theorem j_setCap (l : Launch) (g : gE) (b0 : Nat) (f : gF) (v cd0 : Int) (a : Int) (hra : rI a) (b : Int) (hrb : rI b) (hl9 : l.stackTraces = false) (hv0 : 0 ≤ v) (hv1 : v ≤ 20000000) (hI : lwI g b0 v cd0 f) : jI l g b0 f v yL_setCap cL_setCap 5 [(0, 10, 13, 20), (0, 10, 17, 13), (0, 10, 21, 15)] 8 183 1 yX9_setCap cX9_setCap 3 9 276 [.int (zI a), .int (zI b)] := by
  obtain ⟨B, P, T, sc, pr, ex, ps, B2, P2, T2, sc2, pr2, ex2, ps2, sv, rs, cs, cr, rT, rL, hA, hS9, hx2, hsv, hcs, hcr, hL, htx, hC, hR, ⟨O, hO⟩, ⟨D, hD⟩⟩ := hI
  obtain ⟨hex, he0, hps, hpx, hp0, hpri, hpar, hok, hokB, hsc, htO, hrp⟩ := id hA
  obtain ⟨an, Tr, rC, rn, ra, rm, hOb, hSt8, hS2, hTr, hRd⟩ := id hC
  have hX := c_X8_setCap l g b0 622 f b0 B P T sc pr ex ps sv rs an cs cr a b v hl9 hOb ⟨by omega, by omega⟩ hSt8 hex hps hpx hok hv0 (by omega) hsc hra hrb
  have hH := c_L_setCap l g b0 622 f b0 (b0 + 620) a b O _ _ _ hX hOb ⟨by omega, by omega⟩ ⟨by omega, by omega⟩ hO (fun r fm hp => by exact hp.2.2.2.2 _ (by omega)) (fun E fm hp => by
      rcases hp.1 with ⟨h8, h9⟩ | ⟨h8, h9⟩ | ⟨h8, h9⟩
      · exact Or.inl h9
      · exact Or.inr (Or.inl h9)
      · exact Or.inr (Or.inr (h9))
    )
  refine ⟨_, hH, fun k f1 hk => ?_⟩
  have hmid := hQ_mid (Q := fun cd f1 => mC g f1 b0 B (tP P T sc ps 1 a b 0 0) (tT P T sc ps 1 a b 0 0) (tS P T sc ps 1 a b 0 0) pr ex ps B2 P2 T2 sc2 pr2 ex2 ps2 sv (tR P T sc ps 1 a b 0 0 rs) cs cr rT rL) (R := fun cd => cd = (tld (tRf P T sc ps 1 a b 0 0) 1 2 3)) (q := fun z => rI z ∧ zI z = zI (tAn P T sc ps 1 a b 0 0)) hk ⟨O, hO⟩ (fun z fm hp => by
      obtain ⟨hz, q0, q1, q2, q3, q4⟩ := hp
      refine ⟨fun q h1 => q4 q (by omega), by unfold tld; rw [if_pos q0], ⟨hz, ?_⟩, fun f2 h2 => mC.kept ⟨_, Tr, rC, rn, ra, rm, q3, q2, hS2.kept (fun q h1 h2 => q4 q (by omega)), hTr.kept (fun q h1 h2 => q4 q (by omega)), hRd.kept (fun q h1 h2 => q4 q (by omega))⟩ (fun q _ h3 => h2 q (by omega))⟩
      rw [q1]
      unfold tA tAn
      rw [if_pos q0, if_pos q0]
    ) (fun i E hi hp => by
      rcases i with _ | _ | _ | i
      · obtain rfl : exN2 = E := Option.some.inj hi
        obtain ⟨h8, q2, q3, q4⟩ := hp
        have h7 : tRf P T sc ps 1 a b 0 0 = 1 := by
          rcases h8 with ⟨h8, h9⟩ | ⟨h8, h9⟩ | ⟨h8, h9⟩
          · exact h8
          · exact absurd h9 (by decide)
          · exact absurd h9 (by decide)
        exact ⟨fun q h1 => q4 q (by omega), by unfold tld; rw [h7]; rfl, ⟨_, Tr, rC, rn, ra, rm, q3, q2, hS2.kept (fun q h1 h2 => q4 q (by omega)), hTr.kept (fun q h1 h2 => q4 q (by omega)), hRd.kept (fun q h1 h2 => q4 q (by omega))⟩⟩
      · obtain rfl : exN0 = E := Option.some.inj hi
        obtain ⟨h8, q2, q3, q4⟩ := hp
        have h7 : tRf P T sc ps 1 a b 0 0 = 2 := by
          rcases h8 with ⟨h8, h9⟩ | ⟨h8, h9⟩ | ⟨h8, h9⟩
          · exact absurd h9 (by decide)
          · exact h8
          · exact absurd h9 (by decide)
        exact ⟨fun q h1 => q4 q (by omega), by unfold tld; rw [h7]; rfl, ⟨_, Tr, rC, rn, ra, rm, q3, q2, hS2.kept (fun q h1 h2 => q4 q (by omega)), hTr.kept (fun q h1 h2 => q4 q (by omega)), hRd.kept (fun q h1 h2 => q4 q (by omega))⟩⟩
      · obtain rfl : exN1 = E := Option.some.inj hi
        obtain ⟨h8, q2, q3, q4⟩ := hp
        have h7 : 3 ≤ tRf P T sc ps 1 a b 0 0 := by
          rcases h8 with ⟨h8, h9⟩ | ⟨h8, h9⟩ | ⟨h8, h9⟩
          · exact absurd h9 (by decide)
          · exact absurd h9 (by decide)
          · exact h8
        exact ⟨fun q h1 => q4 q (by omega), by unfold tld; rw [if_neg (by omega), if_neg (by omega), if_neg (by omega)]; rfl, ⟨_, Tr, rC, rn, ra, rm, q3, q2, hS2.kept (fun q h1 h2 => q4 q (by omega)), hTr.kept (fun q h1 h2 => q4 q (by omega)), hRd.kept (fun q h1 h2 => q4 q (by omega))⟩⟩
      · exact absurd hi (by simp)
    ) (by decide)
  obtain ⟨cd, hcd, rfl, hRc, hQ, hfr, ⟨O1, hO1⟩, hval⟩ := hmid
  have hRc : cd = (tld (tRf P T sc ps 1 a b 0 0) 1 2 3) := hRc
  have hR1 := hR.kept (fun q h1 h2 => hfr q h1 (by omega))
  have hD1 := hD.kept (hfr (b0 + 621) (by omega) (by omega))
  obtain ⟨Z, M, M2, St, Mn, Pr, St2, Mn2, Pr2, In, C, z0, z1, z2, z3, z4, z5, z6, z7, z8, z9, z11, z12, zr, zs, ht⟩ := hR1
  refine ⟨⟨_, z0⟩, _, c_X9_setCap l g b0 622 f1 (b0 + 607) Z M St Mn Pr B P T sc pr ex ps a b v z0 ⟨by omega, by omega⟩ z1 z3 z4 z5 zr ht.2.2.2.1 hps hpx (fun k hk _ => hsc k hk) z9 (hok ps hps) hv0 (by omega) hra hrb, fun r f2 hp => ?_⟩
  obtain ⟨M1, St1, Mn1, y1, y3, y4, yr, y0, yv, y9, yf⟩ := hp
  obtain ⟨w1, w2, w3⟩ := zSt_t (Z := Z) (aa := 294 * ps) (rf := tRf P T sc ps 1 a b 0 0) (cd := (tld (tRf P T sc ps 1 a b 0 0) 1 2 3))
  have ht9 := ht.step w1 w2 (rs1 := tR P T sc ps 1 a b 0 0 rs) (by rw [w3]; unfold tR; split; exact ht.2.2.2.2.1; rfl)
  have hA9 := sOk_step (kd := 1) hA (by decide) hra hrb rI_0 rI_0 hv0 (by omega) (w := v + 33542) (by omega)
  have hmR : mR g f2 (b0 + 607) B (tP P T sc ps 1 a b 0 0) (tT P T sc ps 1 a b 0 0) (tS P T sc ps 1 a b 0 0) pr ex ps B2 P2 T2 sc2 pr2 ex2 ps2 sv (tR P T sc ps 1 a b 0 0 rs) cs cr rT rL (tld (tRf P T sc ps 1 a b 0 0) 1 2 3) := ⟨_, _, _, _, _, _, _, _, _, _, _, y0, y1, z2.kept (yf _ (by omega)), y3, y4, z5.kept (yf _ (by omega)), z6.kept (yf _ (by omega)), z7.kept (yf _ (by omega)), z8.kept (yf _ (by omega)), y9, z11.kept (yf _ (by omega)), z12.kept (yf _ (by omega)), yr, zs, ht9⟩
  refine ⟨cd, hcd, rfl, ⟨B, (tP P T sc ps 1 a b 0 0), (tT P T sc ps 1 a b 0 0), (tS P T sc ps 1 a b 0 0), pr, ex, ps, B2, P2, T2, sc2, pr2, ex2, ps2, sv, (tR P T sc ps 1 a b 0 0 rs), cs, cr, rT, rL, hA9, (fun h9 => (hS9 h9).mono (by omega)), hx2, hsv, hcs, hcr, hL, htx, hQ.kept (fun q h1 h2 => yf q (by omega)), by rw [hRc]; exact hmR, ⟨_, hO1.kept (yf _ (by omega))⟩, ⟨_, hD1.kept (yf _ (by omega))⟩⟩, fun h0 => ?_⟩
  obtain ⟨z, hz1, hz2⟩ := hval h0
  refine ⟨z, hz1.kept (yf _ (by omega)), ?_⟩
  exact ⟨hz2.1, by rw [yv, ← hz2.2]⟩
set_option maxRecDepth 100000 in
set_option maxHeartbeats 2000000 in
theorem j_setRollover (l : Launch) (g : gE) (b0 : Nat) (f : gF) (v cd0 : Int) (a : Int) (hra : rI a) (b : Int) (hrb : rI b) (hl9 : l.stackTraces = false) (hv0 : 0 ≤ v) (hv1 : v ≤ 20000000) (hI : lwI g b0 v cd0 f) : jI l g b0 f v yL_setRollover cL_setRollover 5 [(0, 10, 13, 20), (0, 10, 17, 13), (0, 10, 21, 15)] 8 183 1 yX9_setRollover cX9_setRollover 3 9 276 [.int (zI a), .int (zI b)] := by
  obtain ⟨B, P, T, sc, pr, ex, ps, B2, P2, T2, sc2, pr2, ex2, ps2, sv, rs, cs, cr, rT, rL, hA, hS9, hx2, hsv, hcs, hcr, hL, htx, hC, hR, ⟨O, hO⟩, ⟨D, hD⟩⟩ := hI
  obtain ⟨hex, he0, hps, hpx, hp0, hpri, hpar, hok, hokB, hsc, htO, hrp⟩ := id hA
  obtain ⟨an, Tr, rC, rn, ra, rm, hOb, hSt8, hS2, hTr, hRd⟩ := id hC
  have hX := c_X8_setRollover l g b0 622 f b0 B P T sc pr ex ps sv rs an cs cr a b v hl9 hOb ⟨by omega, by omega⟩ hSt8 hex hps hpx hok hv0 (by omega) hsc hra hrb
  have hH := c_L_setRollover l g b0 622 f b0 (b0 + 620) a b O _ _ _ hX hOb ⟨by omega, by omega⟩ ⟨by omega, by omega⟩ hO (fun r fm hp => by exact hp.2.2.2.2 _ (by omega)) (fun E fm hp => by
      rcases hp.1 with ⟨h8, h9⟩ | ⟨h8, h9⟩ | ⟨h8, h9⟩
      · exact Or.inl h9
      · exact Or.inr (Or.inl h9)
      · exact Or.inr (Or.inr (h9))
    )
  refine ⟨_, hH, fun k f1 hk => ?_⟩
  have hmid := hQ_mid (Q := fun cd f1 => mC g f1 b0 B (tP P T sc ps 2 a b 0 0) (tT P T sc ps 2 a b 0 0) (tS P T sc ps 2 a b 0 0) pr ex ps B2 P2 T2 sc2 pr2 ex2 ps2 sv (tR P T sc ps 2 a b 0 0 rs) cs cr rT rL) (R := fun cd => cd = (tld (tRf P T sc ps 2 a b 0 0) 1 2 3)) (q := fun z => rI z ∧ zI z = zI (tAn P T sc ps 2 a b 0 0)) hk ⟨O, hO⟩ (fun z fm hp => by
      obtain ⟨hz, q0, q1, q2, q3, q4⟩ := hp
      refine ⟨fun q h1 => q4 q (by omega), by unfold tld; rw [if_pos q0], ⟨hz, ?_⟩, fun f2 h2 => mC.kept ⟨_, Tr, rC, rn, ra, rm, q3, q2, hS2.kept (fun q h1 h2 => q4 q (by omega)), hTr.kept (fun q h1 h2 => q4 q (by omega)), hRd.kept (fun q h1 h2 => q4 q (by omega))⟩ (fun q _ h3 => h2 q (by omega))⟩
      rw [q1]
      unfold tA tAn
      rw [if_pos q0, if_pos q0]
    ) (fun i E hi hp => by
      rcases i with _ | _ | _ | i
      · obtain rfl : exN2 = E := Option.some.inj hi
        obtain ⟨h8, q2, q3, q4⟩ := hp
        have h7 : tRf P T sc ps 2 a b 0 0 = 1 := by
          rcases h8 with ⟨h8, h9⟩ | ⟨h8, h9⟩ | ⟨h8, h9⟩
          · exact h8
          · exact absurd h9 (by decide)
          · exact absurd h9 (by decide)
        exact ⟨fun q h1 => q4 q (by omega), by unfold tld; rw [h7]; rfl, ⟨_, Tr, rC, rn, ra, rm, q3, q2, hS2.kept (fun q h1 h2 => q4 q (by omega)), hTr.kept (fun q h1 h2 => q4 q (by omega)), hRd.kept (fun q h1 h2 => q4 q (by omega))⟩⟩
      · obtain rfl : exN0 = E := Option.some.inj hi
        obtain ⟨h8, q2, q3, q4⟩ := hp
        have h7 : tRf P T sc ps 2 a b 0 0 = 2 := by
          rcases h8 with ⟨h8, h9⟩ | ⟨h8, h9⟩ | ⟨h8, h9⟩
          · exact absurd h9 (by decide)
          · exact h8
          · exact absurd h9 (by decide)
        exact ⟨fun q h1 => q4 q (by omega), by unfold tld; rw [h7]; rfl, ⟨_, Tr, rC, rn, ra, rm, q3, q2, hS2.kept (fun q h1 h2 => q4 q (by omega)), hTr.kept (fun q h1 h2 => q4 q (by omega)), hRd.kept (fun q h1 h2 => q4 q (by omega))⟩⟩
      · obtain rfl : exN1 = E := Option.some.inj hi
        obtain ⟨h8, q2, q3, q4⟩ := hp
        have h7 : 3 ≤ tRf P T sc ps 2 a b 0 0 := by
          rcases h8 with ⟨h8, h9⟩ | ⟨h8, h9⟩ | ⟨h8, h9⟩
          · exact absurd h9 (by decide)
          · exact absurd h9 (by decide)
          · exact h8
        exact ⟨fun q h1 => q4 q (by omega), by unfold tld; rw [if_neg (by omega), if_neg (by omega), if_neg (by omega)]; rfl, ⟨_, Tr, rC, rn, ra, rm, q3, q2, hS2.kept (fun q h1 h2 => q4 q (by omega)), hTr.kept (fun q h1 h2 => q4 q (by omega)), hRd.kept (fun q h1 h2 => q4 q (by omega))⟩⟩
      · exact absurd hi (by simp)
    ) (by decide)
  obtain ⟨cd, hcd, rfl, hRc, hQ, hfr, ⟨O1, hO1⟩, hval⟩ := hmid
  have hRc : cd = (tld (tRf P T sc ps 2 a b 0 0) 1 2 3) := hRc
  have hR1 := hR.kept (fun q h1 h2 => hfr q h1 (by omega))
  have hD1 := hD.kept (hfr (b0 + 621) (by omega) (by omega))
  obtain ⟨Z, M, M2, St, Mn, Pr, St2, Mn2, Pr2, In, C, z0, z1, z2, z3, z4, z5, z6, z7, z8, z9, z11, z12, zr, zs, ht⟩ := hR1
  refine ⟨⟨_, z0⟩, _, c_X9_setRollover l g b0 622 f1 (b0 + 607) Z M St Mn Pr B P T sc pr ex ps a b v z0 ⟨by omega, by omega⟩ z1 z3 z4 z5 zr ht.2.2.2.1 hps hpx (fun k hk _ => hsc k hk) z9 (hok ps hps) hv0 (by omega) hra hrb, fun r f2 hp => ?_⟩
  obtain ⟨M1, St1, Mn1, y1, y3, y4, yr, y0, yv, y9, yf⟩ := hp
  obtain ⟨w1, w2, w3⟩ := zSt_t (Z := Z) (aa := 294 * ps) (rf := tRf P T sc ps 2 a b 0 0) (cd := (tld (tRf P T sc ps 2 a b 0 0) 1 2 3))
  have ht9 := ht.step w1 w2 (rs1 := tR P T sc ps 2 a b 0 0 rs) (by rw [w3]; unfold tR; split; exact ht.2.2.2.2.1; rfl)
  have hA9 := sOk_step (kd := 2) hA (by decide) hra hrb rI_0 rI_0 hv0 (by omega) (w := v + 33542) (by omega)
  have hmR : mR g f2 (b0 + 607) B (tP P T sc ps 2 a b 0 0) (tT P T sc ps 2 a b 0 0) (tS P T sc ps 2 a b 0 0) pr ex ps B2 P2 T2 sc2 pr2 ex2 ps2 sv (tR P T sc ps 2 a b 0 0 rs) cs cr rT rL (tld (tRf P T sc ps 2 a b 0 0) 1 2 3) := ⟨_, _, _, _, _, _, _, _, _, _, _, y0, y1, z2.kept (yf _ (by omega)), y3, y4, z5.kept (yf _ (by omega)), z6.kept (yf _ (by omega)), z7.kept (yf _ (by omega)), z8.kept (yf _ (by omega)), y9, z11.kept (yf _ (by omega)), z12.kept (yf _ (by omega)), yr, zs, ht9⟩
  refine ⟨cd, hcd, rfl, ⟨B, (tP P T sc ps 2 a b 0 0), (tT P T sc ps 2 a b 0 0), (tS P T sc ps 2 a b 0 0), pr, ex, ps, B2, P2, T2, sc2, pr2, ex2, ps2, sv, (tR P T sc ps 2 a b 0 0 rs), cs, cr, rT, rL, hA9, (fun h9 => (hS9 h9).mono (by omega)), hx2, hsv, hcs, hcr, hL, htx, hQ.kept (fun q h1 h2 => yf q (by omega)), by rw [hRc]; exact hmR, ⟨_, hO1.kept (yf _ (by omega))⟩, ⟨_, hD1.kept (yf _ (by omega))⟩⟩, fun h0 => ?_⟩
  obtain ⟨z, hz1, hz2⟩ := hval h0
  refine ⟨z, hz1.kept (yf _ (by omega)), ?_⟩
  exact ⟨hz2.1, by rw [yv, ← hz2.2]⟩
set_option maxRecDepth 100000 in
set_option maxHeartbeats 2000000 in
theorem j_addRule (l : Launch) (g : gE) (b0 : Nat) (f : gF) (v cd0 : Int) (a : Int) (hra : rI a) (b : Int) (hrb : rI b) (x : Int) (hrx : rI x) (hl9 : l.stackTraces = false) (hv0 : 0 ≤ v) (hv1 : v ≤ 20000000) (hI : lwI g b0 v cd0 f) : jI l g b0 f v yL_addRule cL_addRule 6 [(0, 12, 15, 20), (0, 12, 19, 13), (0, 12, 23, 15)] 8 184 1 yX9_addRule cX9_addRule 4 9 276 [.int (zI a), .int (zI b), .int (zI x)] := by
  obtain ⟨B, P, T, sc, pr, ex, ps, B2, P2, T2, sc2, pr2, ex2, ps2, sv, rs, cs, cr, rT, rL, hA, hS9, hx2, hsv, hcs, hcr, hL, htx, hC, hR, ⟨O, hO⟩, ⟨D, hD⟩⟩ := hI
  obtain ⟨hex, he0, hps, hpx, hp0, hpri, hpar, hok, hokB, hsc, htO, hrp⟩ := id hA
  obtain ⟨an, Tr, rC, rn, ra, rm, hOb, hSt8, hS2, hTr, hRd⟩ := id hC
  have hX := c_X8_addRule l g b0 622 f b0 B P T sc pr ex ps sv rs an cs cr a b x v hl9 hOb ⟨by omega, by omega⟩ hSt8 hex hps hpx hok hv0 (by omega) hsc hra hrb hrx
  have hH := c_L_addRule l g b0 622 f b0 (b0 + 620) a b x O _ _ _ hX hOb ⟨by omega, by omega⟩ ⟨by omega, by omega⟩ hO (fun r fm hp => by exact hp.2.2.2.2 _ (by omega)) (fun E fm hp => by
      rcases hp.1 with ⟨h8, h9⟩ | ⟨h8, h9⟩ | ⟨h8, h9⟩
      · exact Or.inl h9
      · exact Or.inr (Or.inl h9)
      · exact Or.inr (Or.inr (h9))
    )
  refine ⟨_, hH, fun k f1 hk => ?_⟩
  have hmid := hQ_mid (Q := fun cd f1 => mC g f1 b0 B (tP P T sc ps 3 a b x 0) (tT P T sc ps 3 a b x 0) (tS P T sc ps 3 a b x 0) pr ex ps B2 P2 T2 sc2 pr2 ex2 ps2 sv (tR P T sc ps 3 a b x 0 rs) cs cr rT rL) (R := fun cd => cd = (tld (tRf P T sc ps 3 a b x 0) 1 2 3)) (q := fun z => rI z ∧ zI z = zI (tAn P T sc ps 3 a b x 0)) hk ⟨O, hO⟩ (fun z fm hp => by
      obtain ⟨hz, q0, q1, q2, q3, q4⟩ := hp
      refine ⟨fun q h1 => q4 q (by omega), by unfold tld; rw [if_pos q0], ⟨hz, ?_⟩, fun f2 h2 => mC.kept ⟨_, Tr, rC, rn, ra, rm, q3, q2, hS2.kept (fun q h1 h2 => q4 q (by omega)), hTr.kept (fun q h1 h2 => q4 q (by omega)), hRd.kept (fun q h1 h2 => q4 q (by omega))⟩ (fun q _ h3 => h2 q (by omega))⟩
      rw [q1]
      unfold tA tAn
      rw [if_pos q0, if_pos q0]
    ) (fun i E hi hp => by
      rcases i with _ | _ | _ | i
      · obtain rfl : exN2 = E := Option.some.inj hi
        obtain ⟨h8, q2, q3, q4⟩ := hp
        have h7 : tRf P T sc ps 3 a b x 0 = 1 := by
          rcases h8 with ⟨h8, h9⟩ | ⟨h8, h9⟩ | ⟨h8, h9⟩
          · exact h8
          · exact absurd h9 (by decide)
          · exact absurd h9 (by decide)
        exact ⟨fun q h1 => q4 q (by omega), by unfold tld; rw [h7]; rfl, ⟨_, Tr, rC, rn, ra, rm, q3, q2, hS2.kept (fun q h1 h2 => q4 q (by omega)), hTr.kept (fun q h1 h2 => q4 q (by omega)), hRd.kept (fun q h1 h2 => q4 q (by omega))⟩⟩
      · obtain rfl : exN0 = E := Option.some.inj hi
        obtain ⟨h8, q2, q3, q4⟩ := hp
        have h7 : tRf P T sc ps 3 a b x 0 = 2 := by
          rcases h8 with ⟨h8, h9⟩ | ⟨h8, h9⟩ | ⟨h8, h9⟩
          · exact absurd h9 (by decide)
          · exact h8
          · exact absurd h9 (by decide)
        exact ⟨fun q h1 => q4 q (by omega), by unfold tld; rw [h7]; rfl, ⟨_, Tr, rC, rn, ra, rm, q3, q2, hS2.kept (fun q h1 h2 => q4 q (by omega)), hTr.kept (fun q h1 h2 => q4 q (by omega)), hRd.kept (fun q h1 h2 => q4 q (by omega))⟩⟩
      · obtain rfl : exN1 = E := Option.some.inj hi
        obtain ⟨h8, q2, q3, q4⟩ := hp
        have h7 : 3 ≤ tRf P T sc ps 3 a b x 0 := by
          rcases h8 with ⟨h8, h9⟩ | ⟨h8, h9⟩ | ⟨h8, h9⟩
          · exact absurd h9 (by decide)
          · exact absurd h9 (by decide)
          · exact h8
        exact ⟨fun q h1 => q4 q (by omega), by unfold tld; rw [if_neg (by omega), if_neg (by omega), if_neg (by omega)]; rfl, ⟨_, Tr, rC, rn, ra, rm, q3, q2, hS2.kept (fun q h1 h2 => q4 q (by omega)), hTr.kept (fun q h1 h2 => q4 q (by omega)), hRd.kept (fun q h1 h2 => q4 q (by omega))⟩⟩
      · exact absurd hi (by simp)
    ) (by decide)
  obtain ⟨cd, hcd, rfl, hRc, hQ, hfr, ⟨O1, hO1⟩, hval⟩ := hmid
  have hRc : cd = (tld (tRf P T sc ps 3 a b x 0) 1 2 3) := hRc
  have hR1 := hR.kept (fun q h1 h2 => hfr q h1 (by omega))
  have hD1 := hD.kept (hfr (b0 + 621) (by omega) (by omega))
  obtain ⟨Z, M, M2, St, Mn, Pr, St2, Mn2, Pr2, In, C, z0, z1, z2, z3, z4, z5, z6, z7, z8, z9, z11, z12, zr, zs, ht⟩ := hR1
  refine ⟨⟨_, z0⟩, _, c_X9_addRule l g b0 622 f1 (b0 + 607) Z M St Mn Pr B P T sc pr ex ps a b x v z0 ⟨by omega, by omega⟩ z1 z3 z4 z5 zr ht.2.2.2.1 hps hpx (fun k hk _ => hsc k hk) z9 (hok ps hps) hv0 (by omega) hra hrb hrx, fun r f2 hp => ?_⟩
  obtain ⟨M1, St1, Mn1, y1, y3, y4, yr, y0, yv, y9, yf⟩ := hp
  obtain ⟨w1, w2, w3⟩ := zSt_t (Z := Z) (aa := 294 * ps) (rf := tRf P T sc ps 3 a b x 0) (cd := (tld (tRf P T sc ps 3 a b x 0) 1 2 3))
  have ht9 := ht.step w1 w2 (rs1 := tR P T sc ps 3 a b x 0 rs) (by rw [w3]; unfold tR; split; exact ht.2.2.2.2.1; rfl)
  have hA9 := sOk_step (kd := 3) hA (by decide) hra hrb hrx rI_0 hv0 (by omega) (w := v + 33542) (by omega)
  have hmR : mR g f2 (b0 + 607) B (tP P T sc ps 3 a b x 0) (tT P T sc ps 3 a b x 0) (tS P T sc ps 3 a b x 0) pr ex ps B2 P2 T2 sc2 pr2 ex2 ps2 sv (tR P T sc ps 3 a b x 0 rs) cs cr rT rL (tld (tRf P T sc ps 3 a b x 0) 1 2 3) := ⟨_, _, _, _, _, _, _, _, _, _, _, y0, y1, z2.kept (yf _ (by omega)), y3, y4, z5.kept (yf _ (by omega)), z6.kept (yf _ (by omega)), z7.kept (yf _ (by omega)), z8.kept (yf _ (by omega)), y9, z11.kept (yf _ (by omega)), z12.kept (yf _ (by omega)), yr, zs, ht9⟩
  refine ⟨cd, hcd, rfl, ⟨B, (tP P T sc ps 3 a b x 0), (tT P T sc ps 3 a b x 0), (tS P T sc ps 3 a b x 0), pr, ex, ps, B2, P2, T2, sc2, pr2, ex2, ps2, sv, (tR P T sc ps 3 a b x 0 rs), cs, cr, rT, rL, hA9, (fun h9 => (hS9 h9).mono (by omega)), hx2, hsv, hcs, hcr, hL, htx, hQ.kept (fun q h1 h2 => yf q (by omega)), by rw [hRc]; exact hmR, ⟨_, hO1.kept (yf _ (by omega))⟩, ⟨_, hD1.kept (yf _ (by omega))⟩⟩, fun h0 => ?_⟩
  obtain ⟨z, hz1, hz2⟩ := hval h0
  refine ⟨z, hz1.kept (yf _ (by omega)), ?_⟩
  exact ⟨hz2.1, by rw [yv, ← hz2.2]⟩
set_option maxRecDepth 100000 in
set_option maxHeartbeats 2000000 in
theorem j_removeRule (l : Launch) (g : gE) (b0 : Nat) (f : gF) (v cd0 : Int) (a : Int) (hra : rI a) (hl9 : l.stackTraces = false) (hv0 : 0 ≤ v) (hv1 : v ≤ 20000000) (hI : lwI g b0 v cd0 f) : jI l g b0 f v yL_removeRule cL_removeRule 4 [(0, 9, 12, 20), (0, 9, 15, 15)] 8 182 1 yX9_removeRule cX9_removeRule 2 9 276 [.int (zI a)] := by
  obtain ⟨B, P, T, sc, pr, ex, ps, B2, P2, T2, sc2, pr2, ex2, ps2, sv, rs, cs, cr, rT, rL, hA, hS9, hx2, hsv, hcs, hcr, hL, htx, hC, hR, ⟨O, hO⟩, ⟨D, hD⟩⟩ := hI
  obtain ⟨hex, he0, hps, hpx, hp0, hpri, hpar, hok, hokB, hsc, htO, hrp⟩ := id hA
  obtain ⟨an, Tr, rC, rn, ra, rm, hOb, hSt8, hS2, hTr, hRd⟩ := id hC
  have hn2 : tRf P T sc ps 4 a 0 0 0 ≠ 2 := ref_n2 (by rw [rg_4]; trivial)
  have hX := c_X8_removeRule l g b0 622 f b0 B P T sc pr ex ps sv rs an cs cr a v hl9 hOb ⟨by omega, by omega⟩ hSt8 hex hps hpx hok hv0 (by omega) hsc hra
  have hH := c_L_removeRule l g b0 622 f b0 (b0 + 620) a O _ _ _ hX hOb ⟨by omega, by omega⟩ ⟨by omega, by omega⟩ hO (fun r fm hp => by exact hp.2.2.2.2 _ (by omega)) (fun E fm hp => by
      rcases hp.1 with ⟨h8, h9⟩ | ⟨h8, h9⟩ | ⟨h8, h9⟩
      · exact Or.inl h9
      · exact absurd h8 hn2
      · exact Or.inr (h9)
    )
  refine ⟨_, hH, fun k f1 hk => ?_⟩
  have hmid := hQ_mid (Q := fun cd f1 => mC g f1 b0 B (tP P T sc ps 4 a 0 0 0) (tT P T sc ps 4 a 0 0 0) (tS P T sc ps 4 a 0 0 0) pr ex ps B2 P2 T2 sc2 pr2 ex2 ps2 sv (tR P T sc ps 4 a 0 0 0 rs) cs cr rT rL) (R := fun cd => cd = (tld (tRf P T sc ps 4 a 0 0 0) 1 0 2)) (q := fun z => rI z ∧ zI z = zI (tAn P T sc ps 4 a 0 0 0)) hk ⟨O, hO⟩ (fun z fm hp => by
      obtain ⟨hz, q0, q1, q2, q3, q4⟩ := hp
      refine ⟨fun q h1 => q4 q (by omega), by unfold tld; rw [if_pos q0], ⟨hz, ?_⟩, fun f2 h2 => mC.kept ⟨_, Tr, rC, rn, ra, rm, q3, q2, hS2.kept (fun q h1 h2 => q4 q (by omega)), hTr.kept (fun q h1 h2 => q4 q (by omega)), hRd.kept (fun q h1 h2 => q4 q (by omega))⟩ (fun q _ h3 => h2 q (by omega))⟩
      rw [q1]
      unfold tA tAn
      rw [if_pos q0, if_pos q0]
    ) (fun i E hi hp => by
      rcases i with _ | _ | i
      · obtain rfl : exN2 = E := Option.some.inj hi
        obtain ⟨h8, q2, q3, q4⟩ := hp
        have h7 : tRf P T sc ps 4 a 0 0 0 = 1 := by
          rcases h8 with ⟨h8, h9⟩ | ⟨h8, h9⟩ | ⟨h8, h9⟩
          · exact h8
          · exact absurd h9 (by decide)
          · exact absurd h9 (by decide)
        exact ⟨fun q h1 => q4 q (by omega), by unfold tld; rw [h7]; rfl, ⟨_, Tr, rC, rn, ra, rm, q3, q2, hS2.kept (fun q h1 h2 => q4 q (by omega)), hTr.kept (fun q h1 h2 => q4 q (by omega)), hRd.kept (fun q h1 h2 => q4 q (by omega))⟩⟩
      · obtain rfl : exN1 = E := Option.some.inj hi
        obtain ⟨h8, q2, q3, q4⟩ := hp
        have h7 : 3 ≤ tRf P T sc ps 4 a 0 0 0 := by
          rcases h8 with ⟨h8, h9⟩ | ⟨h8, h9⟩ | ⟨h8, h9⟩
          · exact absurd h9 (by decide)
          · exact absurd h9 (by decide)
          · exact h8
        exact ⟨fun q h1 => q4 q (by omega), by unfold tld; rw [if_neg (by omega), if_neg (by omega), if_neg (by omega)]; rfl, ⟨_, Tr, rC, rn, ra, rm, q3, q2, hS2.kept (fun q h1 h2 => q4 q (by omega)), hTr.kept (fun q h1 h2 => q4 q (by omega)), hRd.kept (fun q h1 h2 => q4 q (by omega))⟩⟩
      · exact absurd hi (by simp)
    ) (by decide)
  obtain ⟨cd, hcd, rfl, hRc, hQ, hfr, ⟨O1, hO1⟩, hval⟩ := hmid
  have hRc : cd = (tld (tRf P T sc ps 4 a 0 0 0) 1 0 2) := hRc
  have hR1 := hR.kept (fun q h1 h2 => hfr q h1 (by omega))
  have hD1 := hD.kept (hfr (b0 + 621) (by omega) (by omega))
  obtain ⟨Z, M, M2, St, Mn, Pr, St2, Mn2, Pr2, In, C, z0, z1, z2, z3, z4, z5, z6, z7, z8, z9, z11, z12, zr, zs, ht⟩ := hR1
  refine ⟨⟨_, z0⟩, _, c_X9_removeRule l g b0 622 f1 (b0 + 607) Z M St Mn Pr B P T sc pr ex ps a v z0 ⟨by omega, by omega⟩ z1 z3 z4 z5 zr ht.2.2.2.1 hps hpx (fun k hk _ => hsc k hk) z9 (hok ps hps) hv0 (by omega) hra, fun r f2 hp => ?_⟩
  obtain ⟨M1, St1, Mn1, y1, y3, y4, yr, y0, yv, y9, yf⟩ := hp
  obtain ⟨w1, w2, w3⟩ := zSt_t (Z := Z) (aa := 294 * ps) (rf := tRf P T sc ps 4 a 0 0 0) (cd := (tld (tRf P T sc ps 4 a 0 0 0) 1 0 2))
  have ht9 := ht.step w1 w2 (rs1 := tR P T sc ps 4 a 0 0 0 rs) (by rw [w3]; unfold tR; split; exact ht.2.2.2.2.1; rfl)
  have hA9 := sOk_step (kd := 4) hA (by decide) hra rI_0 rI_0 rI_0 hv0 (by omega) (w := v + 33542) (by omega)
  have hmR : mR g f2 (b0 + 607) B (tP P T sc ps 4 a 0 0 0) (tT P T sc ps 4 a 0 0 0) (tS P T sc ps 4 a 0 0 0) pr ex ps B2 P2 T2 sc2 pr2 ex2 ps2 sv (tR P T sc ps 4 a 0 0 0 rs) cs cr rT rL (tld (tRf P T sc ps 4 a 0 0 0) 1 0 2) := ⟨_, _, _, _, _, _, _, _, _, _, _, y0, y1, z2.kept (yf _ (by omega)), y3, y4, z5.kept (yf _ (by omega)), z6.kept (yf _ (by omega)), z7.kept (yf _ (by omega)), z8.kept (yf _ (by omega)), y9, z11.kept (yf _ (by omega)), z12.kept (yf _ (by omega)), yr, zs, ht9⟩
  refine ⟨cd, hcd, rfl, ⟨B, (tP P T sc ps 4 a 0 0 0), (tT P T sc ps 4 a 0 0 0), (tS P T sc ps 4 a 0 0 0), pr, ex, ps, B2, P2, T2, sc2, pr2, ex2, ps2, sv, (tR P T sc ps 4 a 0 0 0 rs), cs, cr, rT, rL, hA9, (fun h9 => (hS9 h9).mono (by omega)), hx2, hsv, hcs, hcr, hL, htx, hQ.kept (fun q h1 h2 => yf q (by omega)), by rw [hRc]; exact hmR, ⟨_, hO1.kept (yf _ (by omega))⟩, ⟨_, hD1.kept (yf _ (by omega))⟩⟩, fun h0 => ?_⟩
  obtain ⟨z, hz1, hz2⟩ := hval h0
  refine ⟨z, hz1.kept (yf _ (by omega)), ?_⟩
  exact ⟨hz2.1, by rw [yv, ← hz2.2]⟩
set_option maxRecDepth 100000 in
set_option maxHeartbeats 2000000 in
theorem j_addLink (l : Launch) (g : gE) (b0 : Nat) (f : gF) (v cd0 : Int) (a : Int) (hra : rI a) (b : Int) (hrb : rI b) (x : Int) (hrx : rI x) (y : Int) (hry : rI y) (hl9 : l.stackTraces = false) (hv0 : 0 ≤ v) (hv1 : v ≤ 20000000) (hI : lwI g b0 v cd0 f) : jI l g b0 f v yL_addLink cL_addLink 7 [(0, 14, 17, 20), (0, 14, 21, 13), (0, 14, 25, 15)] 8 185 1 yX9_addLink cX9_addLink 5 9 276 [.int (zI a), .int (zI b), .int (zI x), .int (zI y)] := by
  obtain ⟨B, P, T, sc, pr, ex, ps, B2, P2, T2, sc2, pr2, ex2, ps2, sv, rs, cs, cr, rT, rL, hA, hS9, hx2, hsv, hcs, hcr, hL, htx, hC, hR, ⟨O, hO⟩, ⟨D, hD⟩⟩ := hI
  obtain ⟨hex, he0, hps, hpx, hp0, hpri, hpar, hok, hokB, hsc, htO, hrp⟩ := id hA
  obtain ⟨an, Tr, rC, rn, ra, rm, hOb, hSt8, hS2, hTr, hRd⟩ := id hC
  have hX := c_X8_addLink l g b0 622 f b0 B P T sc pr ex ps sv rs an cs cr a b x y v hl9 hOb ⟨by omega, by omega⟩ hSt8 hex hps hpx hok hv0 (by omega) hsc hra hrb hrx hry
  have hH := c_L_addLink l g b0 622 f b0 (b0 + 620) a b x y O _ _ _ hX hOb ⟨by omega, by omega⟩ ⟨by omega, by omega⟩ hO (fun r fm hp => by exact hp.2.2.2.2 _ (by omega)) (fun E fm hp => by
      rcases hp.1 with ⟨h8, h9⟩ | ⟨h8, h9⟩ | ⟨h8, h9⟩
      · exact Or.inl h9
      · exact Or.inr (Or.inl h9)
      · exact Or.inr (Or.inr (h9))
    )
  refine ⟨_, hH, fun k f1 hk => ?_⟩
  have hmid := hQ_mid (Q := fun cd f1 => mC g f1 b0 B (tP P T sc ps 5 a b x y) (tT P T sc ps 5 a b x y) (tS P T sc ps 5 a b x y) pr ex ps B2 P2 T2 sc2 pr2 ex2 ps2 sv (tR P T sc ps 5 a b x y rs) cs cr rT rL) (R := fun cd => cd = (tld (tRf P T sc ps 5 a b x y) 1 2 3)) (q := fun z => rI z ∧ zI z = zI (tAn P T sc ps 5 a b x y)) hk ⟨O, hO⟩ (fun z fm hp => by
      obtain ⟨hz, q0, q1, q2, q3, q4⟩ := hp
      refine ⟨fun q h1 => q4 q (by omega), by unfold tld; rw [if_pos q0], ⟨hz, ?_⟩, fun f2 h2 => mC.kept ⟨_, Tr, rC, rn, ra, rm, q3, q2, hS2.kept (fun q h1 h2 => q4 q (by omega)), hTr.kept (fun q h1 h2 => q4 q (by omega)), hRd.kept (fun q h1 h2 => q4 q (by omega))⟩ (fun q _ h3 => h2 q (by omega))⟩
      rw [q1]
      unfold tA tAn
      rw [if_pos q0, if_pos q0]
    ) (fun i E hi hp => by
      rcases i with _ | _ | _ | i
      · obtain rfl : exN2 = E := Option.some.inj hi
        obtain ⟨h8, q2, q3, q4⟩ := hp
        have h7 : tRf P T sc ps 5 a b x y = 1 := by
          rcases h8 with ⟨h8, h9⟩ | ⟨h8, h9⟩ | ⟨h8, h9⟩
          · exact h8
          · exact absurd h9 (by decide)
          · exact absurd h9 (by decide)
        exact ⟨fun q h1 => q4 q (by omega), by unfold tld; rw [h7]; rfl, ⟨_, Tr, rC, rn, ra, rm, q3, q2, hS2.kept (fun q h1 h2 => q4 q (by omega)), hTr.kept (fun q h1 h2 => q4 q (by omega)), hRd.kept (fun q h1 h2 => q4 q (by omega))⟩⟩
      · obtain rfl : exN0 = E := Option.some.inj hi
        obtain ⟨h8, q2, q3, q4⟩ := hp
        have h7 : tRf P T sc ps 5 a b x y = 2 := by
          rcases h8 with ⟨h8, h9⟩ | ⟨h8, h9⟩ | ⟨h8, h9⟩
          · exact absurd h9 (by decide)
          · exact h8
          · exact absurd h9 (by decide)
        exact ⟨fun q h1 => q4 q (by omega), by unfold tld; rw [h7]; rfl, ⟨_, Tr, rC, rn, ra, rm, q3, q2, hS2.kept (fun q h1 h2 => q4 q (by omega)), hTr.kept (fun q h1 h2 => q4 q (by omega)), hRd.kept (fun q h1 h2 => q4 q (by omega))⟩⟩
      · obtain rfl : exN1 = E := Option.some.inj hi
        obtain ⟨h8, q2, q3, q4⟩ := hp
        have h7 : 3 ≤ tRf P T sc ps 5 a b x y := by
          rcases h8 with ⟨h8, h9⟩ | ⟨h8, h9⟩ | ⟨h8, h9⟩
          · exact absurd h9 (by decide)
          · exact absurd h9 (by decide)
          · exact h8
        exact ⟨fun q h1 => q4 q (by omega), by unfold tld; rw [if_neg (by omega), if_neg (by omega), if_neg (by omega)]; rfl, ⟨_, Tr, rC, rn, ra, rm, q3, q2, hS2.kept (fun q h1 h2 => q4 q (by omega)), hTr.kept (fun q h1 h2 => q4 q (by omega)), hRd.kept (fun q h1 h2 => q4 q (by omega))⟩⟩
      · exact absurd hi (by simp)
    ) (by decide)
  obtain ⟨cd, hcd, rfl, hRc, hQ, hfr, ⟨O1, hO1⟩, hval⟩ := hmid
  have hRc : cd = (tld (tRf P T sc ps 5 a b x y) 1 2 3) := hRc
  have hR1 := hR.kept (fun q h1 h2 => hfr q h1 (by omega))
  have hD1 := hD.kept (hfr (b0 + 621) (by omega) (by omega))
  obtain ⟨Z, M, M2, St, Mn, Pr, St2, Mn2, Pr2, In, C, z0, z1, z2, z3, z4, z5, z6, z7, z8, z9, z11, z12, zr, zs, ht⟩ := hR1
  refine ⟨⟨_, z0⟩, _, c_X9_addLink l g b0 622 f1 (b0 + 607) Z M St Mn Pr B P T sc pr ex ps a b x y v z0 ⟨by omega, by omega⟩ z1 z3 z4 z5 zr ht.2.2.2.1 hps hpx (fun k hk _ => hsc k hk) z9 (hok ps hps) hv0 (by omega) hra hrb hrx hry, fun r f2 hp => ?_⟩
  obtain ⟨M1, St1, Mn1, y1, y3, y4, yr, y0, yv, y9, yf⟩ := hp
  obtain ⟨w1, w2, w3⟩ := zSt_t (Z := Z) (aa := 294 * ps) (rf := tRf P T sc ps 5 a b x y) (cd := (tld (tRf P T sc ps 5 a b x y) 1 2 3))
  have ht9 := ht.step w1 w2 (rs1 := tR P T sc ps 5 a b x y rs) (by rw [w3]; unfold tR; split; exact ht.2.2.2.2.1; rfl)
  have hA9 := sOk_step (kd := 5) hA (by decide) hra hrb hrx hry hv0 (by omega) (w := v + 33542) (by omega)
  have hmR : mR g f2 (b0 + 607) B (tP P T sc ps 5 a b x y) (tT P T sc ps 5 a b x y) (tS P T sc ps 5 a b x y) pr ex ps B2 P2 T2 sc2 pr2 ex2 ps2 sv (tR P T sc ps 5 a b x y rs) cs cr rT rL (tld (tRf P T sc ps 5 a b x y) 1 2 3) := ⟨_, _, _, _, _, _, _, _, _, _, _, y0, y1, z2.kept (yf _ (by omega)), y3, y4, z5.kept (yf _ (by omega)), z6.kept (yf _ (by omega)), z7.kept (yf _ (by omega)), z8.kept (yf _ (by omega)), y9, z11.kept (yf _ (by omega)), z12.kept (yf _ (by omega)), yr, zs, ht9⟩
  refine ⟨cd, hcd, rfl, ⟨B, (tP P T sc ps 5 a b x y), (tT P T sc ps 5 a b x y), (tS P T sc ps 5 a b x y), pr, ex, ps, B2, P2, T2, sc2, pr2, ex2, ps2, sv, (tR P T sc ps 5 a b x y rs), cs, cr, rT, rL, hA9, (fun h9 => (hS9 h9).mono (by omega)), hx2, hsv, hcs, hcr, hL, htx, hQ.kept (fun q h1 h2 => yf q (by omega)), by rw [hRc]; exact hmR, ⟨_, hO1.kept (yf _ (by omega))⟩, ⟨_, hD1.kept (yf _ (by omega))⟩⟩, fun h0 => ?_⟩
  obtain ⟨z, hz1, hz2⟩ := hval h0
  refine ⟨z, hz1.kept (yf _ (by omega)), ?_⟩
  exact ⟨hz2.1, by rw [yv, ← hz2.2]⟩
set_option maxRecDepth 100000 in
set_option maxHeartbeats 2000000 in
theorem j_removeLink (l : Launch) (g : gE) (b0 : Nat) (f : gF) (v cd0 : Int) (a : Int) (hra : rI a) (hl9 : l.stackTraces = false) (hv0 : 0 ≤ v) (hv1 : v ≤ 20000000) (hI : lwI g b0 v cd0 f) : jI l g b0 f v yL_removeLink cL_removeLink 4 [(0, 9, 12, 20), (0, 9, 15, 15)] 8 182 1 yX9_removeLink cX9_removeLink 2 9 276 [.int (zI a)] := by
  obtain ⟨B, P, T, sc, pr, ex, ps, B2, P2, T2, sc2, pr2, ex2, ps2, sv, rs, cs, cr, rT, rL, hA, hS9, hx2, hsv, hcs, hcr, hL, htx, hC, hR, ⟨O, hO⟩, ⟨D, hD⟩⟩ := hI
  obtain ⟨hex, he0, hps, hpx, hp0, hpri, hpar, hok, hokB, hsc, htO, hrp⟩ := id hA
  obtain ⟨an, Tr, rC, rn, ra, rm, hOb, hSt8, hS2, hTr, hRd⟩ := id hC
  have hn2 : tRf P T sc ps 6 a 0 0 0 ≠ 2 := ref_n2 (by rw [rg_6]; trivial)
  have hX := c_X8_removeLink l g b0 622 f b0 B P T sc pr ex ps sv rs an cs cr a v hl9 hOb ⟨by omega, by omega⟩ hSt8 hex hps hpx hok hv0 (by omega) hsc hra
  have hH := c_L_removeLink l g b0 622 f b0 (b0 + 620) a O _ _ _ hX hOb ⟨by omega, by omega⟩ ⟨by omega, by omega⟩ hO (fun r fm hp => by exact hp.2.2.2.2 _ (by omega)) (fun E fm hp => by
      rcases hp.1 with ⟨h8, h9⟩ | ⟨h8, h9⟩ | ⟨h8, h9⟩
      · exact Or.inl h9
      · exact absurd h8 hn2
      · exact Or.inr (h9)
    )
  refine ⟨_, hH, fun k f1 hk => ?_⟩
  have hmid := hQ_mid (Q := fun cd f1 => mC g f1 b0 B (tP P T sc ps 6 a 0 0 0) (tT P T sc ps 6 a 0 0 0) (tS P T sc ps 6 a 0 0 0) pr ex ps B2 P2 T2 sc2 pr2 ex2 ps2 sv (tR P T sc ps 6 a 0 0 0 rs) cs cr rT rL) (R := fun cd => cd = (tld (tRf P T sc ps 6 a 0 0 0) 1 0 2)) (q := fun z => rI z ∧ zI z = zI (tAn P T sc ps 6 a 0 0 0)) hk ⟨O, hO⟩ (fun z fm hp => by
      obtain ⟨hz, q0, q1, q2, q3, q4⟩ := hp
      refine ⟨fun q h1 => q4 q (by omega), by unfold tld; rw [if_pos q0], ⟨hz, ?_⟩, fun f2 h2 => mC.kept ⟨_, Tr, rC, rn, ra, rm, q3, q2, hS2.kept (fun q h1 h2 => q4 q (by omega)), hTr.kept (fun q h1 h2 => q4 q (by omega)), hRd.kept (fun q h1 h2 => q4 q (by omega))⟩ (fun q _ h3 => h2 q (by omega))⟩
      rw [q1]
      unfold tA tAn
      rw [if_pos q0, if_pos q0]
    ) (fun i E hi hp => by
      rcases i with _ | _ | i
      · obtain rfl : exN2 = E := Option.some.inj hi
        obtain ⟨h8, q2, q3, q4⟩ := hp
        have h7 : tRf P T sc ps 6 a 0 0 0 = 1 := by
          rcases h8 with ⟨h8, h9⟩ | ⟨h8, h9⟩ | ⟨h8, h9⟩
          · exact h8
          · exact absurd h9 (by decide)
          · exact absurd h9 (by decide)
        exact ⟨fun q h1 => q4 q (by omega), by unfold tld; rw [h7]; rfl, ⟨_, Tr, rC, rn, ra, rm, q3, q2, hS2.kept (fun q h1 h2 => q4 q (by omega)), hTr.kept (fun q h1 h2 => q4 q (by omega)), hRd.kept (fun q h1 h2 => q4 q (by omega))⟩⟩
      · obtain rfl : exN1 = E := Option.some.inj hi
        obtain ⟨h8, q2, q3, q4⟩ := hp
        have h7 : 3 ≤ tRf P T sc ps 6 a 0 0 0 := by
          rcases h8 with ⟨h8, h9⟩ | ⟨h8, h9⟩ | ⟨h8, h9⟩
          · exact absurd h9 (by decide)
          · exact absurd h9 (by decide)
          · exact h8
        exact ⟨fun q h1 => q4 q (by omega), by unfold tld; rw [if_neg (by omega), if_neg (by omega), if_neg (by omega)]; rfl, ⟨_, Tr, rC, rn, ra, rm, q3, q2, hS2.kept (fun q h1 h2 => q4 q (by omega)), hTr.kept (fun q h1 h2 => q4 q (by omega)), hRd.kept (fun q h1 h2 => q4 q (by omega))⟩⟩
      · exact absurd hi (by simp)
    ) (by decide)
  obtain ⟨cd, hcd, rfl, hRc, hQ, hfr, ⟨O1, hO1⟩, hval⟩ := hmid
  have hRc : cd = (tld (tRf P T sc ps 6 a 0 0 0) 1 0 2) := hRc
  have hR1 := hR.kept (fun q h1 h2 => hfr q h1 (by omega))
  have hD1 := hD.kept (hfr (b0 + 621) (by omega) (by omega))
  obtain ⟨Z, M, M2, St, Mn, Pr, St2, Mn2, Pr2, In, C, z0, z1, z2, z3, z4, z5, z6, z7, z8, z9, z11, z12, zr, zs, ht⟩ := hR1
  refine ⟨⟨_, z0⟩, _, c_X9_removeLink l g b0 622 f1 (b0 + 607) Z M St Mn Pr B P T sc pr ex ps a v z0 ⟨by omega, by omega⟩ z1 z3 z4 z5 zr ht.2.2.2.1 hps hpx (fun k hk _ => hsc k hk) z9 (hok ps hps) hv0 (by omega) hra, fun r f2 hp => ?_⟩
  obtain ⟨M1, St1, Mn1, y1, y3, y4, yr, y0, yv, y9, yf⟩ := hp
  obtain ⟨w1, w2, w3⟩ := zSt_t (Z := Z) (aa := 294 * ps) (rf := tRf P T sc ps 6 a 0 0 0) (cd := (tld (tRf P T sc ps 6 a 0 0 0) 1 0 2))
  have ht9 := ht.step w1 w2 (rs1 := tR P T sc ps 6 a 0 0 0 rs) (by rw [w3]; unfold tR; split; exact ht.2.2.2.2.1; rfl)
  have hA9 := sOk_step (kd := 6) hA (by decide) hra rI_0 rI_0 rI_0 hv0 (by omega) (w := v + 33542) (by omega)
  have hmR : mR g f2 (b0 + 607) B (tP P T sc ps 6 a 0 0 0) (tT P T sc ps 6 a 0 0 0) (tS P T sc ps 6 a 0 0 0) pr ex ps B2 P2 T2 sc2 pr2 ex2 ps2 sv (tR P T sc ps 6 a 0 0 0 rs) cs cr rT rL (tld (tRf P T sc ps 6 a 0 0 0) 1 0 2) := ⟨_, _, _, _, _, _, _, _, _, _, _, y0, y1, z2.kept (yf _ (by omega)), y3, y4, z5.kept (yf _ (by omega)), z6.kept (yf _ (by omega)), z7.kept (yf _ (by omega)), z8.kept (yf _ (by omega)), y9, z11.kept (yf _ (by omega)), z12.kept (yf _ (by omega)), yr, zs, ht9⟩
  refine ⟨cd, hcd, rfl, ⟨B, (tP P T sc ps 6 a 0 0 0), (tT P T sc ps 6 a 0 0 0), (tS P T sc ps 6 a 0 0 0), pr, ex, ps, B2, P2, T2, sc2, pr2, ex2, ps2, sv, (tR P T sc ps 6 a 0 0 0 rs), cs, cr, rT, rL, hA9, (fun h9 => (hS9 h9).mono (by omega)), hx2, hsv, hcs, hcr, hL, htx, hQ.kept (fun q h1 h2 => yf q (by omega)), by rw [hRc]; exact hmR, ⟨_, hO1.kept (yf _ (by omega))⟩, ⟨_, hD1.kept (yf _ (by omega))⟩⟩, fun h0 => ?_⟩
  obtain ⟨z, hz1, hz2⟩ := hval h0
  refine ⟨z, hz1.kept (yf _ (by omega)), ?_⟩
  exact ⟨hz2.1, by rw [yv, ← hz2.2]⟩
set_option maxRecDepth 100000 in
set_option maxHeartbeats 2000000 in
theorem j_addItem (l : Launch) (g : gE) (b0 : Nat) (f : gF) (v cd0 : Int) (a : Int) (hra : rI a) (b : Int) (hrb : rI b) (x : Int) (hrx : rI x) (y : Int) (hry : rI y) (hl9 : l.stackTraces = false) (hv0 : 0 ≤ v) (hv1 : v ≤ 20000000) (hI : lwI g b0 v cd0 f) : jI l g b0 f v yL_addItem cL_addItem 7 [(0, 14, 17, 20), (0, 14, 21, 13), (0, 14, 25, 15)] 8 185 1 yX9_addItem cX9_addItem 5 9 276 [.int (zI a), .int (zI b), .int (zI x), .int (zI y)] := by
  obtain ⟨B, P, T, sc, pr, ex, ps, B2, P2, T2, sc2, pr2, ex2, ps2, sv, rs, cs, cr, rT, rL, hA, hS9, hx2, hsv, hcs, hcr, hL, htx, hC, hR, ⟨O, hO⟩, ⟨D, hD⟩⟩ := hI
  obtain ⟨hex, he0, hps, hpx, hp0, hpri, hpar, hok, hokB, hsc, htO, hrp⟩ := id hA
  obtain ⟨an, Tr, rC, rn, ra, rm, hOb, hSt8, hS2, hTr, hRd⟩ := id hC
  have hX := c_X8_addItem l g b0 622 f b0 B P T sc pr ex ps sv rs an cs cr a b x y v hl9 hOb ⟨by omega, by omega⟩ hSt8 hex hps hpx hok hv0 (by omega) hsc hra hrb hrx hry
  have hH := c_L_addItem l g b0 622 f b0 (b0 + 620) a b x y O _ _ _ hX hOb ⟨by omega, by omega⟩ ⟨by omega, by omega⟩ hO (fun r fm hp => by exact hp.2.2.2.2 _ (by omega)) (fun E fm hp => by
      rcases hp.1 with ⟨h8, h9⟩ | ⟨h8, h9⟩ | ⟨h8, h9⟩
      · exact Or.inl h9
      · exact Or.inr (Or.inl h9)
      · exact Or.inr (Or.inr (h9))
    )
  refine ⟨_, hH, fun k f1 hk => ?_⟩
  have hmid := hQ_mid (Q := fun cd f1 => mC g f1 b0 B (tP P T sc ps 7 a b x y) (tT P T sc ps 7 a b x y) (tS P T sc ps 7 a b x y) pr ex ps B2 P2 T2 sc2 pr2 ex2 ps2 sv (tR P T sc ps 7 a b x y rs) cs cr rT rL) (R := fun cd => cd = (tld (tRf P T sc ps 7 a b x y) 1 2 3)) (q := fun z => rI z ∧ zI z = zI (tAn P T sc ps 7 a b x y)) hk ⟨O, hO⟩ (fun z fm hp => by
      obtain ⟨hz, q0, q1, q2, q3, q4⟩ := hp
      refine ⟨fun q h1 => q4 q (by omega), by unfold tld; rw [if_pos q0], ⟨hz, ?_⟩, fun f2 h2 => mC.kept ⟨_, Tr, rC, rn, ra, rm, q3, q2, hS2.kept (fun q h1 h2 => q4 q (by omega)), hTr.kept (fun q h1 h2 => q4 q (by omega)), hRd.kept (fun q h1 h2 => q4 q (by omega))⟩ (fun q _ h3 => h2 q (by omega))⟩
      rw [q1]
      unfold tA tAn
      rw [if_pos q0, if_pos q0]
    ) (fun i E hi hp => by
      rcases i with _ | _ | _ | i
      · obtain rfl : exN2 = E := Option.some.inj hi
        obtain ⟨h8, q2, q3, q4⟩ := hp
        have h7 : tRf P T sc ps 7 a b x y = 1 := by
          rcases h8 with ⟨h8, h9⟩ | ⟨h8, h9⟩ | ⟨h8, h9⟩
          · exact h8
          · exact absurd h9 (by decide)
          · exact absurd h9 (by decide)
        exact ⟨fun q h1 => q4 q (by omega), by unfold tld; rw [h7]; rfl, ⟨_, Tr, rC, rn, ra, rm, q3, q2, hS2.kept (fun q h1 h2 => q4 q (by omega)), hTr.kept (fun q h1 h2 => q4 q (by omega)), hRd.kept (fun q h1 h2 => q4 q (by omega))⟩⟩
      · obtain rfl : exN0 = E := Option.some.inj hi
        obtain ⟨h8, q2, q3, q4⟩ := hp
        have h7 : tRf P T sc ps 7 a b x y = 2 := by
          rcases h8 with ⟨h8, h9⟩ | ⟨h8, h9⟩ | ⟨h8, h9⟩
          · exact absurd h9 (by decide)
          · exact h8
          · exact absurd h9 (by decide)
        exact ⟨fun q h1 => q4 q (by omega), by unfold tld; rw [h7]; rfl, ⟨_, Tr, rC, rn, ra, rm, q3, q2, hS2.kept (fun q h1 h2 => q4 q (by omega)), hTr.kept (fun q h1 h2 => q4 q (by omega)), hRd.kept (fun q h1 h2 => q4 q (by omega))⟩⟩
      · obtain rfl : exN1 = E := Option.some.inj hi
        obtain ⟨h8, q2, q3, q4⟩ := hp
        have h7 : 3 ≤ tRf P T sc ps 7 a b x y := by
          rcases h8 with ⟨h8, h9⟩ | ⟨h8, h9⟩ | ⟨h8, h9⟩
          · exact absurd h9 (by decide)
          · exact absurd h9 (by decide)
          · exact h8
        exact ⟨fun q h1 => q4 q (by omega), by unfold tld; rw [if_neg (by omega), if_neg (by omega), if_neg (by omega)]; rfl, ⟨_, Tr, rC, rn, ra, rm, q3, q2, hS2.kept (fun q h1 h2 => q4 q (by omega)), hTr.kept (fun q h1 h2 => q4 q (by omega)), hRd.kept (fun q h1 h2 => q4 q (by omega))⟩⟩
      · exact absurd hi (by simp)
    ) (by decide)
  obtain ⟨cd, hcd, rfl, hRc, hQ, hfr, ⟨O1, hO1⟩, hval⟩ := hmid
  have hRc : cd = (tld (tRf P T sc ps 7 a b x y) 1 2 3) := hRc
  have hR1 := hR.kept (fun q h1 h2 => hfr q h1 (by omega))
  have hD1 := hD.kept (hfr (b0 + 621) (by omega) (by omega))
  obtain ⟨Z, M, M2, St, Mn, Pr, St2, Mn2, Pr2, In, C, z0, z1, z2, z3, z4, z5, z6, z7, z8, z9, z11, z12, zr, zs, ht⟩ := hR1
  refine ⟨⟨_, z0⟩, _, c_X9_addItem l g b0 622 f1 (b0 + 607) Z M St Mn Pr B P T sc pr ex ps a b x y v z0 ⟨by omega, by omega⟩ z1 z3 z4 z5 zr ht.2.2.2.1 hps hpx (fun k hk _ => hsc k hk) z9 (hok ps hps) hv0 (by omega) hra hrb hrx hry, fun r f2 hp => ?_⟩
  obtain ⟨M1, St1, Mn1, y1, y3, y4, yr, y0, yv, y9, yf⟩ := hp
  obtain ⟨w1, w2, w3⟩ := zSt_t (Z := Z) (aa := 294 * ps) (rf := tRf P T sc ps 7 a b x y) (cd := (tld (tRf P T sc ps 7 a b x y) 1 2 3))
  have ht9 := ht.step w1 w2 (rs1 := tR P T sc ps 7 a b x y rs) (by rw [w3]; unfold tR; split; exact ht.2.2.2.2.1; rfl)
  have hA9 := sOk_step (kd := 7) hA (by decide) hra hrb hrx hry hv0 (by omega) (w := v + 33542) (by omega)
  have hmR : mR g f2 (b0 + 607) B (tP P T sc ps 7 a b x y) (tT P T sc ps 7 a b x y) (tS P T sc ps 7 a b x y) pr ex ps B2 P2 T2 sc2 pr2 ex2 ps2 sv (tR P T sc ps 7 a b x y rs) cs cr rT rL (tld (tRf P T sc ps 7 a b x y) 1 2 3) := ⟨_, _, _, _, _, _, _, _, _, _, _, y0, y1, z2.kept (yf _ (by omega)), y3, y4, z5.kept (yf _ (by omega)), z6.kept (yf _ (by omega)), z7.kept (yf _ (by omega)), z8.kept (yf _ (by omega)), y9, z11.kept (yf _ (by omega)), z12.kept (yf _ (by omega)), yr, zs, ht9⟩
  refine ⟨cd, hcd, rfl, ⟨B, (tP P T sc ps 7 a b x y), (tT P T sc ps 7 a b x y), (tS P T sc ps 7 a b x y), pr, ex, ps, B2, P2, T2, sc2, pr2, ex2, ps2, sv, (tR P T sc ps 7 a b x y rs), cs, cr, rT, rL, hA9, (fun h9 => (hS9 h9).mono (by omega)), hx2, hsv, hcs, hcr, hL, htx, hQ.kept (fun q h1 h2 => yf q (by omega)), by rw [hRc]; exact hmR, ⟨_, hO1.kept (yf _ (by omega))⟩, ⟨_, hD1.kept (yf _ (by omega))⟩⟩, fun h0 => ?_⟩
  obtain ⟨z, hz1, hz2⟩ := hval h0
  refine ⟨z, hz1.kept (yf _ (by omega)), ?_⟩
  exact ⟨hz2.1, by rw [yv, ← hz2.2]⟩
set_option maxRecDepth 100000 in
set_option maxHeartbeats 2000000 in
theorem j_removeItem (l : Launch) (g : gE) (b0 : Nat) (f : gF) (v cd0 : Int) (a : Int) (hra : rI a) (hl9 : l.stackTraces = false) (hv0 : 0 ≤ v) (hv1 : v ≤ 20000000) (hI : lwI g b0 v cd0 f) : jI l g b0 f v yL_removeItem cL_removeItem 4 [(0, 9, 12, 20), (0, 9, 15, 15)] 8 182 1 yX9_removeItem cX9_removeItem 2 9 276 [.int (zI a)] := by
  obtain ⟨B, P, T, sc, pr, ex, ps, B2, P2, T2, sc2, pr2, ex2, ps2, sv, rs, cs, cr, rT, rL, hA, hS9, hx2, hsv, hcs, hcr, hL, htx, hC, hR, ⟨O, hO⟩, ⟨D, hD⟩⟩ := hI
  obtain ⟨hex, he0, hps, hpx, hp0, hpri, hpar, hok, hokB, hsc, htO, hrp⟩ := id hA
  obtain ⟨an, Tr, rC, rn, ra, rm, hOb, hSt8, hS2, hTr, hRd⟩ := id hC
  have hn2 : tRf P T sc ps 8 a 0 0 0 ≠ 2 := ref_n2 (by rw [rg_8]; trivial)
  have hX := c_X8_removeItem l g b0 622 f b0 B P T sc pr ex ps sv rs an cs cr a v hl9 hOb ⟨by omega, by omega⟩ hSt8 hex hps hpx hok hv0 (by omega) hsc hra
  have hH := c_L_removeItem l g b0 622 f b0 (b0 + 620) a O _ _ _ hX hOb ⟨by omega, by omega⟩ ⟨by omega, by omega⟩ hO (fun r fm hp => by exact hp.2.2.2.2 _ (by omega)) (fun E fm hp => by
      rcases hp.1 with ⟨h8, h9⟩ | ⟨h8, h9⟩ | ⟨h8, h9⟩
      · exact Or.inl h9
      · exact absurd h8 hn2
      · exact Or.inr (h9)
    )
  refine ⟨_, hH, fun k f1 hk => ?_⟩
  have hmid := hQ_mid (Q := fun cd f1 => mC g f1 b0 B (tP P T sc ps 8 a 0 0 0) (tT P T sc ps 8 a 0 0 0) (tS P T sc ps 8 a 0 0 0) pr ex ps B2 P2 T2 sc2 pr2 ex2 ps2 sv (tR P T sc ps 8 a 0 0 0 rs) cs cr rT rL) (R := fun cd => cd = (tld (tRf P T sc ps 8 a 0 0 0) 1 0 2)) (q := fun z => rI z ∧ zI z = zI (tAn P T sc ps 8 a 0 0 0)) hk ⟨O, hO⟩ (fun z fm hp => by
      obtain ⟨hz, q0, q1, q2, q3, q4⟩ := hp
      refine ⟨fun q h1 => q4 q (by omega), by unfold tld; rw [if_pos q0], ⟨hz, ?_⟩, fun f2 h2 => mC.kept ⟨_, Tr, rC, rn, ra, rm, q3, q2, hS2.kept (fun q h1 h2 => q4 q (by omega)), hTr.kept (fun q h1 h2 => q4 q (by omega)), hRd.kept (fun q h1 h2 => q4 q (by omega))⟩ (fun q _ h3 => h2 q (by omega))⟩
      rw [q1]
      unfold tA tAn
      rw [if_pos q0, if_pos q0]
    ) (fun i E hi hp => by
      rcases i with _ | _ | i
      · obtain rfl : exN2 = E := Option.some.inj hi
        obtain ⟨h8, q2, q3, q4⟩ := hp
        have h7 : tRf P T sc ps 8 a 0 0 0 = 1 := by
          rcases h8 with ⟨h8, h9⟩ | ⟨h8, h9⟩ | ⟨h8, h9⟩
          · exact h8
          · exact absurd h9 (by decide)
          · exact absurd h9 (by decide)
        exact ⟨fun q h1 => q4 q (by omega), by unfold tld; rw [h7]; rfl, ⟨_, Tr, rC, rn, ra, rm, q3, q2, hS2.kept (fun q h1 h2 => q4 q (by omega)), hTr.kept (fun q h1 h2 => q4 q (by omega)), hRd.kept (fun q h1 h2 => q4 q (by omega))⟩⟩
      · obtain rfl : exN1 = E := Option.some.inj hi
        obtain ⟨h8, q2, q3, q4⟩ := hp
        have h7 : 3 ≤ tRf P T sc ps 8 a 0 0 0 := by
          rcases h8 with ⟨h8, h9⟩ | ⟨h8, h9⟩ | ⟨h8, h9⟩
          · exact absurd h9 (by decide)
          · exact absurd h9 (by decide)
          · exact h8
        exact ⟨fun q h1 => q4 q (by omega), by unfold tld; rw [if_neg (by omega), if_neg (by omega), if_neg (by omega)]; rfl, ⟨_, Tr, rC, rn, ra, rm, q3, q2, hS2.kept (fun q h1 h2 => q4 q (by omega)), hTr.kept (fun q h1 h2 => q4 q (by omega)), hRd.kept (fun q h1 h2 => q4 q (by omega))⟩⟩
      · exact absurd hi (by simp)
    ) (by decide)
  obtain ⟨cd, hcd, rfl, hRc, hQ, hfr, ⟨O1, hO1⟩, hval⟩ := hmid
  have hRc : cd = (tld (tRf P T sc ps 8 a 0 0 0) 1 0 2) := hRc
  have hR1 := hR.kept (fun q h1 h2 => hfr q h1 (by omega))
  have hD1 := hD.kept (hfr (b0 + 621) (by omega) (by omega))
  obtain ⟨Z, M, M2, St, Mn, Pr, St2, Mn2, Pr2, In, C, z0, z1, z2, z3, z4, z5, z6, z7, z8, z9, z11, z12, zr, zs, ht⟩ := hR1
  refine ⟨⟨_, z0⟩, _, c_X9_removeItem l g b0 622 f1 (b0 + 607) Z M St Mn Pr B P T sc pr ex ps a v z0 ⟨by omega, by omega⟩ z1 z3 z4 z5 zr ht.2.2.2.1 hps hpx (fun k hk _ => hsc k hk) z9 (hok ps hps) hv0 (by omega) hra, fun r f2 hp => ?_⟩
  obtain ⟨M1, St1, Mn1, y1, y3, y4, yr, y0, yv, y9, yf⟩ := hp
  obtain ⟨w1, w2, w3⟩ := zSt_t (Z := Z) (aa := 294 * ps) (rf := tRf P T sc ps 8 a 0 0 0) (cd := (tld (tRf P T sc ps 8 a 0 0 0) 1 0 2))
  have ht9 := ht.step w1 w2 (rs1 := tR P T sc ps 8 a 0 0 0 rs) (by rw [w3]; unfold tR; split; exact ht.2.2.2.2.1; rfl)
  have hA9 := sOk_step (kd := 8) hA (by decide) hra rI_0 rI_0 rI_0 hv0 (by omega) (w := v + 33542) (by omega)
  have hmR : mR g f2 (b0 + 607) B (tP P T sc ps 8 a 0 0 0) (tT P T sc ps 8 a 0 0 0) (tS P T sc ps 8 a 0 0 0) pr ex ps B2 P2 T2 sc2 pr2 ex2 ps2 sv (tR P T sc ps 8 a 0 0 0 rs) cs cr rT rL (tld (tRf P T sc ps 8 a 0 0 0) 1 0 2) := ⟨_, _, _, _, _, _, _, _, _, _, _, y0, y1, z2.kept (yf _ (by omega)), y3, y4, z5.kept (yf _ (by omega)), z6.kept (yf _ (by omega)), z7.kept (yf _ (by omega)), z8.kept (yf _ (by omega)), y9, z11.kept (yf _ (by omega)), z12.kept (yf _ (by omega)), yr, zs, ht9⟩
  refine ⟨cd, hcd, rfl, ⟨B, (tP P T sc ps 8 a 0 0 0), (tT P T sc ps 8 a 0 0 0), (tS P T sc ps 8 a 0 0 0), pr, ex, ps, B2, P2, T2, sc2, pr2, ex2, ps2, sv, (tR P T sc ps 8 a 0 0 0 rs), cs, cr, rT, rL, hA9, (fun h9 => (hS9 h9).mono (by omega)), hx2, hsv, hcs, hcr, hL, htx, hQ.kept (fun q h1 h2 => yf q (by omega)), by rw [hRc]; exact hmR, ⟨_, hO1.kept (yf _ (by omega))⟩, ⟨_, hD1.kept (yf _ (by omega))⟩⟩, fun h0 => ?_⟩
  obtain ⟨z, hz1, hz2⟩ := hval h0
  refine ⟨z, hz1.kept (yf _ (by omega)), ?_⟩
  exact ⟨hz2.1, by rw [yv, ← hz2.2]⟩
set_option maxRecDepth 100000 in
set_option maxHeartbeats 2000000 in
theorem j_receive (l : Launch) (g : gE) (b0 : Nat) (f : gF) (v cd0 : Int) (a : Int) (hra : rI a) (hl9 : l.stackTraces = false) (hv0 : 0 ≤ v) (hv1 : v ≤ 20000000) (hI : lwI g b0 v cd0 f) : jI l g b0 f v yL_receive cL_receive 4 [(0, 9, 12, 13), (0, 9, 15, 15)] 8 182 1 yX9_receive cX9_receive 2 9 276 [.int (zI a)] := by
  obtain ⟨B, P, T, sc, pr, ex, ps, B2, P2, T2, sc2, pr2, ex2, ps2, sv, rs, cs, cr, rT, rL, hA, hS9, hx2, hsv, hcs, hcr, hL, htx, hC, hR, ⟨O, hO⟩, ⟨D, hD⟩⟩ := hI
  obtain ⟨hex, he0, hps, hpx, hp0, hpri, hpar, hok, hokB, hsc, htO, hrp⟩ := id hA
  obtain ⟨an, Tr, rC, rn, ra, rm, hOb, hSt8, hS2, hTr, hRd⟩ := id hC
  have hn1 : tRf P T sc ps 9 a 0 0 0 ≠ 1 := ref_n1 (by simp [nmP])
  have hX := c_X8_receive l g b0 622 f b0 B P T sc pr ex ps sv rs an cs cr a v hl9 hOb ⟨by omega, by omega⟩ hSt8 hex hps hpx hok hv0 (by omega) hsc hra
  have hH := c_L_receive l g b0 622 f b0 (b0 + 620) a O _ _ _ hX hOb ⟨by omega, by omega⟩ ⟨by omega, by omega⟩ hO (fun r fm hp => by exact hp.2.2.2.2 _ (by omega)) (fun E fm hp => by
      rcases hp.1 with ⟨h8, h9⟩ | ⟨h8, h9⟩ | ⟨h8, h9⟩
      · exact absurd h8 hn1
      · exact Or.inl h9
      · exact Or.inr (h9)
    )
  refine ⟨_, hH, fun k f1 hk => ?_⟩
  have hmid := hQ_mid (Q := fun cd f1 => mC g f1 b0 B (tP P T sc ps 9 a 0 0 0) (tT P T sc ps 9 a 0 0 0) (tS P T sc ps 9 a 0 0 0) pr ex ps B2 P2 T2 sc2 pr2 ex2 ps2 sv (tR P T sc ps 9 a 0 0 0 rs) cs cr rT rL) (R := fun cd => cd = (tld (tRf P T sc ps 9 a 0 0 0) 0 1 2)) (q := fun z => rI z ∧ zI z = zI (tAn P T sc ps 9 a 0 0 0)) hk ⟨O, hO⟩ (fun z fm hp => by
      obtain ⟨hz, q0, q1, q2, q3, q4⟩ := hp
      refine ⟨fun q h1 => q4 q (by omega), by unfold tld; rw [if_pos q0], ⟨hz, ?_⟩, fun f2 h2 => mC.kept ⟨_, Tr, rC, rn, ra, rm, q3, q2, hS2.kept (fun q h1 h2 => q4 q (by omega)), hTr.kept (fun q h1 h2 => q4 q (by omega)), hRd.kept (fun q h1 h2 => q4 q (by omega))⟩ (fun q _ h3 => h2 q (by omega))⟩
      rw [q1]
      unfold tA tAn
      rw [if_pos q0, if_pos q0]
    ) (fun i E hi hp => by
      rcases i with _ | _ | i
      · obtain rfl : exN0 = E := Option.some.inj hi
        obtain ⟨h8, q2, q3, q4⟩ := hp
        have h7 : tRf P T sc ps 9 a 0 0 0 = 2 := by
          rcases h8 with ⟨h8, h9⟩ | ⟨h8, h9⟩ | ⟨h8, h9⟩
          · exact absurd h9 (by decide)
          · exact h8
          · exact absurd h9 (by decide)
        exact ⟨fun q h1 => q4 q (by omega), by unfold tld; rw [h7]; rfl, ⟨_, Tr, rC, rn, ra, rm, q3, q2, hS2.kept (fun q h1 h2 => q4 q (by omega)), hTr.kept (fun q h1 h2 => q4 q (by omega)), hRd.kept (fun q h1 h2 => q4 q (by omega))⟩⟩
      · obtain rfl : exN1 = E := Option.some.inj hi
        obtain ⟨h8, q2, q3, q4⟩ := hp
        have h7 : 3 ≤ tRf P T sc ps 9 a 0 0 0 := by
          rcases h8 with ⟨h8, h9⟩ | ⟨h8, h9⟩ | ⟨h8, h9⟩
          · exact absurd h9 (by decide)
          · exact absurd h9 (by decide)
          · exact h8
        exact ⟨fun q h1 => q4 q (by omega), by unfold tld; rw [if_neg (by omega), if_neg (by omega), if_neg (by omega)]; rfl, ⟨_, Tr, rC, rn, ra, rm, q3, q2, hS2.kept (fun q h1 h2 => q4 q (by omega)), hTr.kept (fun q h1 h2 => q4 q (by omega)), hRd.kept (fun q h1 h2 => q4 q (by omega))⟩⟩
      · exact absurd hi (by simp)
    ) (by decide)
  obtain ⟨cd, hcd, rfl, hRc, hQ, hfr, ⟨O1, hO1⟩, hval⟩ := hmid
  have hRc : cd = (tld (tRf P T sc ps 9 a 0 0 0) 0 1 2) := hRc
  have hR1 := hR.kept (fun q h1 h2 => hfr q h1 (by omega))
  have hD1 := hD.kept (hfr (b0 + 621) (by omega) (by omega))
  obtain ⟨Z, M, M2, St, Mn, Pr, St2, Mn2, Pr2, In, C, z0, z1, z2, z3, z4, z5, z6, z7, z8, z9, z11, z12, zr, zs, ht⟩ := hR1
  refine ⟨⟨_, z0⟩, _, c_X9_receive l g b0 622 f1 (b0 + 607) Z M St Mn Pr B P T sc pr ex ps a v z0 ⟨by omega, by omega⟩ z1 z3 z4 z5 zr ht.2.2.2.1 hps hpx (fun k hk _ => hsc k hk) z9 (hok ps hps) hv0 (by omega) hra, fun r f2 hp => ?_⟩
  obtain ⟨M1, St1, Mn1, y1, y3, y4, yr, y0, yv, y9, yf⟩ := hp
  obtain ⟨w1, w2, w3⟩ := zSt_t (Z := Z) (aa := 294 * ps) (rf := tRf P T sc ps 9 a 0 0 0) (cd := (tld (tRf P T sc ps 9 a 0 0 0) 0 1 2))
  have ht9 := ht.step w1 w2 (rs1 := tR P T sc ps 9 a 0 0 0 rs) (by rw [w3]; unfold tR; split; exact ht.2.2.2.2.1; rfl)
  have hA9 := sOk_step (kd := 9) hA (by decide) hra rI_0 rI_0 rI_0 hv0 (by omega) (w := v + 33542) (by omega)
  have hmR : mR g f2 (b0 + 607) B (tP P T sc ps 9 a 0 0 0) (tT P T sc ps 9 a 0 0 0) (tS P T sc ps 9 a 0 0 0) pr ex ps B2 P2 T2 sc2 pr2 ex2 ps2 sv (tR P T sc ps 9 a 0 0 0 rs) cs cr rT rL (tld (tRf P T sc ps 9 a 0 0 0) 0 1 2) := ⟨_, _, _, _, _, _, _, _, _, _, _, y0, y1, z2.kept (yf _ (by omega)), y3, y4, z5.kept (yf _ (by omega)), z6.kept (yf _ (by omega)), z7.kept (yf _ (by omega)), z8.kept (yf _ (by omega)), y9, z11.kept (yf _ (by omega)), z12.kept (yf _ (by omega)), yr, zs, ht9⟩
  refine ⟨cd, hcd, rfl, ⟨B, (tP P T sc ps 9 a 0 0 0), (tT P T sc ps 9 a 0 0 0), (tS P T sc ps 9 a 0 0 0), pr, ex, ps, B2, P2, T2, sc2, pr2, ex2, ps2, sv, (tR P T sc ps 9 a 0 0 0 rs), cs, cr, rT, rL, hA9, (fun h9 => (hS9 h9).mono (by omega)), hx2, hsv, hcs, hcr, hL, htx, hQ.kept (fun q h1 h2 => yf q (by omega)), by rw [hRc]; exact hmR, ⟨_, hO1.kept (yf _ (by omega))⟩, ⟨_, hD1.kept (yf _ (by omega))⟩⟩, fun h0 => ?_⟩
  obtain ⟨z, hz1, hz2⟩ := hval h0
  refine ⟨z, hz1.kept (yf _ (by omega)), ?_⟩
  exact ⟨hz2.1, by rw [yv, ← hz2.2]⟩
set_option maxRecDepth 100000 in
set_option maxHeartbeats 2000000 in
theorem j_spend (l : Launch) (g : gE) (b0 : Nat) (f : gF) (v cd0 : Int) (a : Int) (hra : rI a) (b : Int) (hrb : rI b) (hl9 : l.stackTraces = false) (hv0 : 0 ≤ v) (hv1 : v ≤ 20000000) (hI : lwI g b0 v cd0 f) : jI l g b0 f v yL_spend cL_spend 5 [(0, 10, 13, 20), (0, 10, 17, 13), (0, 10, 21, 15)] 8 183 1 yX9_spend cX9_spend 3 9 276 [.int (zI a), .int (zI b)] := by
  obtain ⟨B, P, T, sc, pr, ex, ps, B2, P2, T2, sc2, pr2, ex2, ps2, sv, rs, cs, cr, rT, rL, hA, hS9, hx2, hsv, hcs, hcr, hL, htx, hC, hR, ⟨O, hO⟩, ⟨D, hD⟩⟩ := hI
  obtain ⟨hex, he0, hps, hpx, hp0, hpri, hpar, hok, hokB, hsc, htO, hrp⟩ := id hA
  obtain ⟨an, Tr, rC, rn, ra, rm, hOb, hSt8, hS2, hTr, hRd⟩ := id hC
  have hX := c_X8_spend l g b0 622 f b0 B P T sc pr ex ps sv rs an cs cr a b v hl9 hOb ⟨by omega, by omega⟩ hSt8 hex hps hpx hok hv0 (by omega) hsc hra hrb
  have hH := c_L_spend l g b0 622 f b0 (b0 + 620) a b O _ _ _ hX hOb ⟨by omega, by omega⟩ ⟨by omega, by omega⟩ hO (fun r fm hp => by exact hp.2.2.2.2 _ (by omega)) (fun E fm hp => by
      rcases hp.1 with ⟨h8, h9⟩ | ⟨h8, h9⟩ | ⟨h8, h9⟩
      · exact Or.inl h9
      · exact Or.inr (Or.inl h9)
      · exact Or.inr (Or.inr (h9))
    )
  refine ⟨_, hH, fun k f1 hk => ?_⟩
  have hmid := hQ_mid (Q := fun cd f1 => mC g f1 b0 B (tP P T sc ps 10 a b 0 0) (tT P T sc ps 10 a b 0 0) (tS P T sc ps 10 a b 0 0) pr ex ps B2 P2 T2 sc2 pr2 ex2 ps2 sv (tR P T sc ps 10 a b 0 0 rs) cs cr rT rL) (R := fun cd => cd = (tld (tRf P T sc ps 10 a b 0 0) 1 2 3)) (q := fun z => rI z ∧ zI z = zI (tAn P T sc ps 10 a b 0 0)) hk ⟨O, hO⟩ (fun z fm hp => by
      obtain ⟨hz, q0, q1, q2, q3, q4⟩ := hp
      refine ⟨fun q h1 => q4 q (by omega), by unfold tld; rw [if_pos q0], ⟨hz, ?_⟩, fun f2 h2 => mC.kept ⟨_, Tr, rC, rn, ra, rm, q3, q2, hS2.kept (fun q h1 h2 => q4 q (by omega)), hTr.kept (fun q h1 h2 => q4 q (by omega)), hRd.kept (fun q h1 h2 => q4 q (by omega))⟩ (fun q _ h3 => h2 q (by omega))⟩
      rw [q1]
      unfold tA tAn
      rw [if_pos q0, if_pos q0]
    ) (fun i E hi hp => by
      rcases i with _ | _ | _ | i
      · obtain rfl : exN2 = E := Option.some.inj hi
        obtain ⟨h8, q2, q3, q4⟩ := hp
        have h7 : tRf P T sc ps 10 a b 0 0 = 1 := by
          rcases h8 with ⟨h8, h9⟩ | ⟨h8, h9⟩ | ⟨h8, h9⟩
          · exact h8
          · exact absurd h9 (by decide)
          · exact absurd h9 (by decide)
        exact ⟨fun q h1 => q4 q (by omega), by unfold tld; rw [h7]; rfl, ⟨_, Tr, rC, rn, ra, rm, q3, q2, hS2.kept (fun q h1 h2 => q4 q (by omega)), hTr.kept (fun q h1 h2 => q4 q (by omega)), hRd.kept (fun q h1 h2 => q4 q (by omega))⟩⟩
      · obtain rfl : exN0 = E := Option.some.inj hi
        obtain ⟨h8, q2, q3, q4⟩ := hp
        have h7 : tRf P T sc ps 10 a b 0 0 = 2 := by
          rcases h8 with ⟨h8, h9⟩ | ⟨h8, h9⟩ | ⟨h8, h9⟩
          · exact absurd h9 (by decide)
          · exact h8
          · exact absurd h9 (by decide)
        exact ⟨fun q h1 => q4 q (by omega), by unfold tld; rw [h7]; rfl, ⟨_, Tr, rC, rn, ra, rm, q3, q2, hS2.kept (fun q h1 h2 => q4 q (by omega)), hTr.kept (fun q h1 h2 => q4 q (by omega)), hRd.kept (fun q h1 h2 => q4 q (by omega))⟩⟩
      · obtain rfl : exN1 = E := Option.some.inj hi
        obtain ⟨h8, q2, q3, q4⟩ := hp
        have h7 : 3 ≤ tRf P T sc ps 10 a b 0 0 := by
          rcases h8 with ⟨h8, h9⟩ | ⟨h8, h9⟩ | ⟨h8, h9⟩
          · exact absurd h9 (by decide)
          · exact absurd h9 (by decide)
          · exact h8
        exact ⟨fun q h1 => q4 q (by omega), by unfold tld; rw [if_neg (by omega), if_neg (by omega), if_neg (by omega)]; rfl, ⟨_, Tr, rC, rn, ra, rm, q3, q2, hS2.kept (fun q h1 h2 => q4 q (by omega)), hTr.kept (fun q h1 h2 => q4 q (by omega)), hRd.kept (fun q h1 h2 => q4 q (by omega))⟩⟩
      · exact absurd hi (by simp)
    ) (by decide)
  obtain ⟨cd, hcd, rfl, hRc, hQ, hfr, ⟨O1, hO1⟩, hval⟩ := hmid
  have hRc : cd = (tld (tRf P T sc ps 10 a b 0 0) 1 2 3) := hRc
  have hR1 := hR.kept (fun q h1 h2 => hfr q h1 (by omega))
  have hD1 := hD.kept (hfr (b0 + 621) (by omega) (by omega))
  obtain ⟨Z, M, M2, St, Mn, Pr, St2, Mn2, Pr2, In, C, z0, z1, z2, z3, z4, z5, z6, z7, z8, z9, z11, z12, zr, zs, ht⟩ := hR1
  refine ⟨⟨_, z0⟩, _, c_X9_spend l g b0 622 f1 (b0 + 607) Z M St Mn Pr B P T sc pr ex ps a b v z0 ⟨by omega, by omega⟩ z1 z3 z4 z5 zr ht.2.2.2.1 hps hpx (fun k hk _ => hsc k hk) z9 (hok ps hps) hv0 (by omega) hra hrb, fun r f2 hp => ?_⟩
  obtain ⟨M1, St1, Mn1, y1, y3, y4, yr, y0, yv, y9, yf⟩ := hp
  obtain ⟨w1, w2, w3⟩ := zSt_t (Z := Z) (aa := 294 * ps) (rf := tRf P T sc ps 10 a b 0 0) (cd := (tld (tRf P T sc ps 10 a b 0 0) 1 2 3))
  have ht9 := ht.step w1 w2 (rs1 := tR P T sc ps 10 a b 0 0 rs) (by rw [w3]; unfold tR; split; exact ht.2.2.2.2.1; rfl)
  have hA9 := sOk_step (kd := 10) hA (by decide) hra hrb rI_0 rI_0 hv0 (by omega) (w := v + 33542) (by omega)
  have hmR : mR g f2 (b0 + 607) B (tP P T sc ps 10 a b 0 0) (tT P T sc ps 10 a b 0 0) (tS P T sc ps 10 a b 0 0) pr ex ps B2 P2 T2 sc2 pr2 ex2 ps2 sv (tR P T sc ps 10 a b 0 0 rs) cs cr rT rL (tld (tRf P T sc ps 10 a b 0 0) 1 2 3) := ⟨_, _, _, _, _, _, _, _, _, _, _, y0, y1, z2.kept (yf _ (by omega)), y3, y4, z5.kept (yf _ (by omega)), z6.kept (yf _ (by omega)), z7.kept (yf _ (by omega)), z8.kept (yf _ (by omega)), y9, z11.kept (yf _ (by omega)), z12.kept (yf _ (by omega)), yr, zs, ht9⟩
  refine ⟨cd, hcd, rfl, ⟨B, (tP P T sc ps 10 a b 0 0), (tT P T sc ps 10 a b 0 0), (tS P T sc ps 10 a b 0 0), pr, ex, ps, B2, P2, T2, sc2, pr2, ex2, ps2, sv, (tR P T sc ps 10 a b 0 0 rs), cs, cr, rT, rL, hA9, (fun h9 => (hS9 h9).mono (by omega)), hx2, hsv, hcs, hcr, hL, htx, hQ.kept (fun q h1 h2 => yf q (by omega)), by rw [hRc]; exact hmR, ⟨_, hO1.kept (yf _ (by omega))⟩, ⟨_, hD1.kept (yf _ (by omega))⟩⟩, fun h0 => ?_⟩
  obtain ⟨z, hz1, hz2⟩ := hval h0
  refine ⟨z, hz1.kept (yf _ (by omega)), ?_⟩
  exact ⟨hz2.1, by rw [yv, ← hz2.2]⟩
set_option maxRecDepth 100000 in
set_option maxHeartbeats 2000000 in
theorem j_move (l : Launch) (g : gE) (b0 : Nat) (f : gF) (v cd0 : Int) (a : Int) (hra : rI a) (b : Int) (hrb : rI b) (x : Int) (hrx : rI x) (hl9 : l.stackTraces = false) (hv0 : 0 ≤ v) (hv1 : v ≤ 20000000) (hI : lwI g b0 v cd0 f) : jI l g b0 f v yL_move cL_move 6 [(0, 12, 15, 20), (0, 12, 19, 13), (0, 12, 23, 15)] 8 184 1 yX9_move cX9_move 4 9 276 [.int (zI a), .int (zI b), .int (zI x)] := by
  obtain ⟨B, P, T, sc, pr, ex, ps, B2, P2, T2, sc2, pr2, ex2, ps2, sv, rs, cs, cr, rT, rL, hA, hS9, hx2, hsv, hcs, hcr, hL, htx, hC, hR, ⟨O, hO⟩, ⟨D, hD⟩⟩ := hI
  obtain ⟨hex, he0, hps, hpx, hp0, hpri, hpar, hok, hokB, hsc, htO, hrp⟩ := id hA
  obtain ⟨an, Tr, rC, rn, ra, rm, hOb, hSt8, hS2, hTr, hRd⟩ := id hC
  have hX := c_X8_move l g b0 622 f b0 B P T sc pr ex ps sv rs an cs cr a b x v hl9 hOb ⟨by omega, by omega⟩ hSt8 hex hps hpx hok hv0 (by omega) hsc hra hrb hrx
  have hH := c_L_move l g b0 622 f b0 (b0 + 620) a b x O _ _ _ hX hOb ⟨by omega, by omega⟩ ⟨by omega, by omega⟩ hO (fun r fm hp => by exact hp.2.2.2.2 _ (by omega)) (fun E fm hp => by
      rcases hp.1 with ⟨h8, h9⟩ | ⟨h8, h9⟩ | ⟨h8, h9⟩
      · exact Or.inl h9
      · exact Or.inr (Or.inl h9)
      · exact Or.inr (Or.inr (h9))
    )
  refine ⟨_, hH, fun k f1 hk => ?_⟩
  have hmid := hQ_mid (Q := fun cd f1 => mC g f1 b0 B (tP P T sc ps 11 a b x 0) (tT P T sc ps 11 a b x 0) (tS P T sc ps 11 a b x 0) pr ex ps B2 P2 T2 sc2 pr2 ex2 ps2 sv (tR P T sc ps 11 a b x 0 rs) cs cr rT rL) (R := fun cd => cd = (tld (tRf P T sc ps 11 a b x 0) 1 2 3)) (q := fun z => rI z ∧ zI z = zI (tAn P T sc ps 11 a b x 0)) hk ⟨O, hO⟩ (fun z fm hp => by
      obtain ⟨hz, q0, q1, q2, q3, q4⟩ := hp
      refine ⟨fun q h1 => q4 q (by omega), by unfold tld; rw [if_pos q0], ⟨hz, ?_⟩, fun f2 h2 => mC.kept ⟨_, Tr, rC, rn, ra, rm, q3, q2, hS2.kept (fun q h1 h2 => q4 q (by omega)), hTr.kept (fun q h1 h2 => q4 q (by omega)), hRd.kept (fun q h1 h2 => q4 q (by omega))⟩ (fun q _ h3 => h2 q (by omega))⟩
      rw [q1]
      unfold tA tAn
      rw [if_pos q0, if_pos q0]
    ) (fun i E hi hp => by
      rcases i with _ | _ | _ | i
      · obtain rfl : exN2 = E := Option.some.inj hi
        obtain ⟨h8, q2, q3, q4⟩ := hp
        have h7 : tRf P T sc ps 11 a b x 0 = 1 := by
          rcases h8 with ⟨h8, h9⟩ | ⟨h8, h9⟩ | ⟨h8, h9⟩
          · exact h8
          · exact absurd h9 (by decide)
          · exact absurd h9 (by decide)
        exact ⟨fun q h1 => q4 q (by omega), by unfold tld; rw [h7]; rfl, ⟨_, Tr, rC, rn, ra, rm, q3, q2, hS2.kept (fun q h1 h2 => q4 q (by omega)), hTr.kept (fun q h1 h2 => q4 q (by omega)), hRd.kept (fun q h1 h2 => q4 q (by omega))⟩⟩
      · obtain rfl : exN0 = E := Option.some.inj hi
        obtain ⟨h8, q2, q3, q4⟩ := hp
        have h7 : tRf P T sc ps 11 a b x 0 = 2 := by
          rcases h8 with ⟨h8, h9⟩ | ⟨h8, h9⟩ | ⟨h8, h9⟩
          · exact absurd h9 (by decide)
          · exact h8
          · exact absurd h9 (by decide)
        exact ⟨fun q h1 => q4 q (by omega), by unfold tld; rw [h7]; rfl, ⟨_, Tr, rC, rn, ra, rm, q3, q2, hS2.kept (fun q h1 h2 => q4 q (by omega)), hTr.kept (fun q h1 h2 => q4 q (by omega)), hRd.kept (fun q h1 h2 => q4 q (by omega))⟩⟩
      · obtain rfl : exN1 = E := Option.some.inj hi
        obtain ⟨h8, q2, q3, q4⟩ := hp
        have h7 : 3 ≤ tRf P T sc ps 11 a b x 0 := by
          rcases h8 with ⟨h8, h9⟩ | ⟨h8, h9⟩ | ⟨h8, h9⟩
          · exact absurd h9 (by decide)
          · exact absurd h9 (by decide)
          · exact h8
        exact ⟨fun q h1 => q4 q (by omega), by unfold tld; rw [if_neg (by omega), if_neg (by omega), if_neg (by omega)]; rfl, ⟨_, Tr, rC, rn, ra, rm, q3, q2, hS2.kept (fun q h1 h2 => q4 q (by omega)), hTr.kept (fun q h1 h2 => q4 q (by omega)), hRd.kept (fun q h1 h2 => q4 q (by omega))⟩⟩
      · exact absurd hi (by simp)
    ) (by decide)
  obtain ⟨cd, hcd, rfl, hRc, hQ, hfr, ⟨O1, hO1⟩, hval⟩ := hmid
  have hRc : cd = (tld (tRf P T sc ps 11 a b x 0) 1 2 3) := hRc
  have hR1 := hR.kept (fun q h1 h2 => hfr q h1 (by omega))
  have hD1 := hD.kept (hfr (b0 + 621) (by omega) (by omega))
  obtain ⟨Z, M, M2, St, Mn, Pr, St2, Mn2, Pr2, In, C, z0, z1, z2, z3, z4, z5, z6, z7, z8, z9, z11, z12, zr, zs, ht⟩ := hR1
  refine ⟨⟨_, z0⟩, _, c_X9_move l g b0 622 f1 (b0 + 607) Z M St Mn Pr B P T sc pr ex ps a b x v z0 ⟨by omega, by omega⟩ z1 z3 z4 z5 zr ht.2.2.2.1 hps hpx (fun k hk _ => hsc k hk) z9 (hok ps hps) hv0 (by omega) hra hrb hrx, fun r f2 hp => ?_⟩
  obtain ⟨M1, St1, Mn1, y1, y3, y4, yr, y0, yv, y9, yf⟩ := hp
  obtain ⟨w1, w2, w3⟩ := zSt_t (Z := Z) (aa := 294 * ps) (rf := tRf P T sc ps 11 a b x 0) (cd := (tld (tRf P T sc ps 11 a b x 0) 1 2 3))
  have ht9 := ht.step w1 w2 (rs1 := tR P T sc ps 11 a b x 0 rs) (by rw [w3]; unfold tR; split; exact ht.2.2.2.2.1; rfl)
  have hA9 := sOk_step (kd := 11) hA (by decide) hra hrb hrx rI_0 hv0 (by omega) (w := v + 33542) (by omega)
  have hmR : mR g f2 (b0 + 607) B (tP P T sc ps 11 a b x 0) (tT P T sc ps 11 a b x 0) (tS P T sc ps 11 a b x 0) pr ex ps B2 P2 T2 sc2 pr2 ex2 ps2 sv (tR P T sc ps 11 a b x 0 rs) cs cr rT rL (tld (tRf P T sc ps 11 a b x 0) 1 2 3) := ⟨_, _, _, _, _, _, _, _, _, _, _, y0, y1, z2.kept (yf _ (by omega)), y3, y4, z5.kept (yf _ (by omega)), z6.kept (yf _ (by omega)), z7.kept (yf _ (by omega)), z8.kept (yf _ (by omega)), y9, z11.kept (yf _ (by omega)), z12.kept (yf _ (by omega)), yr, zs, ht9⟩
  refine ⟨cd, hcd, rfl, ⟨B, (tP P T sc ps 11 a b x 0), (tT P T sc ps 11 a b x 0), (tS P T sc ps 11 a b x 0), pr, ex, ps, B2, P2, T2, sc2, pr2, ex2, ps2, sv, (tR P T sc ps 11 a b x 0 rs), cs, cr, rT, rL, hA9, (fun h9 => (hS9 h9).mono (by omega)), hx2, hsv, hcs, hcr, hL, htx, hQ.kept (fun q h1 h2 => yf q (by omega)), by rw [hRc]; exact hmR, ⟨_, hO1.kept (yf _ (by omega))⟩, ⟨_, hD1.kept (yf _ (by omega))⟩⟩, fun h0 => ?_⟩
  obtain ⟨z, hz1, hz2⟩ := hval h0
  refine ⟨z, hz1.kept (yf _ (by omega)), ?_⟩
  exact ⟨hz2.1, by rw [yv, ← hz2.2]⟩
set_option maxRecDepth 100000 in
set_option maxHeartbeats 2000000 in
theorem j_advance (l : Launch) (g : gE) (b0 : Nat) (f : gF) (v cd0 : Int) (a : Int) (hra : rI a) (hl9 : l.stackTraces = false) (hv0 : 0 ≤ v) (hv1 : v ≤ 20000000) (hI : lwI g b0 v cd0 f) : jI l g b0 f v yL_advance cL_advance 4 [(0, 9, 12, 13), (0, 9, 15, 15)] 8 182 1 yX9_advance cX9_advance 2 9 276 [.int (zI a)] := by
  obtain ⟨B, P, T, sc, pr, ex, ps, B2, P2, T2, sc2, pr2, ex2, ps2, sv, rs, cs, cr, rT, rL, hA, hS9, hx2, hsv, hcs, hcr, hL, htx, hC, hR, ⟨O, hO⟩, ⟨D, hD⟩⟩ := hI
  obtain ⟨hex, he0, hps, hpx, hp0, hpri, hpar, hok, hokB, hsc, htO, hrp⟩ := id hA
  obtain ⟨an, Tr, rC, rn, ra, rm, hOb, hSt8, hS2, hTr, hRd⟩ := id hC
  have hn1 : tRf P T sc ps 12 a 0 0 0 ≠ 1 := ref_n1 (by simp [nmP])
  have hX := c_X8_advance l g b0 622 f b0 B P T sc pr ex ps sv rs an cs cr a v hl9 hOb ⟨by omega, by omega⟩ hSt8 hex hps hpx hok hv0 (by omega) hsc hra
  have hH := c_L_advance l g b0 622 f b0 (b0 + 620) a O _ _ _ hX hOb ⟨by omega, by omega⟩ ⟨by omega, by omega⟩ hO (fun r fm hp => by exact hp.2.2.2.2 _ (by omega)) (fun E fm hp => by
      rcases hp.1 with ⟨h8, h9⟩ | ⟨h8, h9⟩ | ⟨h8, h9⟩
      · exact absurd h8 hn1
      · exact Or.inl h9
      · exact Or.inr (h9)
    )
  refine ⟨_, hH, fun k f1 hk => ?_⟩
  have hmid := hQ_mid (Q := fun cd f1 => mC g f1 b0 B (tP P T sc ps 12 a 0 0 0) (tT P T sc ps 12 a 0 0 0) (tS P T sc ps 12 a 0 0 0) pr ex ps B2 P2 T2 sc2 pr2 ex2 ps2 sv (tR P T sc ps 12 a 0 0 0 rs) cs cr rT rL) (R := fun cd => cd = (tld (tRf P T sc ps 12 a 0 0 0) 0 1 2)) (q := fun z => rI z ∧ zI z = zI (tAn P T sc ps 12 a 0 0 0)) hk ⟨O, hO⟩ (fun z fm hp => by
      obtain ⟨hz, q0, q1, q2, q3, q4⟩ := hp
      refine ⟨fun q h1 => q4 q (by omega), by unfold tld; rw [if_pos q0], ⟨hz, ?_⟩, fun f2 h2 => mC.kept ⟨_, Tr, rC, rn, ra, rm, q3, q2, hS2.kept (fun q h1 h2 => q4 q (by omega)), hTr.kept (fun q h1 h2 => q4 q (by omega)), hRd.kept (fun q h1 h2 => q4 q (by omega))⟩ (fun q _ h3 => h2 q (by omega))⟩
      rw [q1]
      unfold tA tAn
      rw [if_pos q0, if_pos q0]
    ) (fun i E hi hp => by
      rcases i with _ | _ | i
      · obtain rfl : exN0 = E := Option.some.inj hi
        obtain ⟨h8, q2, q3, q4⟩ := hp
        have h7 : tRf P T sc ps 12 a 0 0 0 = 2 := by
          rcases h8 with ⟨h8, h9⟩ | ⟨h8, h9⟩ | ⟨h8, h9⟩
          · exact absurd h9 (by decide)
          · exact h8
          · exact absurd h9 (by decide)
        exact ⟨fun q h1 => q4 q (by omega), by unfold tld; rw [h7]; rfl, ⟨_, Tr, rC, rn, ra, rm, q3, q2, hS2.kept (fun q h1 h2 => q4 q (by omega)), hTr.kept (fun q h1 h2 => q4 q (by omega)), hRd.kept (fun q h1 h2 => q4 q (by omega))⟩⟩
      · obtain rfl : exN1 = E := Option.some.inj hi
        obtain ⟨h8, q2, q3, q4⟩ := hp
        have h7 : 3 ≤ tRf P T sc ps 12 a 0 0 0 := by
          rcases h8 with ⟨h8, h9⟩ | ⟨h8, h9⟩ | ⟨h8, h9⟩
          · exact absurd h9 (by decide)
          · exact absurd h9 (by decide)
          · exact h8
        exact ⟨fun q h1 => q4 q (by omega), by unfold tld; rw [if_neg (by omega), if_neg (by omega), if_neg (by omega)]; rfl, ⟨_, Tr, rC, rn, ra, rm, q3, q2, hS2.kept (fun q h1 h2 => q4 q (by omega)), hTr.kept (fun q h1 h2 => q4 q (by omega)), hRd.kept (fun q h1 h2 => q4 q (by omega))⟩⟩
      · exact absurd hi (by simp)
    ) (by decide)
  obtain ⟨cd, hcd, rfl, hRc, hQ, hfr, ⟨O1, hO1⟩, hval⟩ := hmid
  have hRc : cd = (tld (tRf P T sc ps 12 a 0 0 0) 0 1 2) := hRc
  have hR1 := hR.kept (fun q h1 h2 => hfr q h1 (by omega))
  have hD1 := hD.kept (hfr (b0 + 621) (by omega) (by omega))
  obtain ⟨Z, M, M2, St, Mn, Pr, St2, Mn2, Pr2, In, C, z0, z1, z2, z3, z4, z5, z6, z7, z8, z9, z11, z12, zr, zs, ht⟩ := hR1
  refine ⟨⟨_, z0⟩, _, c_X9_advance l g b0 622 f1 (b0 + 607) Z M St Mn Pr B P T sc pr ex ps a v z0 ⟨by omega, by omega⟩ z1 z3 z4 z5 zr ht.2.2.2.1 hps hpx (fun k hk _ => hsc k hk) z9 (hok ps hps) hv0 (by omega) hra, fun r f2 hp => ?_⟩
  obtain ⟨M1, St1, Mn1, y1, y3, y4, yr, y0, yv, y9, yf⟩ := hp
  obtain ⟨w1, w2, w3⟩ := zSt_t (Z := Z) (aa := 294 * ps) (rf := tRf P T sc ps 12 a 0 0 0) (cd := (tld (tRf P T sc ps 12 a 0 0 0) 0 1 2))
  have ht9 := ht.step w1 w2 (rs1 := tR P T sc ps 12 a 0 0 0 rs) (by rw [w3]; unfold tR; split; exact ht.2.2.2.2.1; rfl)
  have hA9 := sOk_step (kd := 12) hA (by decide) hra rI_0 rI_0 rI_0 hv0 (by omega) (w := v + 33542) (by omega)
  have hmR : mR g f2 (b0 + 607) B (tP P T sc ps 12 a 0 0 0) (tT P T sc ps 12 a 0 0 0) (tS P T sc ps 12 a 0 0 0) pr ex ps B2 P2 T2 sc2 pr2 ex2 ps2 sv (tR P T sc ps 12 a 0 0 0 rs) cs cr rT rL (tld (tRf P T sc ps 12 a 0 0 0) 0 1 2) := ⟨_, _, _, _, _, _, _, _, _, _, _, y0, y1, z2.kept (yf _ (by omega)), y3, y4, z5.kept (yf _ (by omega)), z6.kept (yf _ (by omega)), z7.kept (yf _ (by omega)), z8.kept (yf _ (by omega)), y9, z11.kept (yf _ (by omega)), z12.kept (yf _ (by omega)), yr, zs, ht9⟩
  refine ⟨cd, hcd, rfl, ⟨B, (tP P T sc ps 12 a 0 0 0), (tT P T sc ps 12 a 0 0 0), (tS P T sc ps 12 a 0 0 0), pr, ex, ps, B2, P2, T2, sc2, pr2, ex2, ps2, sv, (tR P T sc ps 12 a 0 0 0 rs), cs, cr, rT, rL, hA9, (fun h9 => (hS9 h9).mono (by omega)), hx2, hsv, hcs, hcr, hL, htx, hQ.kept (fun q h1 h2 => yf q (by omega)), by rw [hRc]; exact hmR, ⟨_, hO1.kept (yf _ (by omega))⟩, ⟨_, hD1.kept (yf _ (by omega))⟩⟩, fun h0 => ?_⟩
  obtain ⟨z, hz1, hz2⟩ := hval h0
  refine ⟨z, hz1.kept (yf _ (by omega)), ?_⟩
  exact ⟨hz2.1, by rw [yv, ← hz2.2]⟩
