/-! the questions -/
abbrev rLg (z : Int) : Prop := rL z
theorem mov_same {M P : Nat → Int} {a : Nat} (h : ∀ i, i < 147 → M (a + i) = P i) (j : Nat) : mov M a P j = M j := by
  unfold mov
  split
  · rename_i q
    rw [← h (j - a) (by omega)]
    congr 1
    omega
  · rfl
set_option maxRecDepth 100000 in
set_option maxHeartbeats 2000000 in
theorem j_envelope (l : Launch) (g : gE) (b0 : Nat) (f : gF) (v cd0 : Int) (a : Int) (hra : rI a) (b : Int) (hrb : rI b) (hl9 : l.stackTraces = false) (hv0 : 0 ≤ v) (hv1 : v ≤ 20000000) (hI : lwI g b0 v cd0 f) : jL l g b0 f v yL_envelope cL_envelope 5 [(0, 9, 12, 20), (0, 9, 16, 13)] 8 125 2 yX9_envelope cX9_envelope 3 2 83 [.int (zI a), .int (zI b)] := by
  obtain ⟨B, P, T, sc, pr, ex, ps, B2, P2, T2, sc2, pr2, ex2, ps2, sv, rs, cs, cr, rT, rL, hA, hS9, hx2, hsv, hcs, hcr, hL, htx, hC, hR, ⟨O, hO⟩, ⟨D, hD⟩⟩ := hI
  obtain ⟨hex, he0, hps, hpx, hp0, hpri, hpar, hok, hokB, hsc, htO, hrp⟩ := id hA
  obtain ⟨an, Tr, rC, rn, ra, rm, hOb, hSt8, hS2, hTr, hRd⟩ := id hC
  have hX := c_X8_envelope l g b0 622 f b0 B P T sc pr ex ps sv rs an cs cr a b v hl9 hOb ⟨by omega, by omega⟩ hSt8 hex hps hpx hok hv0 (by omega) hra hrb
  have hH := c_L_envelope l g b0 622 f b0 (b0 + 620) a b O _ _ _ hX hOb ⟨by omega, by omega⟩ ⟨by omega, by omega⟩ hO (fun r fm hp => by obtain ⟨_, _, _, rfl⟩ := hp; rfl) (fun E fm hp => by
      obtain ⟨h8, _⟩ := hp
      rcases h8 with ⟨h9, _⟩ | ⟨h9, _⟩
      · exact Or.inl h9
      · exact Or.inr (h9)
    )
  refine ⟨_, hH, fun k f1 hk => ?_⟩
  have hmid := hQ_mid (Q := fun cd f1 => mC g f1 b0 B P T sc pr ex ps B2 P2 T2 sc2 pr2 ex2 ps2 sv rs cs cr rT rL) (R := fun cd => cd = (cd2 (0 ≤ a ∧ a < P ps 7) (0 ≤ b ∧ b ≤ 4))) (q := fun z => rLg z ∧ zL z = zL (sNumE (P ps) a.toNat b.toNat)) hk ⟨O, hO⟩ (fun z fm hp => by
      obtain ⟨hz, q1, q2, q8, rfl⟩ := hp
      exact ⟨fun q _ => rfl, by unfold cd2; rw [if_pos q1, if_pos q2], ⟨hz, q8⟩, fun f2 h2 => hC.kept (fun q _ h3 => h2 q (by omega))⟩
    ) (fun i E hi hp => by
      rcases i with _ | _ | i
      · obtain rfl : exN2 = E := Option.some.inj hi
        obtain ⟨h8, rfl⟩ := hp
        rcases h8 with ⟨h9, hn⟩ | ⟨h9, h0, hn⟩
        · exact ⟨fun q _ => rfl, by unfold cd2; rw [if_neg hn]; rfl, hC⟩
        · exact absurd h9 (by decide)
      · obtain rfl : exN0 = E := Option.some.inj hi
        obtain ⟨h8, rfl⟩ := hp
        rcases h8 with ⟨h9, hn⟩ | ⟨h9, h0, hn⟩
        · exact absurd h9 (by decide)
        · exact ⟨fun q _ => rfl, by unfold cd2; rw [if_pos h0, if_neg hn]; rfl, hC⟩
      · exact absurd hi (by simp)
    ) (by decide)
  obtain ⟨cd, hcd, rfl, hRc, hQ, hfr, ⟨O1, hO1⟩, hval⟩ := hmid
  have hRc : cd = (cd2 (0 ≤ a ∧ a < P ps 7) (0 ≤ b ∧ b ≤ 4)) := hRc
  have hR1 := hR.kept (fun q h1 h2 => hfr q h1 (by omega))
  have hD1 := hD.kept (hfr (b0 + 621) (by omega) (by omega))
  obtain ⟨Z, M, M2, St, Mn, Pr, St2, Mn2, Pr2, In, C, z0, z1, z2, z3, z4, z5, z6, z7, z8, z9, z11, z12, zr, zs, ht⟩ := hR1
  refine ⟨⟨_, z0⟩, _, c_X9_envelope l g b0 622 f1 (b0 + 607) Z M P ps a b v z0 (mpAt_of z1 (fun i hi => ((zr ps hps).1 hpx).1 i hi)) ⟨by omega, by omega⟩ z9 ht.2.2.2.1 hps (hok ps hps) hv0 (by omega) hra hrb, fun r f2 hp => ?_⟩
  obtain ⟨Z1, M1, y0, yk, yc, yv, y1, ym, y9, yf⟩ := hp
  have ht9 := ht.keep yk yc
  have yr := mRel_scr zr (fun j hj => (ym j hj).trans (mov_same (fun i hi => ((zr ps hps).1 hpx).1 i hi) j))
  have hmR : mR g f2 (b0 + 607) B P T sc pr ex ps B2 P2 T2 sc2 pr2 ex2 ps2 sv rs cs cr rT rL (cd2 (0 ≤ a ∧ a < P ps 7) (0 ≤ b ∧ b ≤ 4)) := ⟨_, _, _, _, _, _, _, _, _, _, _, y0, y1, z2.kept (yf _ (by omega)), z3.kept (yf _ (by omega)), z4.kept (yf _ (by omega)), z5.kept (yf _ (by omega)), z6.kept (yf _ (by omega)), z7.kept (yf _ (by omega)), z8.kept (yf _ (by omega)), y9, z11.kept (yf _ (by omega)), z12.kept (yf _ (by omega)), yr, zs, ht9⟩
  refine ⟨cd, hcd, rfl, ⟨B, P, T, sc, pr, ex, ps, B2, P2, T2, sc2, pr2, ex2, ps2, sv, rs, cs, cr, rT, rL, (hA.mono (by omega)), (fun h9 => (hS9 h9).mono (by omega)), hx2, hsv, hcs, hcr, hL, htx, hQ.kept (fun q h1 h2 => yf q (by omega)), by rw [hRc]; exact hmR, ⟨_, hO1.kept (yf _ (by omega))⟩, ⟨_, hD1.kept (yf _ (by omega))⟩⟩, fun h0 => ?_⟩
  obtain ⟨z, hz1, hz2⟩ := hval h0
  refine ⟨z, hz1.kept (yf _ (by omega)), ?_⟩
  exact ⟨hz2.1, by rw [yv (hRc.symm.trans h0), ← hz2.2]⟩
set_option maxRecDepth 100000 in
set_option maxHeartbeats 2000000 in
theorem j_rule (l : Launch) (g : gE) (b0 : Nat) (f : gF) (v cd0 : Int) (a : Int) (hra : rI a) (b : Int) (hrb : rI b) (hl9 : l.stackTraces = false) (hv0 : 0 ≤ v) (hv1 : v ≤ 20000000) (hI : lwI g b0 v cd0 f) : jI l g b0 f v yL_rule cL_rule 5 [(0, 10, 13, 20), (0, 10, 17, 13)] 8 125 2 yX9_rule cX9_rule 3 2 40 [.int (zI a), .int (zI b)] := by
  obtain ⟨B, P, T, sc, pr, ex, ps, B2, P2, T2, sc2, pr2, ex2, ps2, sv, rs, cs, cr, rT, rL, hA, hS9, hx2, hsv, hcs, hcr, hL, htx, hC, hR, ⟨O, hO⟩, ⟨D, hD⟩⟩ := hI
  obtain ⟨hex, he0, hps, hpx, hp0, hpri, hpar, hok, hokB, hsc, htO, hrp⟩ := id hA
  obtain ⟨an, Tr, rC, rn, ra, rm, hOb, hSt8, hS2, hTr, hRd⟩ := id hC
  have hX := c_X8_rule l g b0 622 f b0 B P T sc pr ex ps sv rs an cs cr a b v hl9 hOb ⟨by omega, by omega⟩ hSt8 hex hps hpx hok hv0 (by omega) hra hrb
  have hH := c_L_rule l g b0 622 f b0 (b0 + 620) a b O _ _ _ hX hOb ⟨by omega, by omega⟩ ⟨by omega, by omega⟩ hO (fun r fm hp => by obtain ⟨_, _, _, rfl⟩ := hp; rfl) (fun E fm hp => by
      obtain ⟨h8, _⟩ := hp
      rcases h8 with ⟨h9, _⟩ | ⟨h9, _⟩
      · exact Or.inl h9
      · exact Or.inr (h9)
    )
  refine ⟨_, hH, fun k f1 hk => ?_⟩
  have hmid := hQ_mid (Q := fun cd f1 => mC g f1 b0 B P T sc pr ex ps B2 P2 T2 sc2 pr2 ex2 ps2 sv rs cs cr rT rL) (R := fun cd => cd = (cd2 (0 ≤ a ∧ a < P ps 8) (0 ≤ b ∧ b ≤ 2))) (q := fun z => rI z ∧ zI z = zI (P ps (51 + 3 * a.toNat + b.toNat))) hk ⟨O, hO⟩ (fun z fm hp => by
      obtain ⟨hz, q1, q2, q8, rfl⟩ := hp
      exact ⟨fun q _ => rfl, by unfold cd2; rw [if_pos q1, if_pos q2], ⟨hz, q8⟩, fun f2 h2 => hC.kept (fun q _ h3 => h2 q (by omega))⟩
    ) (fun i E hi hp => by
      rcases i with _ | _ | i
      · obtain rfl : exN2 = E := Option.some.inj hi
        obtain ⟨h8, rfl⟩ := hp
        rcases h8 with ⟨h9, hn⟩ | ⟨h9, h0, hn⟩
        · exact ⟨fun q _ => rfl, by unfold cd2; rw [if_neg hn]; rfl, hC⟩
        · exact absurd h9 (by decide)
      · obtain rfl : exN0 = E := Option.some.inj hi
        obtain ⟨h8, rfl⟩ := hp
        rcases h8 with ⟨h9, hn⟩ | ⟨h9, h0, hn⟩
        · exact absurd h9 (by decide)
        · exact ⟨fun q _ => rfl, by unfold cd2; rw [if_pos h0, if_neg hn]; rfl, hC⟩
      · exact absurd hi (by simp)
    ) (by decide)
  obtain ⟨cd, hcd, rfl, hRc, hQ, hfr, ⟨O1, hO1⟩, hval⟩ := hmid
  have hRc : cd = (cd2 (0 ≤ a ∧ a < P ps 8) (0 ≤ b ∧ b ≤ 2)) := hRc
  have hR1 := hR.kept (fun q h1 h2 => hfr q h1 (by omega))
  have hD1 := hD.kept (hfr (b0 + 621) (by omega) (by omega))
  obtain ⟨Z, M, M2, St, Mn, Pr, St2, Mn2, Pr2, In, C, z0, z1, z2, z3, z4, z5, z6, z7, z8, z9, z11, z12, zr, zs, ht⟩ := hR1
  refine ⟨⟨_, z0⟩, _, c_X9_rule l g b0 622 f1 (b0 + 607) Z M P ps a b v z0 (mpAt_of z1 (fun i hi => ((zr ps hps).1 hpx).1 i hi)) ⟨by omega, by omega⟩ z9 ht.2.2.2.1 hps (hok ps hps) hv0 (by omega) hra hrb, fun r f2 hp => ?_⟩
  obtain ⟨Z1, M1, y0, yk, yc, yv, y1, ym, y9, yf⟩ := hp
  have ht9 := ht.keep yk yc
  have yr := mRel_scr zr (fun j hj => (ym j hj).trans (mov_same (fun i hi => ((zr ps hps).1 hpx).1 i hi) j))
  have hmR : mR g f2 (b0 + 607) B P T sc pr ex ps B2 P2 T2 sc2 pr2 ex2 ps2 sv rs cs cr rT rL (cd2 (0 ≤ a ∧ a < P ps 8) (0 ≤ b ∧ b ≤ 2)) := ⟨_, _, _, _, _, _, _, _, _, _, _, y0, y1, z2.kept (yf _ (by omega)), z3.kept (yf _ (by omega)), z4.kept (yf _ (by omega)), z5.kept (yf _ (by omega)), z6.kept (yf _ (by omega)), z7.kept (yf _ (by omega)), z8.kept (yf _ (by omega)), y9, z11.kept (yf _ (by omega)), z12.kept (yf _ (by omega)), yr, zs, ht9⟩
  refine ⟨cd, hcd, rfl, ⟨B, P, T, sc, pr, ex, ps, B2, P2, T2, sc2, pr2, ex2, ps2, sv, rs, cs, cr, rT, rL, (hA.mono (by omega)), (fun h9 => (hS9 h9).mono (by omega)), hx2, hsv, hcs, hcr, hL, htx, hQ.kept (fun q h1 h2 => yf q (by omega)), by rw [hRc]; exact hmR, ⟨_, hO1.kept (yf _ (by omega))⟩, ⟨_, hD1.kept (yf _ (by omega))⟩⟩, fun h0 => ?_⟩
  obtain ⟨z, hz1, hz2⟩ := hval h0
  refine ⟨z, hz1.kept (yf _ (by omega)), ?_⟩
  exact ⟨hz2.1, by rw [yv (hRc.symm.trans h0), ← hz2.2]⟩
set_option maxRecDepth 100000 in
set_option maxHeartbeats 2000000 in
theorem j_link (l : Launch) (g : gE) (b0 : Nat) (f : gF) (v cd0 : Int) (a : Int) (hra : rI a) (b : Int) (hrb : rI b) (hl9 : l.stackTraces = false) (hv0 : 0 ≤ v) (hv1 : v ≤ 20000000) (hI : lwI g b0 v cd0 f) : jL l g b0 f v yL_link cL_link 5 [(0, 9, 12, 20), (0, 9, 16, 13)] 8 125 2 yX9_link cX9_link 3 2 40 [.int (zI a), .int (zI b)] := by
  obtain ⟨B, P, T, sc, pr, ex, ps, B2, P2, T2, sc2, pr2, ex2, ps2, sv, rs, cs, cr, rT, rL, hA, hS9, hx2, hsv, hcs, hcr, hL, htx, hC, hR, ⟨O, hO⟩, ⟨D, hD⟩⟩ := hI
  obtain ⟨hex, he0, hps, hpx, hp0, hpri, hpar, hok, hokB, hsc, htO, hrp⟩ := id hA
  obtain ⟨an, Tr, rC, rn, ra, rm, hOb, hSt8, hS2, hTr, hRd⟩ := id hC
  have hX := c_X8_link l g b0 622 f b0 B P T sc pr ex ps sv rs an cs cr a b v hl9 hOb ⟨by omega, by omega⟩ hSt8 hex hps hpx hok hv0 (by omega) hra hrb
  have hH := c_L_link l g b0 622 f b0 (b0 + 620) a b O _ _ _ hX hOb ⟨by omega, by omega⟩ ⟨by omega, by omega⟩ hO (fun r fm hp => by obtain ⟨_, _, _, rfl⟩ := hp; rfl) (fun E fm hp => by
      obtain ⟨h8, _⟩ := hp
      rcases h8 with ⟨h9, _⟩ | ⟨h9, _⟩
      · exact Or.inl h9
      · exact Or.inr (h9)
    )
  refine ⟨_, hH, fun k f1 hk => ?_⟩
  have hmid := hQ_mid (Q := fun cd f1 => mC g f1 b0 B P T sc pr ex ps B2 P2 T2 sc2 pr2 ex2 ps2 sv rs cs cr rT rL) (R := fun cd => cd = (cd2 (0 ≤ a ∧ a < P ps 9) (0 ≤ b ∧ b ≤ 4))) (q := fun z => rLg z ∧ zL z = zL (P ps (69 + 5 * a.toNat + b.toNat))) hk ⟨O, hO⟩ (fun z fm hp => by
      obtain ⟨hz, q1, q2, q8, rfl⟩ := hp
      exact ⟨fun q _ => rfl, by unfold cd2; rw [if_pos q1, if_pos q2], ⟨hz, q8⟩, fun f2 h2 => hC.kept (fun q _ h3 => h2 q (by omega))⟩
    ) (fun i E hi hp => by
      rcases i with _ | _ | i
      · obtain rfl : exN2 = E := Option.some.inj hi
        obtain ⟨h8, rfl⟩ := hp
        rcases h8 with ⟨h9, hn⟩ | ⟨h9, h0, hn⟩
        · exact ⟨fun q _ => rfl, by unfold cd2; rw [if_neg hn]; rfl, hC⟩
        · exact absurd h9 (by decide)
      · obtain rfl : exN0 = E := Option.some.inj hi
        obtain ⟨h8, rfl⟩ := hp
        rcases h8 with ⟨h9, hn⟩ | ⟨h9, h0, hn⟩
        · exact absurd h9 (by decide)
        · exact ⟨fun q _ => rfl, by unfold cd2; rw [if_pos h0, if_neg hn]; rfl, hC⟩
      · exact absurd hi (by simp)
    ) (by decide)
  obtain ⟨cd, hcd, rfl, hRc, hQ, hfr, ⟨O1, hO1⟩, hval⟩ := hmid
  have hRc : cd = (cd2 (0 ≤ a ∧ a < P ps 9) (0 ≤ b ∧ b ≤ 4)) := hRc
  have hR1 := hR.kept (fun q h1 h2 => hfr q h1 (by omega))
  have hD1 := hD.kept (hfr (b0 + 621) (by omega) (by omega))
  obtain ⟨Z, M, M2, St, Mn, Pr, St2, Mn2, Pr2, In, C, z0, z1, z2, z3, z4, z5, z6, z7, z8, z9, z11, z12, zr, zs, ht⟩ := hR1
  refine ⟨⟨_, z0⟩, _, c_X9_link l g b0 622 f1 (b0 + 607) Z M P ps a b v z0 (mpAt_of z1 (fun i hi => ((zr ps hps).1 hpx).1 i hi)) ⟨by omega, by omega⟩ z9 ht.2.2.2.1 hps (hok ps hps) hv0 (by omega) hra hrb, fun r f2 hp => ?_⟩
  obtain ⟨Z1, M1, y0, yk, yc, yv, y1, ym, y9, yf⟩ := hp
  have ht9 := ht.keep yk yc
  have yr := mRel_scr zr (fun j hj => (ym j hj).trans (mov_same (fun i hi => ((zr ps hps).1 hpx).1 i hi) j))
  have hmR : mR g f2 (b0 + 607) B P T sc pr ex ps B2 P2 T2 sc2 pr2 ex2 ps2 sv rs cs cr rT rL (cd2 (0 ≤ a ∧ a < P ps 9) (0 ≤ b ∧ b ≤ 4)) := ⟨_, _, _, _, _, _, _, _, _, _, _, y0, y1, z2.kept (yf _ (by omega)), z3.kept (yf _ (by omega)), z4.kept (yf _ (by omega)), z5.kept (yf _ (by omega)), z6.kept (yf _ (by omega)), z7.kept (yf _ (by omega)), z8.kept (yf _ (by omega)), y9, z11.kept (yf _ (by omega)), z12.kept (yf _ (by omega)), yr, zs, ht9⟩
  refine ⟨cd, hcd, rfl, ⟨B, P, T, sc, pr, ex, ps, B2, P2, T2, sc2, pr2, ex2, ps2, sv, rs, cs, cr, rT, rL, (hA.mono (by omega)), (fun h9 => (hS9 h9).mono (by omega)), hx2, hsv, hcs, hcr, hL, htx, hQ.kept (fun q h1 h2 => yf q (by omega)), by rw [hRc]; exact hmR, ⟨_, hO1.kept (yf _ (by omega))⟩, ⟨_, hD1.kept (yf _ (by omega))⟩⟩, fun h0 => ?_⟩
  obtain ⟨z, hz1, hz2⟩ := hval h0
  refine ⟨z, hz1.kept (yf _ (by omega)), ?_⟩
  exact ⟨hz2.1, by rw [yv (hRc.symm.trans h0), ← hz2.2]⟩
set_option maxRecDepth 100000 in
set_option maxHeartbeats 2000000 in
theorem j_item (l : Launch) (g : gE) (b0 : Nat) (f : gF) (v cd0 : Int) (a : Int) (hra : rI a) (b : Int) (hrb : rI b) (hl9 : l.stackTraces = false) (hv0 : 0 ≤ v) (hv1 : v ≤ 20000000) (hI : lwI g b0 v cd0 f) : jI l g b0 f v yL_item cL_item 5 [(0, 10, 13, 20), (0, 10, 17, 13)] 8 125 2 yX9_item_ cX9_item_ 3 2 40 [.int (zI a), .int (zI b)] := by
  obtain ⟨B, P, T, sc, pr, ex, ps, B2, P2, T2, sc2, pr2, ex2, ps2, sv, rs, cs, cr, rT, rL, hA, hS9, hx2, hsv, hcs, hcr, hL, htx, hC, hR, ⟨O, hO⟩, ⟨D, hD⟩⟩ := hI
  obtain ⟨hex, he0, hps, hpx, hp0, hpri, hpar, hok, hokB, hsc, htO, hrp⟩ := id hA
  obtain ⟨an, Tr, rC, rn, ra, rm, hOb, hSt8, hS2, hTr, hRd⟩ := id hC
  have hX := c_X8_item l g b0 622 f b0 B P T sc pr ex ps sv rs an cs cr a b v hl9 hOb ⟨by omega, by omega⟩ hSt8 hex hps hpx hok hv0 (by omega) hra hrb
  have hH := c_L_item l g b0 622 f b0 (b0 + 620) a b O _ _ _ hX hOb ⟨by omega, by omega⟩ ⟨by omega, by omega⟩ hO (fun r fm hp => by obtain ⟨_, _, _, rfl⟩ := hp; rfl) (fun E fm hp => by
      obtain ⟨h8, _⟩ := hp
      rcases h8 with ⟨h9, _⟩ | ⟨h9, _⟩
      · exact Or.inl h9
      · exact Or.inr (h9)
    )
  refine ⟨_, hH, fun k f1 hk => ?_⟩
  have hmid := hQ_mid (Q := fun cd f1 => mC g f1 b0 B P T sc pr ex ps B2 P2 T2 sc2 pr2 ex2 ps2 sv rs cs cr rT rL) (R := fun cd => cd = (cd2 (0 ≤ a ∧ a < P ps 10) (0 ≤ b ∧ b ≤ 5))) (q := fun z => rI z ∧ zI z = zI (P ps (99 + 6 * a.toNat + b.toNat))) hk ⟨O, hO⟩ (fun z fm hp => by
      obtain ⟨hz, q1, q2, q8, rfl⟩ := hp
      exact ⟨fun q _ => rfl, by unfold cd2; rw [if_pos q1, if_pos q2], ⟨hz, q8⟩, fun f2 h2 => hC.kept (fun q _ h3 => h2 q (by omega))⟩
    ) (fun i E hi hp => by
      rcases i with _ | _ | i
      · obtain rfl : exN2 = E := Option.some.inj hi
        obtain ⟨h8, rfl⟩ := hp
        rcases h8 with ⟨h9, hn⟩ | ⟨h9, h0, hn⟩
        · exact ⟨fun q _ => rfl, by unfold cd2; rw [if_neg hn]; rfl, hC⟩
        · exact absurd h9 (by decide)
      · obtain rfl : exN0 = E := Option.some.inj hi
        obtain ⟨h8, rfl⟩ := hp
        rcases h8 with ⟨h9, hn⟩ | ⟨h9, h0, hn⟩
        · exact absurd h9 (by decide)
        · exact ⟨fun q _ => rfl, by unfold cd2; rw [if_pos h0, if_neg hn]; rfl, hC⟩
      · exact absurd hi (by simp)
    ) (by decide)
  obtain ⟨cd, hcd, rfl, hRc, hQ, hfr, ⟨O1, hO1⟩, hval⟩ := hmid
  have hRc : cd = (cd2 (0 ≤ a ∧ a < P ps 10) (0 ≤ b ∧ b ≤ 5)) := hRc
  have hR1 := hR.kept (fun q h1 h2 => hfr q h1 (by omega))
  have hD1 := hD.kept (hfr (b0 + 621) (by omega) (by omega))
  obtain ⟨Z, M, M2, St, Mn, Pr, St2, Mn2, Pr2, In, C, z0, z1, z2, z3, z4, z5, z6, z7, z8, z9, z11, z12, zr, zs, ht⟩ := hR1
  refine ⟨⟨_, z0⟩, _, c_X9_item_ l g b0 622 f1 (b0 + 607) Z M P ps a b v z0 (mpAt_of z1 (fun i hi => ((zr ps hps).1 hpx).1 i hi)) ⟨by omega, by omega⟩ z9 ht.2.2.2.1 hps (hok ps hps) hv0 (by omega) hra hrb, fun r f2 hp => ?_⟩
  obtain ⟨Z1, M1, y0, yk, yc, yv, y1, ym, y9, yf⟩ := hp
  have ht9 := ht.keep yk yc
  have yr := mRel_scr zr (fun j hj => (ym j hj).trans (mov_same (fun i hi => ((zr ps hps).1 hpx).1 i hi) j))
  have hmR : mR g f2 (b0 + 607) B P T sc pr ex ps B2 P2 T2 sc2 pr2 ex2 ps2 sv rs cs cr rT rL (cd2 (0 ≤ a ∧ a < P ps 10) (0 ≤ b ∧ b ≤ 5)) := ⟨_, _, _, _, _, _, _, _, _, _, _, y0, y1, z2.kept (yf _ (by omega)), z3.kept (yf _ (by omega)), z4.kept (yf _ (by omega)), z5.kept (yf _ (by omega)), z6.kept (yf _ (by omega)), z7.kept (yf _ (by omega)), z8.kept (yf _ (by omega)), y9, z11.kept (yf _ (by omega)), z12.kept (yf _ (by omega)), yr, zs, ht9⟩
  refine ⟨cd, hcd, rfl, ⟨B, P, T, sc, pr, ex, ps, B2, P2, T2, sc2, pr2, ex2, ps2, sv, rs, cs, cr, rT, rL, (hA.mono (by omega)), (fun h9 => (hS9 h9).mono (by omega)), hx2, hsv, hcs, hcr, hL, htx, hQ.kept (fun q h1 h2 => yf q (by omega)), by rw [hRc]; exact hmR, ⟨_, hO1.kept (yf _ (by omega))⟩, ⟨_, hD1.kept (yf _ (by omega))⟩⟩, fun h0 => ?_⟩
  obtain ⟨z, hz1, hz2⟩ := hval h0
  refine ⟨z, hz1.kept (yf _ (by omega)), ?_⟩
  exact ⟨hz2.1, by rw [yv (hRc.symm.trans h0), ← hz2.2]⟩
set_option maxRecDepth 100000 in
set_option maxHeartbeats 2000000 in
theorem j_total (l : Launch) (g : gE) (b0 : Nat) (f : gF) (v cd0 : Int) (a : Int) (hra : rI a) (hl9 : l.stackTraces = false) (hv0 : 0 ≤ v) (hv1 : v ≤ 20000000) (hI : lwI g b0 v cd0 f) : jL l g b0 f v yL_total cL_total 4 [(0, 8, 11, 13)] 8 123 1 yX9_total cX9_total 2 3 65 [.int (zI a)] := by
  obtain ⟨B, P, T, sc, pr, ex, ps, B2, P2, T2, sc2, pr2, ex2, ps2, sv, rs, cs, cr, rT, rL, hA, hS9, hx2, hsv, hcs, hcr, hL, htx, hC, hR, ⟨O, hO⟩, ⟨D, hD⟩⟩ := hI
  obtain ⟨hex, he0, hps, hpx, hp0, hpri, hpar, hok, hokB, hsc, htO, hrp⟩ := id hA
  obtain ⟨an, Tr, rC, rn, ra, rm, hOb, hSt8, hS2, hTr, hRd⟩ := id hC
  have hX := c_X8_total l g b0 622 f b0 B P T sc pr ex ps sv rs an cs cr a v hl9 hOb ⟨by omega, by omega⟩ hSt8 hex hps hpx hok hv0 (by omega) hra
  have hH := c_L_total l g b0 622 f b0 (b0 + 620) a O _ _ _ hX hOb ⟨by omega, by omega⟩ ⟨by omega, by omega⟩ hO (fun r fm hp => by obtain ⟨_, _, rfl⟩ := hp; rfl) (fun E fm hp => by
      exact hp.1
    )
  refine ⟨_, hH, fun k f1 hk => ?_⟩
  have hmid := hQ_mid (Q := fun cd f1 => mC g f1 b0 B P T sc pr ex ps B2 P2 T2 sc2 pr2 ex2 ps2 sv rs cs cr rT rL) (R := fun cd => cd = (cd1 (0 ≤ a ∧ a ≤ 11))) (q := fun z => rLg z ∧ zL z = zL (sTt (P ps) a.toNat)) hk ⟨O, hO⟩ (fun z fm hp => by
      obtain ⟨hz, q1, q8, rfl⟩ := hp
      exact ⟨fun q _ => rfl, by unfold cd1; rw [if_pos q1], ⟨hz, q8⟩, fun f2 h2 => hC.kept (fun q _ h3 => h2 q (by omega))⟩
    ) (fun i E hi hp => by
      rcases i with _ | i
      · obtain rfl : exN0 = E := Option.some.inj hi
        obtain ⟨h9, hn, rfl⟩ := hp
        exact ⟨fun q _ => rfl, by unfold cd1; rw [if_neg hn]; rfl, hC⟩
      · exact absurd hi (by simp)
    ) (by decide)
  obtain ⟨cd, hcd, rfl, hRc, hQ, hfr, ⟨O1, hO1⟩, hval⟩ := hmid
  have hRc : cd = (cd1 (0 ≤ a ∧ a ≤ 11)) := hRc
  have hR1 := hR.kept (fun q h1 h2 => hfr q h1 (by omega))
  have hD1 := hD.kept (hfr (b0 + 621) (by omega) (by omega))
  obtain ⟨Z, M, M2, St, Mn, Pr, St2, Mn2, Pr2, In, C, z0, z1, z2, z3, z4, z5, z6, z7, z8, z9, z11, z12, zr, zs, ht⟩ := hR1
  refine ⟨⟨_, z0⟩, _, c_X9_total l g b0 622 f1 (b0 + 607) Z M P ps a v z0 (mpAt_of z1 (fun i hi => ((zr ps hps).1 hpx).1 i hi)) ⟨by omega, by omega⟩ z9 ht.2.2.2.1 hps (hok ps hps) hv0 (by omega) hra, fun r f2 hp => ?_⟩
  obtain ⟨Z1, M1, y0, yk, yc, yv, y1, ym, y9, yf⟩ := hp
  have ht9 := ht.keep yk yc
  have yr := mRel_scr zr (fun j hj => (ym j hj).trans (mov_same (fun i hi => ((zr ps hps).1 hpx).1 i hi) j))
  have hmR : mR g f2 (b0 + 607) B P T sc pr ex ps B2 P2 T2 sc2 pr2 ex2 ps2 sv rs cs cr rT rL (cd1 (0 ≤ a ∧ a ≤ 11)) := ⟨_, _, _, _, _, _, _, _, _, _, _, y0, y1, z2.kept (yf _ (by omega)), z3.kept (yf _ (by omega)), z4.kept (yf _ (by omega)), z5.kept (yf _ (by omega)), z6.kept (yf _ (by omega)), z7.kept (yf _ (by omega)), z8.kept (yf _ (by omega)), y9, z11.kept (yf _ (by omega)), z12.kept (yf _ (by omega)), yr, zs, ht9⟩
  refine ⟨cd, hcd, rfl, ⟨B, P, T, sc, pr, ex, ps, B2, P2, T2, sc2, pr2, ex2, ps2, sv, rs, cs, cr, rT, rL, (hA.mono (by omega)), (fun h9 => (hS9 h9).mono (by omega)), hx2, hsv, hcs, hcr, hL, htx, hQ.kept (fun q h1 h2 => yf q (by omega)), by rw [hRc]; exact hmR, ⟨_, hO1.kept (yf _ (by omega))⟩, ⟨_, hD1.kept (yf _ (by omega))⟩⟩, fun h0 => ?_⟩
  obtain ⟨z, hz1, hz2⟩ := hval h0
  refine ⟨z, hz1.kept (yf _ (by omega)), ?_⟩
  exact ⟨hz2.1, by rw [yv (hRc.symm.trans h0), ← hz2.2]⟩
set_option maxRecDepth 100000 in
set_option maxHeartbeats 2000000 in
theorem j_split (l : Launch) (g : gE) (b0 : Nat) (f : gF) (v cd0 : Int) (a : Int) (hra : rI a) (b : Int) (hrb : rI b) (hl9 : l.stackTraces = false) (hv0 : 0 ≤ v) (hv1 : v ≤ 20000000) (hI : lwI g b0 v cd0 f) : jI l g b0 f v yL_split cL_split 5 [(0, 10, 13, 20), (0, 10, 17, 13)] 8 125 2 yX9_split cX9_split 7 5 172 [.int (zI a), .int (zI b)] := by
  obtain ⟨B, P, T, sc, pr, ex, ps, B2, P2, T2, sc2, pr2, ex2, ps2, sv, rs, cs, cr, rT, rL, hA, hS9, hx2, hsv, hcs, hcr, hL, htx, hC, hR, ⟨O, hO⟩, ⟨D, hD⟩⟩ := hI
  obtain ⟨hex, he0, hps, hpx, hp0, hpri, hpar, hok, hokB, hsc, htO, hrp⟩ := id hA
  obtain ⟨an, Tr, rC, rn, ra, rm, hOb, hSt8, hS2, hTr, hRd⟩ := id hC
  have hX := c_X8_split l g b0 622 f b0 B P T sc pr ex ps sv rs an cs cr Tr a b v hl9 hOb ⟨by omega, by omega⟩ hSt8 hex hps hpx hTr hok hv0 (by omega) hra hrb
  have hH := c_L_split l g b0 622 f b0 (b0 + 620) a b O _ _ _ hX hOb ⟨by omega, by omega⟩ ⟨by omega, by omega⟩ hO (fun r fm hp => by obtain ⟨_, _, _, _, o⟩ := hp; exact o _ (by omega)) (fun E fm hp => by
      obtain ⟨h8, _⟩ := hp
      rcases h8 with ⟨h9, _⟩ | ⟨h9, _⟩
      · exact Or.inl h9
      · exact Or.inr (h9)
    )
  refine ⟨_, hH, fun k f1 hk => ?_⟩
  have hmid := hQ_mid (Q := fun cd f1 => mC g f1 b0 B P T sc pr ex ps B2 P2 T2 sc2 pr2 ex2 ps2 sv rs cs cr rT rL) (R := fun cd => cd = (cd2 (a = -1 ∨ (0 ≤ a ∧ a < P ps 7)) (1 ≤ b ∧ b ≤ 1000000))) (q := fun z => rI z ∧ zI z = zI (sMon (sInc (P ps) b).2 a - sMon (P ps) a)) hk ⟨O, hO⟩ (fun z fm hp => by
      obtain ⟨hz, q1, q2, q8, ⟨Tr1, ht1⟩, o⟩ := hp
      refine ⟨fun q h1 => o q (by omega), by unfold cd2; rw [if_pos q1, if_pos q2], ⟨hz, q8⟩, fun f2 h2 => mC.kept ⟨an, Tr1, rC, rn, ra, rm, hOb.kept (o _ (by omega)), hSt8.kept (fun q h1 h2 => o q (by omega)), hS2.kept (fun q h1 h2 => o q (by omega)), ht1, hRd.kept (fun q h1 h2 => o q (by omega))⟩ (fun q _ h3 => h2 q (by omega))⟩
    ) (fun i E hi hp => by
      rcases i with _ | _ | i
      · obtain rfl : exN2 = E := Option.some.inj hi
        obtain ⟨h8, rfl⟩ := hp
        rcases h8 with ⟨h9, hn⟩ | ⟨h9, h0, hn⟩
        · exact ⟨fun q _ => rfl, by unfold cd2; rw [if_neg hn]; rfl, hC⟩
        · exact absurd h9 (by decide)
      · obtain rfl : exN0 = E := Option.some.inj hi
        obtain ⟨h8, rfl⟩ := hp
        rcases h8 with ⟨h9, hn⟩ | ⟨h9, h0, hn⟩
        · exact absurd h9 (by decide)
        · exact ⟨fun q _ => rfl, by unfold cd2; rw [if_pos h0, if_neg hn]; rfl, hC⟩
      · exact absurd hi (by simp)
    ) (by decide)
  obtain ⟨cd, hcd, rfl, hRc, hQ, hfr, ⟨O1, hO1⟩, hval⟩ := hmid
  have hRc : cd = (cd2 (a = -1 ∨ (0 ≤ a ∧ a < P ps 7)) (1 ≤ b ∧ b ≤ 1000000)) := hRc
  have hR1 := hR.kept (fun q h1 h2 => hfr q h1 (by omega))
  have hD1 := hD.kept (hfr (b0 + 621) (by omega) (by omega))
  obtain ⟨Z, M, M2, St, Mn, Pr, St2, Mn2, Pr2, In, C, z0, z1, z2, z3, z4, z5, z6, z7, z8, z9, z11, z12, zr, zs, ht⟩ := hR1
  refine ⟨⟨_, z0⟩, _, c_X9_split l g b0 622 f1 (b0 + 607) Z M P ps a b v z0 (mpAt_of z1 (fun i hi => ((zr ps hps).1 hpx).1 i hi)) ⟨by omega, by omega⟩ z9 ht.2.2.2.1 hps (hok ps hps) hv0 (by omega) hra hrb, fun r f2 hp => ?_⟩
  obtain ⟨Z1, M1, y0, yk, yc, yv, y1, ym, y9, yf⟩ := hp
  have ht9 := ht.keep yk yc
  have yr := mRel_scr zr (fun j hj => (ym j hj).trans (mov_same (fun i hi => ((zr ps hps).1 hpx).1 i hi) j))
  have hmR : mR g f2 (b0 + 607) B P T sc pr ex ps B2 P2 T2 sc2 pr2 ex2 ps2 sv rs cs cr rT rL (cd2 (a = -1 ∨ (0 ≤ a ∧ a < P ps 7)) (1 ≤ b ∧ b ≤ 1000000)) := ⟨_, _, _, _, _, _, _, _, _, _, _, y0, y1, z2.kept (yf _ (by omega)), z3.kept (yf _ (by omega)), z4.kept (yf _ (by omega)), z5.kept (yf _ (by omega)), z6.kept (yf _ (by omega)), z7.kept (yf _ (by omega)), z8.kept (yf _ (by omega)), y9, z11.kept (yf _ (by omega)), z12.kept (yf _ (by omega)), yr, zs, ht9⟩
  refine ⟨cd, hcd, rfl, ⟨B, P, T, sc, pr, ex, ps, B2, P2, T2, sc2, pr2, ex2, ps2, sv, rs, cs, cr, rT, rL, (hA.mono (by omega)), (fun h9 => (hS9 h9).mono (by omega)), hx2, hsv, hcs, hcr, hL, htx, hQ.kept (fun q h1 h2 => yf q (by omega)), by rw [hRc]; exact hmR, ⟨_, hO1.kept (yf _ (by omega))⟩, ⟨_, hD1.kept (yf _ (by omega))⟩⟩, fun h0 => ?_⟩
  obtain ⟨z, hz1, hz2⟩ := hval h0
  refine ⟨z, hz1.kept (yf _ (by omega)), ?_⟩
  exact ⟨hz2.1, by rw [yv (hRc.symm.trans h0), ← hz2.2]⟩
set_option maxRecDepth 100000 in
set_option maxHeartbeats 2000000 in
theorem j_forecast (l : Launch) (g : gE) (b0 : Nat) (f : gF) (v cd0 : Int) (a : Int) (hra : rI a) (b : Int) (hrb : rI b) (hl9 : l.stackTraces = false) (hv0 : 0 ≤ v) (hv1 : v ≤ 20000000) (hI : lwI g b0 v cd0 f) : jL l g b0 f v yL_forecast cL_forecast 5 [(0, 9, 12, 13)] 8 134 1 yX9_forecast cX9_forecast 10 7 221 [.int (zI a), .int (zI b)] := by
  obtain ⟨B, P, T, sc, pr, ex, ps, B2, P2, T2, sc2, pr2, ex2, ps2, sv, rs, cs, cr, rT, rL, hA, hS9, hx2, hsv, hcs, hcr, hL, htx, hC, hR, ⟨O, hO⟩, ⟨D, hD⟩⟩ := hI
  obtain ⟨hex, he0, hps, hpx, hp0, hpri, hpar, hok, hokB, hsc, htO, hrp⟩ := id hA
  obtain ⟨an, Tr, rC, rn, ra, rm, hOb, hSt8, hS2, hTr, hRd⟩ := id hC
  have hX := c_X8_forecast l g b0 622 f b0 B P T sc pr ex ps sv rs an cs cr Tr a b v hl9 hOb ⟨by omega, by omega⟩ hSt8 hex hps hpx hTr hok hv0 (by omega) hra hrb
  have hH := c_L_forecast l g b0 622 f b0 (b0 + 620) a b O _ _ _ hX hOb ⟨by omega, by omega⟩ ⟨by omega, by omega⟩ hO (fun r fm hp => by obtain ⟨_, _, _, o⟩ := hp; exact o _ (by omega)) (fun E fm hp => by
      exact hp.1
    )
  refine ⟨_, hH, fun k f1 hk => ?_⟩
  have hmid := hQ_mid (Q := fun cd f1 => mC g f1 b0 B P T sc pr ex ps B2 P2 T2 sc2 pr2 ex2 ps2 sv rs cs cr rT rL) (R := fun cd => cd = (cd1 ((1 ≤ a ∧ a ≤ 200) ∧ (0 ≤ b ∧ b ≤ 9)))) (q := fun z => rLg z ∧ zL z = zL (fcV (P ps) a.toNat b.toNat)) hk ⟨O, hO⟩ (fun z fm hp => by
      obtain ⟨hz, q1, q8, ⟨Tr1, ht1⟩, o⟩ := hp
      refine ⟨fun q h1 => o q (by omega), by unfold cd1; rw [if_pos q1], ⟨hz, q8⟩, fun f2 h2 => mC.kept ⟨an, Tr1, rC, rn, ra, rm, hOb.kept (o _ (by omega)), hSt8.kept (fun q h1 h2 => o q (by omega)), hS2.kept (fun q h1 h2 => o q (by omega)), ht1, hRd.kept (fun q h1 h2 => o q (by omega))⟩ (fun q _ h3 => h2 q (by omega))⟩
    ) (fun i E hi hp => by
      rcases i with _ | i
      · obtain rfl : exN0 = E := Option.some.inj hi
        obtain ⟨h9, hn, rfl⟩ := hp
        exact ⟨fun q _ => rfl, by unfold cd1; rw [if_neg hn]; rfl, hC⟩
      · exact absurd hi (by simp)
    ) (by decide)
  obtain ⟨cd, hcd, rfl, hRc, hQ, hfr, ⟨O1, hO1⟩, hval⟩ := hmid
  have hRc : cd = (cd1 ((1 ≤ a ∧ a ≤ 200) ∧ (0 ≤ b ∧ b ≤ 9))) := hRc
  have hR1 := hR.kept (fun q h1 h2 => hfr q h1 (by omega))
  have hD1 := hD.kept (hfr (b0 + 621) (by omega) (by omega))
  obtain ⟨Z, M, M2, St, Mn, Pr, St2, Mn2, Pr2, In, C, z0, z1, z2, z3, z4, z5, z6, z7, z8, z9, z11, z12, zr, zs, ht⟩ := hR1
  refine ⟨⟨_, z0⟩, _, c_X9_forecast l g b0 622 f1 (b0 + 607) Z M P ps a b v z0 (mpAt_of z1 (fun i hi => ((zr ps hps).1 hpx).1 i hi)) ⟨by omega, by omega⟩ z9 ht.2.2.2.1 hps (hok ps hps) hv0 (by omega) hra hrb, fun r f2 hp => ?_⟩
  obtain ⟨Z1, M1, y0, yk, yc, yv, y1, ym, y9, yf⟩ := hp
  have ht9 := ht.keep yk yc
  have yr := mRel_scr zr (fun j hj => (ym j hj).trans (mov_same (fun i hi => ((zr ps hps).1 hpx).1 i hi) j))
  have hmR : mR g f2 (b0 + 607) B P T sc pr ex ps B2 P2 T2 sc2 pr2 ex2 ps2 sv rs cs cr rT rL (cd1 ((1 ≤ a ∧ a ≤ 200) ∧ (0 ≤ b ∧ b ≤ 9))) := ⟨_, _, _, _, _, _, _, _, _, _, _, y0, y1, z2.kept (yf _ (by omega)), z3.kept (yf _ (by omega)), z4.kept (yf _ (by omega)), z5.kept (yf _ (by omega)), z6.kept (yf _ (by omega)), z7.kept (yf _ (by omega)), z8.kept (yf _ (by omega)), y9, z11.kept (yf _ (by omega)), z12.kept (yf _ (by omega)), yr, zs, ht9⟩
  refine ⟨cd, hcd, rfl, ⟨B, P, T, sc, pr, ex, ps, B2, P2, T2, sc2, pr2, ex2, ps2, sv, rs, cs, cr, rT, rL, (hA.mono (by omega)), (fun h9 => (hS9 h9).mono (by omega)), hx2, hsv, hcs, hcr, hL, htx, hQ.kept (fun q h1 h2 => yf q (by omega)), by rw [hRc]; exact hmR, ⟨_, hO1.kept (yf _ (by omega))⟩, ⟨_, hD1.kept (yf _ (by omega))⟩⟩, fun h0 => ?_⟩
  obtain ⟨z, hz1, hz2⟩ := hval h0
  refine ⟨z, hz1.kept (yf _ (by omega)), ?_⟩
  exact ⟨hz2.1, by rw [yv (hRc.symm.trans h0), ← hz2.2]⟩
set_option maxRecDepth 100000 in
set_option maxHeartbeats 2000000 in
theorem j_daysUntil (l : Launch) (g : gE) (b0 : Nat) (f : gF) (v cd0 : Int) (a : Int) (hra : rI a) (b : Int) (hrb : rI b) (hl9 : l.stackTraces = false) (hv0 : 0 ≤ v) (hv1 : v ≤ 20000000) (hI : lwI g b0 v cd0 f) : jI l g b0 f v yL_daysUntil cL_daysUntil 5 [(0, 10, 13, 20), (0, 10, 17, 13), (0, 10, 21, 90)] 8 131 3 yX9_daysUntil cX9_daysUntil 4 7 221 [.int (zI a), .int (zI b)] := by
  obtain ⟨B, P, T, sc, pr, ex, ps, B2, P2, T2, sc2, pr2, ex2, ps2, sv, rs, cs, cr, rT, rL, hA, hS9, hx2, hsv, hcs, hcr, hL, htx, hC, hR, ⟨O, hO⟩, ⟨D, hD⟩⟩ := hI
  obtain ⟨hex, he0, hps, hpx, hp0, hpri, hpar, hok, hokB, hsc, htO, hrp⟩ := id hA
  obtain ⟨an, Tr, rC, rn, ra, rm, hOb, hSt8, hS2, hTr, hRd⟩ := id hC
  have hX := c_X8_daysUntil l g b0 622 f b0 B P T sc pr ex ps sv rs an cs cr Tr a b v hl9 hOb ⟨by omega, by omega⟩ hSt8 hex hps hpx hTr hok hv0 (by omega) hra hrb
  have hH := c_L_daysUntil l g b0 622 f b0 (b0 + 620) a b O _ _ _ hX hOb ⟨by omega, by omega⟩ ⟨by omega, by omega⟩ hO (fun r fm hp => by obtain ⟨_, _, _, _, _, o⟩ := hp; exact o _ (by omega)) (fun E fm hp => by
      rcases hp with ⟨h9, _⟩ | ⟨h9, _⟩ | ⟨h9, _⟩
      · exact Or.inl h9
      · exact Or.inr (Or.inl h9)
      · exact Or.inr (Or.inr (h9))
    )
  refine ⟨_, hH, fun k f1 hk => ?_⟩
  have hmid := hQ_mid (Q := fun cd f1 => mC g f1 b0 B P T sc pr ex ps B2 P2 T2 sc2 pr2 ex2 ps2 sv rs cs cr rT rL) (R := fun cd => cd = (cd3 (0 ≤ a ∧ a < P ps 7) (0 ≤ b ∧ b ≤ 9000000) (duR (P ps) (11 + 4 * a.toNat) b 201 0 < 201))) (q := fun z => rI z ∧ zI z = zI (↑(duR (P ps) (11 + 4 * a.toNat) b 201 0))) hk ⟨O, hO⟩ (fun z fm hp => by
      obtain ⟨hz, q1, q2, q3, q8, ⟨Tr1, ht1⟩, o⟩ := hp
      refine ⟨fun q h1 => o q (by omega), by unfold cd3; rw [if_pos q1, if_pos q2, if_pos q3], ⟨hz, q8⟩, fun f2 h2 => mC.kept ⟨an, Tr1, rC, rn, ra, rm, hOb.kept (o _ (by omega)), hSt8.kept (fun q h1 h2 => o q (by omega)), hS2.kept (fun q h1 h2 => o q (by omega)), ht1, hRd.kept (fun q h1 h2 => o q (by omega))⟩ (fun q _ h3 => h2 q (by omega))⟩
    ) (fun i E hi hp => by
      rcases i with _ | _ | _ | i
      · obtain rfl : exN2 = E := Option.some.inj hi
        rcases hp with ⟨h9, hn, rfl⟩ | ⟨h9, h0, hn, rfl⟩ | ⟨h9, h0, h1, hn, ⟨Tr1, ht1⟩, o⟩
        · exact ⟨fun q _ => rfl, by unfold cd3; rw [if_neg hn]; rfl, hC⟩
        · exact absurd h9 (by decide)
        · exact absurd h9 (by decide)
      · obtain rfl : exN0 = E := Option.some.inj hi
        rcases hp with ⟨h9, hn, rfl⟩ | ⟨h9, h0, hn, rfl⟩ | ⟨h9, h0, h1, hn, ⟨Tr1, ht1⟩, o⟩
        · exact absurd h9 (by decide)
        · exact ⟨fun q _ => rfl, by unfold cd3; rw [if_pos h0, if_neg hn]; rfl, hC⟩
        · exact absurd h9 (by decide)
      · obtain rfl : exN3 = E := Option.some.inj hi
        rcases hp with ⟨h9, hn, rfl⟩ | ⟨h9, h0, hn, rfl⟩ | ⟨h9, h0, h1, hn, ⟨Tr1, ht1⟩, o⟩
        · exact absurd h9 (by decide)
        · exact absurd h9 (by decide)
        · exact ⟨fun q h1 => o q (by omega), by unfold cd3; rw [if_pos h0, if_pos h1, if_neg hn]; rfl, ⟨an, Tr1, rC, rn, ra, rm, hOb.kept (o _ (by omega)), hSt8.kept (fun q h1 h2 => o q (by omega)), hS2.kept (fun q h1 h2 => o q (by omega)), ht1, hRd.kept (fun q h1 h2 => o q (by omega))⟩⟩
      · exact absurd hi (by simp)
    ) (by decide)
  obtain ⟨cd, hcd, rfl, hRc, hQ, hfr, ⟨O1, hO1⟩, hval⟩ := hmid
  have hRc : cd = (cd3 (0 ≤ a ∧ a < P ps 7) (0 ≤ b ∧ b ≤ 9000000) (duR (P ps) (11 + 4 * a.toNat) b 201 0 < 201)) := hRc
  have hR1 := hR.kept (fun q h1 h2 => hfr q h1 (by omega))
  have hD1 := hD.kept (hfr (b0 + 621) (by omega) (by omega))
  obtain ⟨Z, M, M2, St, Mn, Pr, St2, Mn2, Pr2, In, C, z0, z1, z2, z3, z4, z5, z6, z7, z8, z9, z11, z12, zr, zs, ht⟩ := hR1
  refine ⟨⟨_, z0⟩, _, c_X9_daysUntil l g b0 622 f1 (b0 + 607) Z M P ps a b v z0 (mpAt_of z1 (fun i hi => ((zr ps hps).1 hpx).1 i hi)) ⟨by omega, by omega⟩ z9 ht.2.2.2.1 hps (hok ps hps) hv0 (by omega) hra hrb, fun r f2 hp => ?_⟩
  obtain ⟨Z1, M1, y0, yk, yc, yv, y1, ym, y9, yf⟩ := hp
  have ht9 := ht.keep yk yc
  have yr := mRel_scr zr (fun j hj => (ym j hj).trans (mov_same (fun i hi => ((zr ps hps).1 hpx).1 i hi) j))
  have hmR : mR g f2 (b0 + 607) B P T sc pr ex ps B2 P2 T2 sc2 pr2 ex2 ps2 sv rs cs cr rT rL (cd3 (0 ≤ a ∧ a < P ps 7) (0 ≤ b ∧ b ≤ 9000000) (duR (P ps) (11 + 4 * a.toNat) b 201 0 < 201)) := ⟨_, _, _, _, _, _, _, _, _, _, _, y0, y1, z2.kept (yf _ (by omega)), z3.kept (yf _ (by omega)), z4.kept (yf _ (by omega)), z5.kept (yf _ (by omega)), z6.kept (yf _ (by omega)), z7.kept (yf _ (by omega)), z8.kept (yf _ (by omega)), y9, z11.kept (yf _ (by omega)), z12.kept (yf _ (by omega)), yr, zs, ht9⟩
  refine ⟨cd, hcd, rfl, ⟨B, P, T, sc, pr, ex, ps, B2, P2, T2, sc2, pr2, ex2, ps2, sv, rs, cs, cr, rT, rL, (hA.mono (by omega)), (fun h9 => (hS9 h9).mono (by omega)), hx2, hsv, hcs, hcr, hL, htx, hQ.kept (fun q h1 h2 => yf q (by omega)), by rw [hRc]; exact hmR, ⟨_, hO1.kept (yf _ (by omega))⟩, ⟨_, hD1.kept (yf _ (by omega))⟩⟩, fun h0 => ?_⟩
  obtain ⟨z, hz1, hz2⟩ := hval h0
  refine ⟨z, hz1.kept (yf _ (by omega)), ?_⟩
  exact ⟨hz2.1, by rw [yv (hRc.symm.trans h0), ← hz2.2]⟩
set_option maxRecDepth 100000 in
set_option maxHeartbeats 2000000 in
theorem j_spare (l : Launch) (g : gE) (b0 : Nat) (f : gF) (v cd0 : Int) (a : Int) (hra : rI a) (b : Int) (hrb : rI b) (hl9 : l.stackTraces = false) (hv0 : 0 ≤ v) (hv1 : v ≤ 20000000) (hI : lwI g b0 v cd0 f) : jI l g b0 f v yL_spare cL_spare 5 [(0, 10, 13, 20), (0, 10, 17, 13)] 8 157 2 yX9_spare cX9_spare 6 8 248 [.int (zI a), .int (zI b)] := by
  obtain ⟨B, P, T, sc, pr, ex, ps, B2, P2, T2, sc2, pr2, ex2, ps2, sv, rs, cs, cr, rT, rL, hA, hS9, hx2, hsv, hcs, hcr, hL, htx, hC, hR, ⟨O, hO⟩, ⟨D, hD⟩⟩ := hI
  obtain ⟨hex, he0, hps, hpx, hp0, hpri, hpar, hok, hokB, hsc, htO, hrp⟩ := id hA
  obtain ⟨an, Tr, rC, rn, ra, rm, hOb, hSt8, hS2, hTr, hRd⟩ := id hC
  have hX := c_X8_spare l g b0 622 f b0 B P T sc pr ex ps sv rs an cs cr Tr a b v hl9 hOb ⟨by omega, by omega⟩ hSt8 hex hps hpx hTr hok hv0 (by omega) hra hrb
  have hH := c_L_spare l g b0 622 f b0 (b0 + 620) a b O _ _ _ hX hOb ⟨by omega, by omega⟩ ⟨by omega, by omega⟩ hO (fun r fm hp => by obtain ⟨_, _, _, _, o⟩ := hp; exact o _ (by omega)) (fun E fm hp => by
      obtain ⟨h8, _⟩ := hp
      rcases h8 with ⟨h9, _⟩ | ⟨h9, _⟩
      · exact Or.inl h9
      · exact Or.inr (h9)
    )
  refine ⟨_, hH, fun k f1 hk => ?_⟩
  have hmid := hQ_mid (Q := fun cd f1 => mC g f1 b0 B P T sc pr ex ps B2 P2 T2 sc2 pr2 ex2 ps2 sv rs cs cr rT rL) (R := fun cd => cd = (cd2 (0 ≤ a ∧ a < P ps 7) (1 ≤ b ∧ b ≤ 60))) (q := fun z => rI z ∧ zI z = zI (spV (P ps) a.toNat b.toNat)) hk ⟨O, hO⟩ (fun z fm hp => by
      obtain ⟨hz, q1, q2, q8, ⟨Tr1, ht1⟩, o⟩ := hp
      refine ⟨fun q h1 => o q (by omega), by unfold cd2; rw [if_pos q1, if_pos q2], ⟨hz, q8⟩, fun f2 h2 => mC.kept ⟨an, Tr1, rC, rn, ra, rm, hOb.kept (o _ (by omega)), hSt8.kept (fun q h1 h2 => o q (by omega)), hS2.kept (fun q h1 h2 => o q (by omega)), ht1, hRd.kept (fun q h1 h2 => o q (by omega))⟩ (fun q _ h3 => h2 q (by omega))⟩
    ) (fun i E hi hp => by
      rcases i with _ | _ | i
      · obtain rfl : exN2 = E := Option.some.inj hi
        obtain ⟨h8, rfl⟩ := hp
        rcases h8 with ⟨h9, hn⟩ | ⟨h9, h0, hn⟩
        · exact ⟨fun q _ => rfl, by unfold cd2; rw [if_neg hn]; rfl, hC⟩
        · exact absurd h9 (by decide)
      · obtain rfl : exN0 = E := Option.some.inj hi
        obtain ⟨h8, rfl⟩ := hp
        rcases h8 with ⟨h9, hn⟩ | ⟨h9, h0, hn⟩
        · exact absurd h9 (by decide)
        · exact ⟨fun q _ => rfl, by unfold cd2; rw [if_pos h0, if_neg hn]; rfl, hC⟩
      · exact absurd hi (by simp)
    ) (by decide)
  obtain ⟨cd, hcd, rfl, hRc, hQ, hfr, ⟨O1, hO1⟩, hval⟩ := hmid
  have hRc : cd = (cd2 (0 ≤ a ∧ a < P ps 7) (1 ≤ b ∧ b ≤ 60)) := hRc
  have hR1 := hR.kept (fun q h1 h2 => hfr q h1 (by omega))
  have hD1 := hD.kept (hfr (b0 + 621) (by omega) (by omega))
  obtain ⟨Z, M, M2, St, Mn, Pr, St2, Mn2, Pr2, In, C, z0, z1, z2, z3, z4, z5, z6, z7, z8, z9, z11, z12, zr, zs, ht⟩ := hR1
  refine ⟨⟨_, z0⟩, _, c_X9_spare l g b0 622 f1 (b0 + 607) Z M P ps a b v z0 (mpAt_of z1 (fun i hi => ((zr ps hps).1 hpx).1 i hi)) ⟨by omega, by omega⟩ z9 ht.2.2.2.1 hps (hok ps hps) hv0 (by omega) hra hrb, fun r f2 hp => ?_⟩
  obtain ⟨Z1, M1, y0, yk, yc, yv, y1, ym, y9, yf⟩ := hp
  have ht9 := ht.keep yk yc
  have yr := mRel_scr zr (fun j hj => (ym j hj).trans (mov_same (fun i hi => ((zr ps hps).1 hpx).1 i hi) j))
  have hmR : mR g f2 (b0 + 607) B P T sc pr ex ps B2 P2 T2 sc2 pr2 ex2 ps2 sv rs cs cr rT rL (cd2 (0 ≤ a ∧ a < P ps 7) (1 ≤ b ∧ b ≤ 60)) := ⟨_, _, _, _, _, _, _, _, _, _, _, y0, y1, z2.kept (yf _ (by omega)), z3.kept (yf _ (by omega)), z4.kept (yf _ (by omega)), z5.kept (yf _ (by omega)), z6.kept (yf _ (by omega)), z7.kept (yf _ (by omega)), z8.kept (yf _ (by omega)), y9, z11.kept (yf _ (by omega)), z12.kept (yf _ (by omega)), yr, zs, ht9⟩
  refine ⟨cd, hcd, rfl, ⟨B, P, T, sc, pr, ex, ps, B2, P2, T2, sc2, pr2, ex2, ps2, sv, rs, cs, cr, rT, rL, (hA.mono (by omega)), (fun h9 => (hS9 h9).mono (by omega)), hx2, hsv, hcs, hcr, hL, htx, hQ.kept (fun q h1 h2 => yf q (by omega)), by rw [hRc]; exact hmR, ⟨_, hO1.kept (yf _ (by omega))⟩, ⟨_, hD1.kept (yf _ (by omega))⟩⟩, fun h0 => ?_⟩
  obtain ⟨z, hz1, hz2⟩ := hval h0
  refine ⟨z, hz1.kept (yf _ (by omega)), ?_⟩
  exact ⟨hz2.1, by rw [yv (hRc.symm.trans h0), ← hz2.2]⟩
set_option maxRecDepth 100000 in
set_option maxHeartbeats 2000000 in
theorem j_step (l : Launch) (g : gE) (b0 : Nat) (f : gF) (v cd0 : Int) (a : Int) (hra : rI a) (b : Int) (hrb : rI b) (hl9 : l.stackTraces = false) (hv0 : 0 ≤ v) (hv1 : v ≤ 20000000) (hI : lwI g b0 v cd0 f) : jI l g b0 f v yL_step cL_step 5 [(0, 10, 13, 20), (0, 10, 17, 13)] 8 125 2 yX9_step_ cX9_step_ 3 1 25 [.int (zI a), .int (zI b)] := by
  obtain ⟨B, P, T, sc, pr, ex, ps, B2, P2, T2, sc2, pr2, ex2, ps2, sv, rs, cs, cr, rT, rL, hA, hS9, hx2, hsv, hcs, hcr, hL, htx, hC, hR, ⟨O, hO⟩, ⟨D, hD⟩⟩ := hI
  obtain ⟨hex, he0, hps, hpx, hp0, hpri, hpar, hok, hokB, hsc, htO, hrp⟩ := id hA
  obtain ⟨an, Tr, rC, rn, ra, rm, hOb, hSt8, hS2, hTr, hRd⟩ := id hC
  have hX := c_X8_step l g b0 622 f b0 B P T sc pr ex ps sv rs an cs cr a b hl9 hOb ⟨by omega, by omega⟩ hSt8 hex hps hpx hsc hra hrb
  have hH := c_L_step l g b0 622 f b0 (b0 + 620) a b O _ _ _ hX hOb ⟨by omega, by omega⟩ ⟨by omega, by omega⟩ hO (fun r fm hp => by obtain ⟨_, _, _, rfl⟩ := hp; rfl) (fun E fm hp => by
      obtain ⟨h8, _⟩ := hp
      rcases h8 with ⟨h9, _⟩ | ⟨h9, _⟩
      · exact Or.inl h9
      · exact Or.inr (h9)
    )
  refine ⟨_, hH, fun k f1 hk => ?_⟩
  have hmid := hQ_mid (Q := fun cd f1 => mC g f1 b0 B P T sc pr ex ps B2 P2 T2 sc2 pr2 ex2 ps2 sv rs cs cr rT rL) (R := fun cd => cd = (cd2 (0 ≤ a ∧ a < ↑(sc ps)) (0 ≤ b ∧ b ≤ 4))) (q := fun z => rI z ∧ zI z = zI (T ps (a.toNat * 5 + b.toNat))) hk ⟨O, hO⟩ (fun z fm hp => by
      obtain ⟨hz, q1, q2, q8, rfl⟩ := hp
      exact ⟨fun q _ => rfl, by unfold cd2; rw [if_pos q1, if_pos q2], ⟨hz, q8⟩, fun f2 h2 => hC.kept (fun q _ h3 => h2 q (by omega))⟩
    ) (fun i E hi hp => by
      rcases i with _ | _ | i
      · obtain rfl : exN2 = E := Option.some.inj hi
        obtain ⟨h8, rfl⟩ := hp
        rcases h8 with ⟨h9, hn⟩ | ⟨h9, h0, hn⟩
        · exact ⟨fun q _ => rfl, by unfold cd2; rw [if_neg hn]; rfl, hC⟩
        · exact absurd h9 (by decide)
      · obtain rfl : exN0 = E := Option.some.inj hi
        obtain ⟨h8, rfl⟩ := hp
        rcases h8 with ⟨h9, hn⟩ | ⟨h9, h0, hn⟩
        · exact absurd h9 (by decide)
        · exact ⟨fun q _ => rfl, by unfold cd2; rw [if_pos h0, if_neg hn]; rfl, hC⟩
      · exact absurd hi (by simp)
    ) (by decide)
  obtain ⟨cd, hcd, rfl, hRc, hQ, hfr, ⟨O1, hO1⟩, hval⟩ := hmid
  have hRc : cd = (cd2 (0 ≤ a ∧ a < ↑(sc ps)) (0 ≤ b ∧ b ≤ 4)) := hRc
  have hR1 := hR.kept (fun q h1 h2 => hfr q h1 (by omega))
  have hD1 := hD.kept (hfr (b0 + 621) (by omega) (by omega))
  obtain ⟨Z, M, M2, St, Mn, Pr, St2, Mn2, Pr2, In, C, z0, z1, z2, z3, z4, z5, z6, z7, z8, z9, z11, z12, zr, zs, ht⟩ := hR1
  refine ⟨⟨_, z0⟩, _, c_X9_step_ l g b0 622 f1 (b0 + 607) Z M St Mn Pr B P T sc pr ex ps a b z0 ⟨by omega, by omega⟩ z1 z3 z4 z5 zr ht.2.2.2.1 hps hpx (fun k hk _ => hsc k hk) hex hpri hp0 hra hrb, fun r f2 hp => ?_⟩
  obtain ⟨cd9, rfl, yv, y0, yf⟩ := hp
  have ht9 := ht.keep zKeep_pu (pu_s Z 0 (cd2 (0 ≤ a ∧ a < ↑(sc ps)) (0 ≤ b ∧ b ≤ 4)))
  have hmR : mR g f2 (b0 + 607) B P T sc pr ex ps B2 P2 T2 sc2 pr2 ex2 ps2 sv rs cs cr rT rL (cd2 (0 ≤ a ∧ a < ↑(sc ps)) (0 ≤ b ∧ b ≤ 4)) := ⟨_, _, _, _, _, _, _, _, _, _, _, y0, z1.kept (yf _ (by omega)), z2.kept (yf _ (by omega)), z3.kept (yf _ (by omega)), z4.kept (yf _ (by omega)), z5.kept (yf _ (by omega)), z6.kept (yf _ (by omega)), z7.kept (yf _ (by omega)), z8.kept (yf _ (by omega)), ⟨⟨_, z9.1.choose_spec.kept (yf _ (by omega))⟩, ⟨_, z9.2.choose_spec.kept (yf _ (by omega))⟩⟩, z11.kept (yf _ (by omega)), z12.kept (yf _ (by omega)), zr, zs, ht9⟩
  refine ⟨cd, hcd, rfl, ⟨B, P, T, sc, pr, ex, ps, B2, P2, T2, sc2, pr2, ex2, ps2, sv, rs, cs, cr, rT, rL, (hA.mono (by omega)), (fun h9 => (hS9 h9).mono (by omega)), hx2, hsv, hcs, hcr, hL, htx, hQ.kept (fun q h1 h2 => yf q (by omega)), by rw [hRc]; exact hmR, ⟨_, hO1.kept (yf _ (by omega))⟩, ⟨_, hD1.kept (yf _ (by omega))⟩⟩, fun h0 => ?_⟩
  obtain ⟨z, hz1, hz2⟩ := hval h0
  refine ⟨z, hz1.kept (yf _ (by omega)), ?_⟩
  exact ⟨hz2.1, by rw [yv (hRc.symm.trans h0), ← hz2.2]⟩
set_option maxRecDepth 100000 in
set_option maxHeartbeats 2000000 in
theorem j_difference (l : Launch) (g : gE) (b0 : Nat) (f : gF) (v cd0 : Int) (x : Int) (hrx : rI x) (y : Int) (hry : rI y) (a : Int) (hra : rI a) (hl9 : l.stackTraces = false) (hv0 : 0 ≤ v) (hv1 : v ≤ 20000000) (hI : lwI g b0 v cd0 f) : jL l g b0 f v yL_difference cL_difference 6 [(0, 11, 14, 90), (0, 11, 18, 20)] 8 127 1 yX9_difference cX9_difference 4 4 89 [.int (zI x), .int (zI y), .int (zI a)] := by
  obtain ⟨B, P, T, sc, pr, ex, ps, B2, P2, T2, sc2, pr2, ex2, ps2, sv, rs, cs, cr, rT, rL, hA, hS9, hx2, hsv, hcs, hcr, hL, htx, hC, hR, ⟨O, hO⟩, ⟨D, hD⟩⟩ := hI
  obtain ⟨hex, he0, hps, hpx, hp0, hpri, hpar, hok, hokB, hsc, htO, hrp⟩ := id hA
  obtain ⟨an, Tr, rC, rn, ra, rm, hOb, hSt8, hS2, hTr, hRd⟩ := id hC
  have hX := c_X8_difference l g b0 622 f b0 B P T sc pr ex ps sv rs an cs cr x y a v hl9 hOb ⟨by omega, by omega⟩ hSt8 hex hps hpx hok hv0 (by omega) hrx hry hra
  have hH := c_L_difference l g b0 622 f b0 (b0 + 620) x y a O _ _ _ hX hOb ⟨by omega, by omega⟩ ⟨by omega, by omega⟩ hO (fun r fm hp => by obtain ⟨_, _, _, rfl⟩ := hp; rfl) (fun E fm hp => by
      rcases hp with ⟨h9, _⟩ | ⟨h9, _⟩
      · exact Or.inl h9
      · exact Or.inr (h9)
    )
  refine ⟨_, hH, fun k f1 hk => ?_⟩
  have hmid := hQ_mid (Q := fun cd f1 => mC g f1 b0 B P T sc pr ex ps B2 P2 T2 sc2 pr2 ex2 ps2 sv rs cs cr rT rL) (R := fun cd => cd = (cd2 (FD ex x ∧ FD ex y) (-1 ≤ a ∧ a ≤ 9))) (q := fun z => rLg z ∧ zL z = zL (mOf (P x.toNat) a - mOf (P y.toNat) a)) hk ⟨O, hO⟩ (fun z fm hp => by
      obtain ⟨hz, q1, q2, q8, rfl⟩ := hp
      exact ⟨fun q _ => rfl, by unfold cd2; rw [if_pos q1, if_pos q2], ⟨hz, q8⟩, fun f2 h2 => hC.kept (fun q _ h3 => h2 q (by omega))⟩
    ) (fun i E hi hp => by
      rcases i with _ | _ | i
      · obtain rfl : exN3 = E := Option.some.inj hi
        rcases hp with ⟨h9, hn, rfl⟩ | ⟨h9, h0, hn, rfl⟩
        · exact ⟨fun q _ => rfl, by unfold cd2; rw [if_neg hn]; rfl, hC⟩
        · exact absurd h9 (by decide)
      · obtain rfl : exN2 = E := Option.some.inj hi
        rcases hp with ⟨h9, hn, rfl⟩ | ⟨h9, h0, hn, rfl⟩
        · exact absurd h9 (by decide)
        · exact ⟨fun q _ => rfl, by unfold cd2; rw [if_pos h0, if_neg hn]; rfl, hC⟩
      · exact absurd hi (by simp)
    ) (by decide)
  obtain ⟨cd, hcd, rfl, hRc, hQ, hfr, ⟨O1, hO1⟩, hval⟩ := hmid
  have hRc : cd = (cd2 (FD ex x ∧ FD ex y) (-1 ≤ a ∧ a ≤ 9)) := hRc
  have hR1 := hR.kept (fun q h1 h2 => hfr q h1 (by omega))
  have hD1 := hD.kept (hfr (b0 + 621) (by omega) (by omega))
  obtain ⟨Z, M, M2, St, Mn, Pr, St2, Mn2, Pr2, In, C, z0, z1, z2, z3, z4, z5, z6, z7, z8, z9, z11, z12, zr, zs, ht⟩ := hR1
  refine ⟨⟨_, z0⟩, _, c_X9_difference l g b0 622 f1 (b0 + 607) Z M St Mn Pr B P T sc pr ex ps x y a v z0 ⟨by omega, by omega⟩ z1 z3 z4 z5 zr ht.2.2.2.1 hps hpx (fun k hk _ => hsc k hk) hex hpri hp0 hok hrx hry hra, fun r f2 hp => ?_⟩
  obtain ⟨cd9, yc, yv, ⟨Z1, y0, yk, yc2⟩, yf⟩ := hp
  have ht9 := ht.keep yk (yc2.trans yc)
  rw [yc] at yv
  have hmR : mR g f2 (b0 + 607) B P T sc pr ex ps B2 P2 T2 sc2 pr2 ex2 ps2 sv rs cs cr rT rL (cd2 (FD ex x ∧ FD ex y) (-1 ≤ a ∧ a ≤ 9)) := ⟨_, _, _, _, _, _, _, _, _, _, _, y0, z1.kept (yf _ (by omega)), z2.kept (yf _ (by omega)), z3.kept (yf _ (by omega)), z4.kept (yf _ (by omega)), z5.kept (yf _ (by omega)), z6.kept (yf _ (by omega)), z7.kept (yf _ (by omega)), z8.kept (yf _ (by omega)), ⟨⟨_, z9.1.choose_spec.kept (yf _ (by omega))⟩, ⟨_, z9.2.choose_spec.kept (yf _ (by omega))⟩⟩, z11.kept (yf _ (by omega)), z12.kept (yf _ (by omega)), zr, zs, ht9⟩
  refine ⟨cd, hcd, rfl, ⟨B, P, T, sc, pr, ex, ps, B2, P2, T2, sc2, pr2, ex2, ps2, sv, rs, cs, cr, rT, rL, (hA.mono (by omega)), (fun h9 => (hS9 h9).mono (by omega)), hx2, hsv, hcs, hcr, hL, htx, hQ.kept (fun q h1 h2 => yf q (by omega)), by rw [hRc]; exact hmR, ⟨_, hO1.kept (yf _ (by omega))⟩, ⟨_, hD1.kept (yf _ (by omega))⟩⟩, fun h0 => ?_⟩
  obtain ⟨z, hz1, hz2⟩ := hval h0
  refine ⟨z, hz1.kept (yf _ (by omega)), ?_⟩
  exact ⟨hz2.1, by rw [yv (hRc.symm.trans h0), ← hz2.2]⟩
set_option maxRecDepth 100000 in
set_option maxHeartbeats 2000000 in
theorem j_branch (l : Launch) (g : gE) (b0 : Nat) (f : gF) (v cd0 : Int) (a : Int) (hra : rI a) (b : Int) (hrb : rI b) (hl9 : l.stackTraces = false) (hv0 : 0 ≤ v) (hv1 : v ≤ 20000000) (hI : lwI g b0 v cd0 f) : jL l g b0 f v yL_branch cL_branch 5 [(0, 9, 12, 90), (0, 9, 16, 13)] 8 125 1 yX9_branch cX9_branch 3 2 46 [.int (zI a), .int (zI b)] := by
  obtain ⟨B, P, T, sc, pr, ex, ps, B2, P2, T2, sc2, pr2, ex2, ps2, sv, rs, cs, cr, rT, rL, hA, hS9, hx2, hsv, hcs, hcr, hL, htx, hC, hR, ⟨O, hO⟩, ⟨D, hD⟩⟩ := hI
  obtain ⟨hex, he0, hps, hpx, hp0, hpri, hpar, hok, hokB, hsc, htO, hrp⟩ := id hA
  obtain ⟨an, Tr, rC, rn, ra, rm, hOb, hSt8, hS2, hTr, hRd⟩ := id hC
  have hX := c_X8_branch l g b0 622 f b0 B P T sc pr ex ps sv rs an cs cr a b v hl9 hOb ⟨by omega, by omega⟩ hSt8 hex hps hpx hok hv0 (by omega) hpri hsc hra hrb
  have hH := c_L_branch l g b0 622 f b0 (b0 + 620) a b O _ _ _ hX hOb ⟨by omega, by omega⟩ ⟨by omega, by omega⟩ hO (fun r fm hp => by obtain ⟨_, _, _, rfl⟩ := hp; rfl) (fun E fm hp => by
      rcases hp with ⟨h9, _⟩ | ⟨h9, _⟩
      · exact Or.inl h9
      · exact Or.inr (h9)
    )
  refine ⟨_, hH, fun k f1 hk => ?_⟩
  have hmid := hQ_mid (Q := fun cd f1 => mC g f1 b0 B P T sc pr ex ps B2 P2 T2 sc2 pr2 ex2 ps2 sv rs cs cr rT rL) (R := fun cd => cd = (cd2 (FD ex a) (0 ≤ b ∧ b ≤ 5))) (q := fun z => rLg z ∧ zL z = zL (brV B P T sc pr ex a b)) hk ⟨O, hO⟩ (fun z fm hp => by
      obtain ⟨hz, q1, q2, q8, rfl⟩ := hp
      exact ⟨fun q _ => rfl, by unfold cd2; rw [if_pos q1, if_pos q2], ⟨hz, q8⟩, fun f2 h2 => hC.kept (fun q _ h3 => h2 q (by omega))⟩
    ) (fun i E hi hp => by
      rcases i with _ | _ | i
      · obtain rfl : exN3 = E := Option.some.inj hi
        rcases hp with ⟨h9, hn, rfl⟩ | ⟨h9, h0, hn, rfl⟩
        · exact ⟨fun q _ => rfl, by unfold cd2; rw [if_neg hn]; rfl, hC⟩
        · exact absurd h9 (by decide)
      · obtain rfl : exN0 = E := Option.some.inj hi
        rcases hp with ⟨h9, hn, rfl⟩ | ⟨h9, h0, hn, rfl⟩
        · exact absurd h9 (by decide)
        · exact ⟨fun q _ => rfl, by unfold cd2; rw [if_pos h0, if_neg hn]; rfl, hC⟩
      · exact absurd hi (by simp)
    ) (by decide)
  obtain ⟨cd, hcd, rfl, hRc, hQ, hfr, ⟨O1, hO1⟩, hval⟩ := hmid
  have hRc : cd = (cd2 (FD ex a) (0 ≤ b ∧ b ≤ 5)) := hRc
  have hR1 := hR.kept (fun q h1 h2 => hfr q h1 (by omega))
  have hD1 := hD.kept (hfr (b0 + 621) (by omega) (by omega))
  obtain ⟨Z, M, M2, St, Mn, Pr, St2, Mn2, Pr2, In, C, z0, z1, z2, z3, z4, z5, z6, z7, z8, z9, z11, z12, zr, zs, ht⟩ := hR1
  refine ⟨⟨_, z0⟩, _, c_X9_branch l g b0 622 f1 (b0 + 607) Z M St Mn Pr B P T sc pr ex ps a b v z0 ⟨by omega, by omega⟩ z1 z3 z4 z5 zr ht.2.2.2.1 hps hpx (fun k hk _ => hsc k hk) hex hpri hp0 hok hra hrb, fun r f2 hp => ?_⟩
  obtain ⟨cd9, yc, yv, ⟨Z1, y0, yk, yc2⟩, yf⟩ := hp
  have ht9 := ht.keep yk (yc2.trans yc)
  rw [yc] at yv
  have hmR : mR g f2 (b0 + 607) B P T sc pr ex ps B2 P2 T2 sc2 pr2 ex2 ps2 sv rs cs cr rT rL (cd2 (FD ex a) (0 ≤ b ∧ b ≤ 5)) := ⟨_, _, _, _, _, _, _, _, _, _, _, y0, z1.kept (yf _ (by omega)), z2.kept (yf _ (by omega)), z3.kept (yf _ (by omega)), z4.kept (yf _ (by omega)), z5.kept (yf _ (by omega)), z6.kept (yf _ (by omega)), z7.kept (yf _ (by omega)), z8.kept (yf _ (by omega)), ⟨⟨_, z9.1.choose_spec.kept (yf _ (by omega))⟩, ⟨_, z9.2.choose_spec.kept (yf _ (by omega))⟩⟩, z11.kept (yf _ (by omega)), z12.kept (yf _ (by omega)), zr, zs, ht9⟩
  refine ⟨cd, hcd, rfl, ⟨B, P, T, sc, pr, ex, ps, B2, P2, T2, sc2, pr2, ex2, ps2, sv, rs, cs, cr, rT, rL, (hA.mono (by omega)), (fun h9 => (hS9 h9).mono (by omega)), hx2, hsv, hcs, hcr, hL, htx, hQ.kept (fun q h1 h2 => yf q (by omega)), by rw [hRc]; exact hmR, ⟨_, hO1.kept (yf _ (by omega))⟩, ⟨_, hD1.kept (yf _ (by omega))⟩⟩, fun h0 => ?_⟩
  obtain ⟨z, hz1, hz2⟩ := hval h0
  refine ⟨z, hz1.kept (yf _ (by omega)), ?_⟩
  exact ⟨hz2.1, by rw [yv (hRc.symm.trans h0), ← hz2.2]⟩
