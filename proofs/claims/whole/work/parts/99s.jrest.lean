/-! the calls without a helper; the share of what was saved -/
/-- two calls whose answers the law compares -/
def jP (l : Launch) (g : gE) (b0 : Nat) (f : gF) (v : Int) (y8 : MethodName) (c8 : ByteArray) (m8 fr8 lo8 : Nat) (y9 : MethodName) (c9 : ByteArray) (m9 fr9 lo9 : Nat) : Prop :=
  (∃ fs, f b0 = .inr (10, fs)) ∧ ∃ post8 : Int32 → gF → Prop, cI l y8 c8 m8 (some .int) fr8 lo8 [.ref b0] g b0 622 f post8 ∧ ∀ r f1, post8 r f1 → (∃ fs, f1 (b0 + 607) = .inr (11, fs)) ∧ ∃ post9 : Int32 → gF → Prop, cI l y9 c9 m9 (some .int) fr9 lo9 [.ref (b0 + 607)] g b0 622 f1 post9 ∧ ∀ r2 f2, post9 r2 f2 → r2 = r ∧ ∃ cd, lwI g b0 (v + 33542) cd f2
def jD (l : Launch) (g : gE) (b0 : Nat) (f : gF) (v : Int) (yH : MethodName) (cHc : ByteArray) (mH : Nat) (hh : List (Nat × Nat × Nat × Nat)) (frH loH mcH : Nat) (yM : MethodName) (cMc : ByteArray) (mM frM loM : Nat) (As : List Value) : Prop :=
  ∃ postH : Int32 → gF → Prop, cH l yH cHc mH hh frH loH mcH (.ref b0 :: (As ++ [.ref (b0 + 621)])) g b0 622 f postH ∧ ∀ k f1, postH k f1 → (∃ fs, f1 (b0 + 607) = .inr (11, fs)) ∧ ∃ postM : UInt64 → gF → Prop, cD l yM cMc mM (some .double) frM loM (.ref (b0 + 607) :: As) g b0 622 f1 postM ∧ ∀ r f2, postM r f2 → ∃ cd : Int, rI cd ∧ k = zI cd ∧ lwI g b0 (v + 33542) cd f2 ∧ (cd = 0 → arD g f2 (b0 + 621) 1 (fun _ => r) ∧ vf_n64 r)
set_option maxRecDepth 100000 in
set_option maxHeartbeats 2000000 in
theorem j_clearReason (l : Launch) (g : gE) (b0 : Nat) (f : gF) (v cd0 : Int) (hv0 : 0 ≤ v) (hv1 : v ≤ 20000000) (hI : lwI g b0 v cd0 f) : jP l g b0 f v yX8_clearReason cX8_clearReason 2 0 0 yX9_clearReason cX9_clearReason 2 0 0 := by
  obtain ⟨B, P, T, sc, pr, ex, ps, B2, P2, T2, sc2, pr2, ex2, ps2, sv, rs, cs, cr, rT, rL, hA, hS9, hx2, hsv, hcs, hcr, hL, htx, hC, hR, ⟨O, hO⟩, ⟨D, hD⟩⟩ := hI
  obtain ⟨hex, he0, hps, hpx, hp0, hpri, hpar, hok, hokB, hsc, htO, hrp⟩ := id hA
  obtain ⟨an, Tr, rC, rn, ra, rm, hOb, hSt8, hS2, hTr, hRd⟩ := id hC
  refine ⟨⟨_, hOb⟩, _, c_X8_clearReason l g b0 622 f b0 sv rs an cs cr hOb ⟨by omega, by omega⟩, fun r f1 hp => ?_⟩
  obtain ⟨q1, q3, o⟩ := hp
  have hR1 := hR.kept (fun q h1 h2 => o q (by omega))
  have hO1 := hO.kept (o (b0 + 620) (by omega))
  have hD1 := hD.kept (o (b0 + 621) (by omega))
  obtain ⟨Z, M, M2, St, Mn, Pr, St2, Mn2, Pr2, In, C, z0, z1, z2, z3, z4, z5, z6, z7, z8, z9, z11, z12, zr, zs, ht⟩ := hR1
  refine ⟨⟨_, z0⟩, _, c_X9_clearReason l g b0 622 f1 (b0 + 607) Z z0 ⟨by omega, by omega⟩, fun r2 f2 hp => ?_⟩
  obtain ⟨yv, y0, yf⟩ := hp
  have ht9 := ht.step (Z1 := pu Z 12 0) (cd1 := cd0) (rs1 := 0) (fun k9 _ _ h2 _ => pu_n h2) ((pu_n (by decide)).trans ht.2.2.1) (pu_s _ _ _)
  have hQ : mC g f1 b0 B P T sc pr ex ps B2 P2 T2 sc2 pr2 ex2 ps2 sv 0 cs cr rT rL := ⟨an, Tr, rC, rn, ra, rm, q3, hSt8.kept (fun q h1 h2 => o q (by omega)), hS2.kept (fun q h1 h2 => o q (by omega)), hTr.kept (fun q h1 h2 => o q (by omega)), hRd.kept (fun q h1 h2 => o q (by omega))⟩
  have hmR : mR g f2 (b0 + 607) B P T sc pr ex ps B2 P2 T2 sc2 pr2 ex2 ps2 sv 0 cs cr rT rL cd0 := ⟨_, _, _, _, _, _, _, _, _, _, _, y0, z1.kept (yf _ (by omega)), z2.kept (yf _ (by omega)), z3.kept (yf _ (by omega)), z4.kept (yf _ (by omega)), z5.kept (yf _ (by omega)), z6.kept (yf _ (by omega)), z7.kept (yf _ (by omega)), z8.kept (yf _ (by omega)), ⟨⟨_, z9.1.choose_spec.kept (yf _ (by omega))⟩, ⟨_, z9.2.choose_spec.kept (yf _ (by omega))⟩⟩, z11.kept (yf _ (by omega)), z12.kept (yf _ (by omega)), zr, zs, ht9⟩
  exact ⟨by rw [yv, q1, ht.2.2.2.2.1], cd0, B, P, T, sc, pr, ex, ps, B2, P2, T2, sc2, pr2, ex2, ps2, sv, 0, cs, cr, rT, rL, hA.mono (by omega), (fun h9 => (hS9 h9).mono (by omega)), hx2, hsv, hcs, hcr, hL, htx, hQ.kept (fun q h1 h2 => yf q (by omega)), hmR, ⟨_, hO1.kept (yf _ (by omega))⟩, ⟨_, hD1.kept (yf _ (by omega))⟩⟩
set_option maxRecDepth 100000 in
set_option maxHeartbeats 2000000 in
theorem j_save (l : Launch) (g : gE) (b0 : Nat) (f : gF) (v cd0 : Int) (hv0 : 0 ≤ v) (hv1 : v ≤ 20000000) (hI : lwI g b0 v cd0 f) : jP l g b0 f v yX8_save cX8_save 1 5 147 yX9_save cX9_save 1 1 22 := by
  obtain ⟨B, P, T, sc, pr, ex, ps, B2, P2, T2, sc2, pr2, ex2, ps2, sv, rs, cs, cr, rT, rL, hA, hS9, hx2, hsv, hcs, hcr, hL, htx, hC, hR, ⟨O, hO⟩, ⟨D, hD⟩⟩ := hI
  obtain ⟨hex, he0, hps, hpx, hp0, hpri, hpar, hok, hokB, hsc, htO, hrp⟩ := id hA
  obtain ⟨an, Tr, rC, rn, ra, rm, hOb, hSt8, hS2, hTr, hRd⟩ := id hC
  refine ⟨⟨_, hOb⟩, _, c_X8_save l g b0 622 f b0 B P T sc pr ex ps sv rs an cs cr B2 P2 T2 sc2 pr2 ex2 ps2 hOb ⟨by omega, by omega⟩ hSt8 hS2 hex, fun r f1 hp => ?_⟩
  obtain ⟨q1, q3, q4, o⟩ := hp
  have hR1 := hR.kept (fun q h1 h2 => o q (by omega))
  have hO1 := hO.kept (o (b0 + 620) (by omega))
  have hD1 := hD.kept (o (b0 + 621) (by omega))
  obtain ⟨Z, M, M2, St, Mn, Pr, St2, Mn2, Pr2, In, C, z0, z1, z2, z3, z4, z5, z6, z7, z8, z9, z11, z12, zr, zs, ht⟩ := hR1
  have hr9 : rI (Z 9) := by rw [ht.2.2.2.1]; exact ⟨by omega, by omega⟩
  refine ⟨⟨_, z0⟩, _, c_X9_save l g b0 622 f1 (b0 + 607) Z M M2 St Mn Pr St2 Mn2 Pr2 sc ex z0 ⟨by omega, by omega⟩ z1 z2 z3 z4 z5 z6 z7 z8 (mRel_mn zr (fun k hk _ => hsc k hk)) hr9, fun r2 f2 hp => ?_⟩
  obtain ⟨yv, y0, y2, y6, y7, y8, yf⟩ := hp
  have ht9 : mT (pu (pu Z 10 (Z 9)) 16 1) In ps ps 1 rs cs cr rT rL cd0 := by
    obtain ⟨t1, t2, t3, t4, t5, t6, t7, t8, t9, t10⟩ := ht
    refine ⟨fun _ => t4, ?_, t3, t4, t5, t6, t7, rfl, t9, t10⟩
    show rI (Z 9)
    exact hr9
  have hQ : mC g f1 b0 B P T sc pr ex ps B P T sc pr ex ps 1 rs cs cr rT rL := ⟨an, Tr, rC, rn, ra, rm, q3, hSt8.kept (fun q h1 h2 => o q (by omega)), q4, hTr.kept (fun q h1 h2 => o q (by omega)), hRd.kept (fun q h1 h2 => o q (by omega))⟩
  have hmR : mR g f2 (b0 + 607) B P T sc pr ex ps B P T sc pr ex ps 1 rs cs cr rT rL cd0 := ⟨_, _, _, _, _, _, _, _, _, _, _, y0, z1.kept (yf _ (by omega)), y2, z3.kept (yf _ (by omega)), z4.kept (yf _ (by omega)), z5.kept (yf _ (by omega)), y6, y7, y8, ⟨⟨_, z9.1.choose_spec.kept (yf _ (by omega))⟩, ⟨_, z9.2.choose_spec.kept (yf _ (by omega))⟩⟩, z11.kept (yf _ (by omega)), z12.kept (yf _ (by omega)), zr, (fun _ => zr), ht9⟩
  exact ⟨by rw [yv, q1], cd0, B, P, T, sc, pr, ex, ps, B, P, T, sc, pr, ex, ps, 1, rs, cs, cr, rT, rL, hA.mono (by omega), (fun _ => hA.mono (by omega)), hex, Or.inr rfl, hcs, hcr, hL, htx, hQ.kept (fun q h1 h2 => yf q (by omega)), hmR, ⟨_, hO1.kept (yf _ (by omega))⟩, ⟨_, hD1.kept (yf _ (by omega))⟩⟩
set_option maxRecDepth 100000 in
set_option maxHeartbeats 2000000 in
theorem j_readPlan (l : Launch) (g : gE) (b0 : Nat) (f : gF) (v cd0 : Int) (hv0 : 0 ≤ v) (hv1 : v ≤ 20000000) (hI : lwI g b0 v cd0 f) : jP l g b0 f v yX8_readPlan cX8_readPlan 3 6 161 yX9_readPlan cX9_readPlan 3 9 276 := by
  obtain ⟨B, P, T, sc, pr, ex, ps, B2, P2, T2, sc2, pr2, ex2, ps2, sv, rs, cs, cr, rT, rL, hA, hS9, hx2, hsv, hcs, hcr, hL, htx, hC, hR, ⟨O, hO⟩, ⟨D, hD⟩⟩ := hI
  obtain ⟨hex, he0, hps, hpx, hp0, hpri, hpar, hok, hokB, hsc, htO, hrp⟩ := id hA
  obtain ⟨an, Tr, rC, rn, ra, rm, hOb, hSt8, hS2, hTr, hRd⟩ := id hC
  refine ⟨⟨_, hOb⟩, _, c_X8_readPlan l g b0 622 f b0 B P T sc pr ex ps sv rs an cs cr rT rC rL rn ra rm v hOb ⟨by omega, by omega⟩ hSt8 hex hps hpx hRd htx hL hok hv0 (by omega) hsc, fun r f1 hp => ?_⟩
  obtain ⟨e9, N, M9, hrd, hM9, q1, q3, ⟨an9, q4⟩, ⟨C9, c9, a9, m9, q5⟩, o⟩ := hp
  have hR1 := hR.kept (fun q h1 h2 => o q (by omega))
  have hO1 := hO.kept (o (b0 + 620) (by omega))
  have hD1 := hD.kept (o (b0 + 621) (by omega))
  obtain ⟨Z, M, M2, St, Mn, Pr, St2, Mn2, Pr2, In, C, z0, z1, z2, z3, z4, z5, z6, z7, z8, z9, z11, z12, zr, zs, ht⟩ := hR1
  have hz0 : zR Z (↑rL : Int) (Z 21) (Z 22) = Z := by
    funext j
    unfold zR
    by_cases e1 : j = 22
    · rw [e1, pu_s]
    · rw [pu_n e1]
      by_cases e2 : j = 21
      · rw [e2, pu_s]
      · rw [pu_n e2]
        by_cases e3 : j = 20
        · rw [e3, pu_s]; exact ht.2.2.2.2.2.2.2.2.1.symm
        · rw [pu_n e3]
  rw [← hz0] at z0
  have hIn9 := ht.2.2.2.2.2.2.2.2.2
  have hN30 := chn_30 hL hrd.1
  have hMle : M9 ≤ N + 1 := by rw [hM9]; split <;> omega
  have hA9 := sOk_ex (rs := rs) (w := v + 33542) hA hL hrd.1 hv0 hMle (by omega) (by omega)
  refine ⟨⟨_, z0⟩, _, c_X9_readPlan l g b0 622 f1 (b0 + 607) Z M St Mn Pr B P T sc pr ex ps In C rT rL (Z 21) (Z 22) v z0 ⟨by omega, by omega⟩ z1 z3 z4 z5 zr ht.2.2.2.1 hps hpx z9 z11 hIn9 hL htx z12 hok hv0 (by omega) hsc, fun r2 f2 hp => ?_⟩
  obtain ⟨e8, N8, M8, hrd8, hM8, yv, ⟨M1, St1, Mn1, y1, y3, y4, yr⟩, ⟨Z1, y0, y12, y20, yk⟩, y9, ⟨C1, y13⟩, yf⟩ := hp
  obtain ⟨rfl, rfl⟩ := rdE_u hrd hrd8
  rw [← hM9] at hM8
  obtain rfl : M9 = M8 := hM8.symm
  rw [ht.2.2.2.2.1] at yv yr y12
  have ht9 : mT Z1 In ps ps2 sv (exR (sEx rT rL ps P T sc rs M9)) cs cr rT 0 cd0 := by
    obtain ⟨t1, t2, t3, t4, t5, t6, t7, t8, t9, t10⟩ := ht
    unfold mT
    rw [yk 0 (by decide) (by decide) (by decide) (by decide) (by decide) (by decide), yk 9 (by decide) (by decide) (by decide) (by decide) (by decide) (by decide), yk 10 (by decide) (by decide) (by decide) (by decide) (by decide) (by decide), yk 13 (by decide) (by decide) (by decide) (by decide) (by decide) (by decide), yk 14 (by decide) (by decide) (by decide) (by decide) (by decide) (by decide), yk 16 (by decide) (by decide) (by decide) (by decide) (by decide) (by decide)]
    exact ⟨t1, t2, t3, t4, y12, t6, t7, t8, y20, fun k9 hk9 => absurd hk9 (Nat.not_lt_zero _)⟩
  have hQ : mC g f1 b0 B (exP (sEx rT rL ps P T sc rs M9)) (exT (sEx rT rL ps P T sc rs M9)) (exC (sEx rT rL ps P T sc rs M9)) pr ex ps B2 P2 T2 sc2 pr2 ex2 ps2 sv (exR (sEx rT rL ps P T sc rs M9)) cs cr rT 0 := ⟨an9, Tr, C9, c9, a9, m9, q4, q3, hS2.kept (fun q h1 h2 => o q (by omega)), hTr.kept (fun q h1 h2 => o q (by omega)), q5⟩
  have hmR : mR g f2 (b0 + 607) B (exP (sEx rT rL ps P T sc rs M9)) (exT (sEx rT rL ps P T sc rs M9)) (exC (sEx rT rL ps P T sc rs M9)) pr ex ps B2 P2 T2 sc2 pr2 ex2 ps2 sv (exR (sEx rT rL ps P T sc rs M9)) cs cr rT 0 cd0 := ⟨_, _, _, _, _, _, _, _, _, _, _, y0, y1, z2.kept (yf _ (by omega)), y3, y4, z5.kept (yf _ (by omega)), z6.kept (yf _ (by omega)), z7.kept (yf _ (by omega)), z8.kept (yf _ (by omega)), y9, z11.kept (yf _ (by omega)), y13, yr, zs, ht9⟩
  exact ⟨by rw [yv, q1], cd0, B, (exP (sEx rT rL ps P T sc rs M9)), (exT (sEx rT rL ps P T sc rs M9)), (exC (sEx rT rL ps P T sc rs M9)), pr, ex, ps, B2, P2, T2, sc2, pr2, ex2, ps2, sv, (exR (sEx rT rL ps P T sc rs M9)), cs, cr, rT, 0, hA9, (fun h9 => (hS9 h9).mono (by omega)), hx2, hsv, hcs, hcr, Nat.zero_le _, htx, hQ.kept (fun q h1 h2 => yf q (by omega)), hmR, ⟨_, hO1.kept (yf _ (by omega))⟩, ⟨_, hD1.kept (yf _ (by omega))⟩⟩
set_option maxRecDepth 100000 in
set_option maxHeartbeats 2000000 in
theorem j_savedShare (l : Launch) (g : gE) (b0 : Nat) (f : gF) (v cd0 : Int) (hl9 : l.stackTraces = false) (hv0 : 0 ≤ v) (hv1 : v ≤ 20000000) (hI : lwI g b0 v cd0 f) : jD l g b0 f v yL_savedShare cL_savedShare 3 [(0, 7, 10, 82)] 7 103 1 yX9_savedShare cX9_savedShare 1 2 40 [] := by
  obtain ⟨B, P, T, sc, pr, ex, ps, B2, P2, T2, sc2, pr2, ex2, ps2, sv, rs, cs, cr, rT, rL, hA, hS9, hx2, hsv, hcs, hcr, hL, htx, hC, hR, ⟨O, hO⟩, ⟨D, hD⟩⟩ := hI
  obtain ⟨hex, he0, hps, hpx, hp0, hpri, hpar, hok, hokB, hsc, htO, hrp⟩ := id hA
  obtain ⟨an, Tr, rC, rn, ra, rm, hOb, hSt8, hS2, hTr, hRd⟩ := id hC
  have hX := c_X8_savedShare l g b0 622 f b0 B P T sc pr ex ps sv rs an cs cr v hl9 hOb ⟨by omega, by omega⟩ hSt8 hex hps hpx hok hv0 (by omega)
  have hH := c_L_savedShare l g b0 622 f b0 (b0 + 621) () D _ _ _ hX hOb ⟨by omega, by omega⟩ ⟨by omega, by omega⟩ hD (fun r fm hp => by obtain ⟨_, _, rfl⟩ := hp; rfl) (fun E fm hp => hp.1)
  refine ⟨_, hH, fun k f1 hk => ?_⟩
  have hmid : ∃ D1, (∀ q, q ≠ b0 + 621 → f1 q = f q) ∧ arD g f1 (b0 + 621) 1 D1 ∧ k = zI (cd1 (P ps 2 ≠ 0)) ∧ (P ps 2 ≠ 0 → arD g f1 (b0 + 621) 1 (fun _ => svV (P ps))) := by
    rcases hk with ⟨rfl, z, fm, ⟨p1, p2, rfl⟩, h2, h3⟩ | hk
    · subst p2
      exact ⟨_, h3, h2, by unfold cd1; rw [if_pos p1], fun _ => h2⟩
    · rcases hk with ⟨rfl, _, p1, rfl⟩ | hk
      · exact ⟨_, fun q _ => rfl, hD, by unfold cd1; rw [if_neg (by rw [p1]; simp)]; rfl, fun h9 => absurd p1 h9⟩
      · exact hk.elim
  obtain ⟨D1, hfr, hD1, rfl, hval⟩ := hmid
  have hR1 := hR.kept (fun q h1 h2 => hfr q (by omega))
  have hO1 := hO.kept (hfr (b0 + 620) (by omega))
  have hC1 := hC.kept (fun q h1 h2 => hfr q (by omega))
  obtain ⟨Z, M, M2, St, Mn, Pr, St2, Mn2, Pr2, In, C, z0, z1, z2, z3, z4, z5, z6, z7, z8, z9, z11, z12, zr, zs, ht⟩ := hR1
  refine ⟨⟨_, z0⟩, _, c_X9_savedShare l g b0 622 f1 (b0 + 607) Z M P ps v z0 (mpAt_of z1 (fun i hi => ((zr ps hps).1 hpx).1 i hi)) ⟨by omega, by omega⟩ z9 ht.2.2.2.1 hps (hok ps hps) hv0 (by omega), fun r f2 hp => ?_⟩
  obtain ⟨Z1, y0, yk, yc, yv, yf⟩ := hp
  have ht9 := ht.keep yk yc
  have hmR : mR g f2 (b0 + 607) B P T sc pr ex ps B2 P2 T2 sc2 pr2 ex2 ps2 sv rs cs cr rT rL (cd1 (P ps 2 ≠ 0)) := ⟨_, _, _, _, _, _, _, _, _, _, _, y0, z1.kept (yf _ (by omega)), z2.kept (yf _ (by omega)), z3.kept (yf _ (by omega)), z4.kept (yf _ (by omega)), z5.kept (yf _ (by omega)), z6.kept (yf _ (by omega)), z7.kept (yf _ (by omega)), z8.kept (yf _ (by omega)), ⟨⟨_, z9.1.choose_spec.kept (yf _ (by omega))⟩, ⟨_, z9.2.choose_spec.kept (yf _ (by omega))⟩⟩, z11.kept (yf _ (by omega)), z12.kept (yf _ (by omega)), zr, zs, ht9⟩
  refine ⟨cd1 (P ps 2 ≠ 0), by unfold cd1; split <;> exact ⟨by omega, by omega⟩, rfl, ⟨B, P, T, sc, pr, ex, ps, B2, P2, T2, sc2, pr2, ex2, ps2, sv, rs, cs, cr, rT, rL, hA.mono (by omega), (fun h9 => (hS9 h9).mono (by omega)), hx2, hsv, hcs, hcr, hL, htx, hC1.kept (fun q h1 h2 => yf q (by omega)), hmR, ⟨_, hO1.kept (yf _ (by omega))⟩, ⟨_, hD1.kept (yf _ (by omega))⟩⟩, fun h0 => ?_⟩
  have hne : P ps 2 ≠ 0 := by
    intro e9
    unfold cd1 at h0
    rw [if_neg (by rw [e9]; simp)] at h0
    exact absurd h0 (by decide)
  rw [yv (yc.trans h0)]
  have hp2 := (hok ps hps).2.2.2.2.1
  have hp2a : 0 ≤ P ps 2 := by have m := (hok ps hps).2.2.2.1; obtain ⟨m0, m3, mb, mc⟩ := m; have hb0 : 0 ≤ bS (P ps) := (sSum_ge (n := 10) mb).1; omega
  exact ⟨(hval hne).kept (yf _ (by omega)), dv_ok (zL_nz ⟨by omega, by omega⟩ hne)⟩
