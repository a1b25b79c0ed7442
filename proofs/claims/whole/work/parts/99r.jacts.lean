/-! what changes the branches, the reader, the saved set -/
theorem mT.sel {Z In : Nat → Int} {ps ps2 : Nat} {sv rs cs cr : Int} {rT : Nat → Int} {rL : Nat} {cd : Int} (H : mT Z In ps ps2 sv rs cs cr rT rL cd) {z : Int} {q : Nat} (hz : (↑q : Int) = z) : mT (pu (pu Z 0 0) 9 z) In q ps2 sv rs cs cr rT rL 0 := by
  obtain ⟨a, b, c, d, e, f, g, h, i, j⟩ := H
  exact ⟨a, b, rfl, hz.symm, e, f, g, h, i, j⟩
theorem mT.conf {Z Z1 In : Nat → Int} {ps ps2 : Nat} {sv rs cs cr cs1 cr1 : Int} {rT : Nat → Int} {rL : Nat} {cd cd1 : Int} (H : mT Z In ps ps2 sv rs cs cr rT rL cd) (hz : ∀ k, k ≠ 0 → k ≠ 11 → k ≠ 15 → k ≠ 13 → k ≠ 14 → Z1 k = Z k) (h0 : Z1 0 = cd1) (h13 : Z1 13 = cs1) (h14 : Z1 14 = cr1) (hn : cr1 ≠ 0) : mT Z1 In ps ps2 sv rs cs1 cr1 rT rL cd1 := by
  obtain ⟨a, b, c, d, e, f, g, h, i, j⟩ := H
  unfold mT
  rw [hz 10 (by decide) (by decide) (by decide) (by decide) (by decide), hz 9 (by decide) (by decide) (by decide) (by decide) (by decide), hz 12 (by decide) (by decide) (by decide) (by decide) (by decide), hz 16 (by decide) (by decide) (by decide) (by decide) (by decide), hz 20 (by decide) (by decide) (by decide) (by decide) (by decide)]
  exact ⟨a, b, h0, d, e, fun q => absurd q hn, fun _ => ⟨h13, h14⟩, h, i, j⟩
theorem fre {ex : Nat → Int} : ∀ n : Nat, (∀ j, j < n → ex j = 1) ∨ ∃ b, b < n ∧ ex b ≠ 1 ∧ ∀ j, j < b → ex j = 1
  | 0 => Or.inl (fun j hj => absurd hj (Nat.not_lt_zero _))
  | n + 1 => by
    rcases fre (ex := ex) n with h | ⟨b, h1, h2, h3⟩
    · by_cases e : ex n = 1
      · exact Or.inl (fun j hj => by
          rcases Nat.lt_or_ge j n with q | q
          · exact h j q
          · rw [show j = n by omega]; exact e)
      · exact Or.inr ⟨n, by omega, e, h⟩
    · exact Or.inr ⟨b, by omega, h2, h3⟩
theorem fre_u {ex : Nat → Int} {a b : Nat} (a2 : ex a ≠ 1) (a3 : ∀ j, j < a → ex j = 1) (b2 : ex b ≠ 1) (b3 : ∀ j, j < b → ex j = 1) : a = b := by
  rcases Nat.lt_trichotomy a b with q | q | q
  · exact absurd (b3 a q) a2
  · exact q
  · exact absurd (a3 b q) b2
theorem sRp_bad {T : Nat → Int} {bf : Int} {X : Nat → Int} : ∀ n : Nat, (sRp T (-1) bf X n).1 = true → sRef (sRp T (-1) bf X n).2.2 (T ((sRp T (-1) bf X n).2.1 * 5)) (T ((sRp T (-1) bf X n).2.1 * 5 + 1)) (T ((sRp T (-1) bf X n).2.1 * 5 + 2)) (T ((sRp T (-1) bf X n).2.1 * 5 + 3)) (T ((sRp T (-1) bf X n).2.1 * 5 + 4)) (60 ≤ bf + (↑(sRp T (-1) bf X n).2.1 : Int)) ≠ 0
  | 0, h => absurd h Bool.false_ne_true
  | n + 1, h => by
    have ih := sRp_bad (T := T) (bf := bf) (X := X) n
    rw [sRp_succ] at h ⊢
    by_cases e : (sRp T (-1) bf X n).1 = true
    · have e9 : sRpT T (-1) bf n (sRp T (-1) bf X n) = sRp T (-1) bf X n := by unfold sRpT; rw [if_pos e]
      rw [e9]
      exact ih e
    · have hc := sRp_pre (T := T) (sk := -1) (bf := bf) (X := X) (n := n) (i := n) (Bool.eq_false_iff.mpr e) (Nat.le_refl n)
      rw [hc] at h ⊢
      unfold sRpT at h ⊢
      rw [if_neg (by exact Bool.false_ne_true), if_neg (show ¬ (n : Int) = -1 by omega)] at h ⊢
      dsimp only at h ⊢
      by_cases r0 : sRef (sRp T (-1) bf X n).2.2 (T (n * 5)) (T (n * 5 + 1)) (T (n * 5 + 2)) (T (n * 5 + 3)) (T (n * 5 + 4)) (60 ≤ bf + (↑n : Int)) = 0
      · rw [if_pos r0] at h
        exact absurd h Bool.false_ne_true
      · rw [if_neg r0]
        exact r0
theorem rdE_u {T : Nat → Int} {L : Nat} {e e1 : Int} {N N1 : Nat} (h : rdE T L e N) (h1 : rdE T L e1 N1) : N = N1 ∧ e = e1 := by
  have nx59 : ∀ a, nx T L a = 59 → a < L := fun a q => by
    unfold nx at q
    split at q
    · assumption
    · exact absurd q (by decide)
  have key : ∀ {e : Int} {N N1 : Nat}, rdE T L e N → chn T L N1 → ¬ N < N1 := fun {e N N1} h h1 hlt => by
    obtain ⟨q1, q2⟩ := h1 N hlt
    rcases h.2 with ⟨_, r2, _⟩ | ⟨r | ⟨_, r⟩, _⟩
    · exact r2 (nx59 _ q2)
    · rw [q1] at r; exact absurd r.symm Bool.false_ne_true
    · exact r q2
  have hN : N = N1 := by
    have a := key h h1.1
    have b := key h1 h.1
    omega
  subst hN
  refine ⟨rfl, ?_⟩
  rcases h.2 with ⟨r1, r2, r3⟩ | ⟨r, r3⟩ <;> rcases h1.2 with ⟨s1, s2, s3⟩ | ⟨s, s3⟩
  · rw [r3, s3]
  · rcases s with s | ⟨s, _⟩
    · rw [s] at r1; exact absurd r1 Bool.false_ne_true
    · exact absurd s r2
  · rcases r with r | ⟨r, _⟩
    · rw [r] at s1; exact absurd s1 Bool.false_ne_true
    · exact absurd r s2
  · rw [r3, s3]
set_option maxRecDepth 100000 in
set_option maxHeartbeats 2000000 in
theorem j_select (l : Launch) (g : gE) (b0 : Nat) (f : gF) (v cd0 : Int) (a : Int) (hra : rI a) (hl9 : l.stackTraces = false) (hv0 : 0 ≤ v) (hv1 : v ≤ 20000000) (hI : lwI g b0 v cd0 f) : jI l g b0 f v yL_select cL_select 4 [(0, 9, 12, 90)] 7 104 1 yX9_select cX9_select 3 2 46 [.int (zI a)] := by
  obtain ⟨B, P, T, sc, pr, ex, ps, B2, P2, T2, sc2, pr2, ex2, ps2, sv, rs, cs, cr, rT, rL, hA, hS9, hx2, hsv, hcs, hcr, hL, htx, hC, hR, ⟨O, hO⟩, ⟨D, hD⟩⟩ := hI
  obtain ⟨hex, he0, hps, hpx, hp0, hpri, hpar, hok, hokB, hsc, htO, hrp⟩ := id hA
  obtain ⟨an, Tr, rC, rn, ra, rm, hOb, hSt8, hS2, hTr, hRd⟩ := id hC
  have hX := c_X8_select l g b0 622 f b0 B P T sc pr ex ps sv rs an cs cr a hl9 hOb ⟨by omega, by omega⟩ hSt8 hex hps hpx hra
  have hH := c_L_select l g b0 622 f b0 (b0 + 620) a O _ _ _ hX hOb ⟨by omega, by omega⟩ ⟨by omega, by omega⟩ hO (fun r fm hp => by obtain ⟨_, _, _, o⟩ := hp; exact o _ (by omega)) (fun E fm hp => by
      exact hp.1
    )
  refine ⟨_, hH, fun k f1 hk => ?_⟩
  by_cases hF : FD ex a
  · skip
    have hae : ((a.toNat : Nat) : Int) = a := by omega
    have hmid := hQ_mid (Q := fun cd f1 => mC g f1 b0 B P T sc pr ex a.toNat B2 P2 T2 sc2 pr2 ex2 ps2 sv rs cs cr rT rL) (R := fun cd => cd = 0) (q := fun z => rI z ∧ zI z = zI (↑ps)) hk ⟨O, hO⟩ (fun z fm hp => by
        obtain ⟨hz, q1, q2, q3, o⟩ := hp
        rw [← hae] at q3
        exact ⟨fun q h1 => o q (by omega), rfl, ⟨hz, q2⟩, fun f2 h2 => mC.kept ⟨an, Tr, rC, rn, ra, rm, hOb.kept (o _ (by omega)), q3, hS2.kept (fun q h1 h2 => o q (by omega)), hTr.kept (fun q h1 h2 => o q (by omega)), hRd.kept (fun q h1 h2 => o q (by omega))⟩ (fun q _ h3 => h2 q (by omega))⟩
      ) (fun i E hi hp => by
        rcases i with _ | i
        · obtain rfl : exN3 = E := Option.some.inj hi
          exact absurd hF hp.2.1
        · exact absurd hi (by simp)
      ) (by decide)
    obtain ⟨cd, hcd, rfl, hRc, hQ, hfr, ⟨O1, hO1⟩, hval⟩ := hmid
    have hRc : cd = 0 := hRc
    have hR1 := hR.kept (fun q h1 h2 => hfr q h1 (by omega))
    have hD1 := hD.kept (hfr (b0 + 621) (by omega) (by omega))
    obtain ⟨Z, M, M2, St, Mn, Pr, St2, Mn2, Pr2, In, C, z0, z1, z2, z3, z4, z5, z6, z7, z8, z9, z11, z12, zr, zs, ht⟩ := hR1
    refine ⟨⟨_, z0⟩, _, c_X9_select l g b0 622 f1 (b0 + 607) Z Mn sc ex ps a z0 ⟨by omega, by omega⟩ z4 (mRel_mn zr (fun k hk _ => hsc k hk)) ht.2.2.2.1 hra, fun r f2 hp => ?_⟩
    have hp := Or.resolve_right hp (fun h => h.1 hF)
    obtain ⟨_, yv, y0, yf⟩ := hp
    have ht9 := ht.sel hae
    have hmR : mR g f2 (b0 + 607) B P T sc pr ex a.toNat B2 P2 T2 sc2 pr2 ex2 ps2 sv rs cs cr rT rL 0 := ⟨_, _, _, _, _, _, _, _, _, _, _, y0, z1.kept (yf _ (by omega)), z2.kept (yf _ (by omega)), z3.kept (yf _ (by omega)), z4.kept (yf _ (by omega)), z5.kept (yf _ (by omega)), z6.kept (yf _ (by omega)), z7.kept (yf _ (by omega)), z8.kept (yf _ (by omega)), ⟨⟨_, z9.1.choose_spec.kept (yf _ (by omega))⟩, ⟨_, z9.2.choose_spec.kept (yf _ (by omega))⟩⟩, z11.kept (yf _ (by omega)), z12.kept (yf _ (by omega)), zr, zs, ht9⟩
    refine ⟨cd, hcd, rfl, ⟨B, P, T, sc, pr, ex, a.toNat, B2, P2, T2, sc2, pr2, ex2, ps2, sv, rs, cs, cr, rT, rL, ((sOk_sel hA hF).mono (by omega)), (fun h9 => (hS9 h9).mono (by omega)), hx2, hsv, hcs, hcr, hL, htx, hQ.kept (fun q h1 h2 => yf q (by omega)), by rw [hRc]; exact hmR, ⟨_, hO1.kept (yf _ (by omega))⟩, ⟨_, hD1.kept (yf _ (by omega))⟩⟩, fun h0 => ?_⟩
    obtain ⟨z, hz1, hz2⟩ := hval h0
    refine ⟨z, hz1.kept (yf _ (by omega)), ?_⟩
    exact ⟨hz2.1, by rw [yv, ← hz2.2]⟩
  · skip
    have hmid := hQ_mid (Q := fun cd f1 => mC g f1 b0 B P T sc pr ex ps B2 P2 T2 sc2 pr2 ex2 ps2 sv rs cs cr rT rL) (R := fun cd => cd = 1) (q := fun z => False) hk ⟨O, hO⟩ (fun z fm hp => by
        exact absurd hp.2.1 hF
      ) (fun i E hi hp => by
        rcases i with _ | i
        · obtain rfl : exN3 = E := Option.some.inj hi
          obtain ⟨_, _, rfl⟩ := hp
          exact ⟨fun q _ => rfl, rfl, hC⟩
        · exact absurd hi (by simp)
      ) (by decide)
    obtain ⟨cd, hcd, rfl, hRc, hQ, hfr, ⟨O1, hO1⟩, hval⟩ := hmid
    have hRc : cd = 1 := hRc
    have hR1 := hR.kept (fun q h1 h2 => hfr q h1 (by omega))
    have hD1 := hD.kept (hfr (b0 + 621) (by omega) (by omega))
    obtain ⟨Z, M, M2, St, Mn, Pr, St2, Mn2, Pr2, In, C, z0, z1, z2, z3, z4, z5, z6, z7, z8, z9, z11, z12, zr, zs, ht⟩ := hR1
    refine ⟨⟨_, z0⟩, _, c_X9_select l g b0 622 f1 (b0 + 607) Z Mn sc ex ps a z0 ⟨by omega, by omega⟩ z4 (mRel_mn zr (fun k hk _ => hsc k hk)) ht.2.2.2.1 hra, fun r f2 hp => ?_⟩
    have hp := Or.resolve_left hp (fun h => hF h.1)
    obtain ⟨_, y0, yf⟩ := hp
    have ht9 := ht.keep zKeep_pu (pu_s Z 0 1)
    have hmR : mR g f2 (b0 + 607) B P T sc pr ex ps B2 P2 T2 sc2 pr2 ex2 ps2 sv rs cs cr rT rL 1 := ⟨_, _, _, _, _, _, _, _, _, _, _, y0, z1.kept (yf _ (by omega)), z2.kept (yf _ (by omega)), z3.kept (yf _ (by omega)), z4.kept (yf _ (by omega)), z5.kept (yf _ (by omega)), z6.kept (yf _ (by omega)), z7.kept (yf _ (by omega)), z8.kept (yf _ (by omega)), ⟨⟨_, z9.1.choose_spec.kept (yf _ (by omega))⟩, ⟨_, z9.2.choose_spec.kept (yf _ (by omega))⟩⟩, z11.kept (yf _ (by omega)), z12.kept (yf _ (by omega)), zr, zs, ht9⟩
    refine ⟨cd, hcd, rfl, ⟨B, P, T, sc, pr, ex, ps, B2, P2, T2, sc2, pr2, ex2, ps2, sv, rs, cs, cr, rT, rL, (hA.mono (by omega)), (fun h9 => (hS9 h9).mono (by omega)), hx2, hsv, hcs, hcr, hL, htx, hQ.kept (fun q h1 h2 => yf q (by omega)), by rw [hRc]; exact hmR, ⟨_, hO1.kept (yf _ (by omega))⟩, ⟨_, hD1.kept (yf _ (by omega))⟩⟩, fun h0 => ?_⟩
    obtain ⟨z, hz1, hz2⟩ := hval h0
    refine ⟨z, hz1.kept (yf _ (by omega)), ?_⟩
    exact hz2.elim
set_option maxRecDepth 100000 in
set_option maxHeartbeats 2000000 in
theorem j_fork (l : Launch) (g : gE) (b0 : Nat) (f : gF) (v cd0 : Int)  (hl9 : l.stackTraces = false) (hv0 : 0 ≤ v) (hv1 : v ≤ 20000000) (hI : lwI g b0 v cd0 f) : jI l g b0 f v yL_fork cL_fork 3 [(0, 8, 11, 15)] 7 167 1 yX9_fork cX9_fork 2 1 23 [] := by
  obtain ⟨B, P, T, sc, pr, ex, ps, B2, P2, T2, sc2, pr2, ex2, ps2, sv, rs, cs, cr, rT, rL, hA, hS9, hx2, hsv, hcs, hcr, hL, htx, hC, hR, ⟨O, hO⟩, ⟨D, hD⟩⟩ := hI
  obtain ⟨hex, he0, hps, hpx, hp0, hpri, hpar, hok, hokB, hsc, htO, hrp⟩ := id hA
  obtain ⟨an, Tr, rC, rn, ra, rm, hOb, hSt8, hS2, hTr, hRd⟩ := id hC
  have hX := c_X8_fork l g b0 622 f b0 B P T sc pr ex ps sv rs an cs cr hl9 hOb ⟨by omega, by omega⟩ hSt8 hex hps hpx
  have hH := c_L_fork l g b0 622 f b0 (b0 + 620) () O _ _ _ hX hOb ⟨by omega, by omega⟩ ⟨by omega, by omega⟩ hO (fun r fm hp => by obtain ⟨_, _, _, _, _, _, o⟩ := hp; exact o _ (by omega)) (fun E fm hp => by
      exact hp.1
    )
  refine ⟨_, hH, fun k f1 hk => ?_⟩
  rcases fre (ex := ex) 6 with hF | ⟨b, hb1, hb2, hb3⟩
  · skip
    have hmid := hQ_mid (Q := fun cd f1 => mC g f1 b0 B P T sc pr ex ps B2 P2 T2 sc2 pr2 ex2 ps2 sv rs cs cr rT rL) (R := fun cd => cd = 1) (q := fun z => False) hk ⟨O, hO⟩ (fun z fm hp => by
        obtain ⟨_, b9, q1, q2, _⟩ := hp
        exact absurd (hF b9 q1) q2
      ) (fun i E hi hp => by
        rcases i with _ | i
        · obtain rfl : exN1 = E := Option.some.inj hi
          obtain ⟨_, _, rfl⟩ := hp
          exact ⟨fun q _ => rfl, rfl, hC⟩
        · exact absurd hi (by simp)
      ) (by decide)
    obtain ⟨cd, hcd, rfl, hRc, hQ, hfr, ⟨O1, hO1⟩, hval⟩ := hmid
    have hRc : cd = 1 := hRc
    have hR1 := hR.kept (fun q h1 h2 => hfr q h1 (by omega))
    have hD1 := hD.kept (hfr (b0 + 621) (by omega) (by omega))
    obtain ⟨Z, M, M2, St, Mn, Pr, St2, Mn2, Pr2, In, C, z0, z1, z2, z3, z4, z5, z6, z7, z8, z9, z11, z12, zr, zs, ht⟩ := hR1
    refine ⟨⟨_, z0⟩, _, c_X9_forkB l g b0 622 f1 (b0 + 607) Z M St Mn Pr B P T sc pr ex ps z0 ⟨by omega, by omega⟩ z1 z3 z4 z5 zr ht.2.2.2.1 hps hpx (fun k hk _ => hsc k hk) hex hpri hp0, fun r f2 hp => ?_⟩
    have hp := Or.resolve_left hp (fun ⟨b9, h1, h2, _⟩ => h2 (hF b9 h1))
    obtain ⟨_, y0, yf⟩ := hp
    have ht9 := ht.keep zKeep_pu (pu_s Z 0 1)
    have hmR : mR g f2 (b0 + 607) B P T sc pr ex ps B2 P2 T2 sc2 pr2 ex2 ps2 sv rs cs cr rT rL 1 := ⟨_, _, _, _, _, _, _, _, _, _, _, y0, z1.kept (yf _ (by omega)), z2.kept (yf _ (by omega)), z3.kept (yf _ (by omega)), z4.kept (yf _ (by omega)), z5.kept (yf _ (by omega)), z6.kept (yf _ (by omega)), z7.kept (yf _ (by omega)), z8.kept (yf _ (by omega)), ⟨⟨_, z9.1.choose_spec.kept (yf _ (by omega))⟩, ⟨_, z9.2.choose_spec.kept (yf _ (by omega))⟩⟩, z11.kept (yf _ (by omega)), z12.kept (yf _ (by omega)), zr, zs, ht9⟩
    refine ⟨cd, hcd, rfl, ⟨B, P, T, sc, pr, ex, ps, B2, P2, T2, sc2, pr2, ex2, ps2, sv, rs, cs, cr, rT, rL, (hA.mono (by omega)), (fun h9 => (hS9 h9).mono (by omega)), hx2, hsv, hcs, hcr, hL, htx, hQ.kept (fun q h1 h2 => yf q (by omega)), by rw [hRc]; exact hmR, ⟨_, hO1.kept (yf _ (by omega))⟩, ⟨_, hD1.kept (yf _ (by omega))⟩⟩, fun h0 => ?_⟩
    obtain ⟨z, hz1, hz2⟩ := hval h0
    refine ⟨z, hz1.kept (yf _ (by omega)), ?_⟩
    exact hz2.elim
  · skip
    have hmid := hQ_mid (Q := fun cd f1 => mC g f1 b0 (fu B b (P ps)) (fu P b (P ps)) T (fu sc b 0) (fu pr b ↑ps) (fu ex b 1) ps B2 P2 T2 sc2 pr2 ex2 ps2 sv rs cs cr rT rL) (R := fun cd => cd = 0) (q := fun z => rI z ∧ zI z = zI (↑b)) hk ⟨O, hO⟩ (fun z fm hp => by
        obtain ⟨hz, b9, q0, q1, q2, q8, q3, o⟩ := hp
        obtain rfl : b = b9 := (fre_u q1 q2 hb2 hb3).symm
        exact ⟨fun q h1 => o q (by omega), rfl, ⟨hz, q8⟩, fun f2 h2 => mC.kept ⟨an, Tr, rC, rn, ra, rm, hOb.kept (o _ (by omega)), q3, hS2.kept (fun q h1 h2 => o q (by omega)), hTr.kept (fun q h1 h2 => o q (by omega)), hRd.kept (fun q h1 h2 => o q (by omega))⟩ (fun q _ h3 => h2 q (by omega))⟩
      ) (fun i E hi hp => by
        rcases i with _ | i
        · obtain rfl : exN1 = E := Option.some.inj hi
          exact absurd (hp.2.1 b hb1) hb2
        · exact absurd hi (by simp)
      ) (by decide)
    obtain ⟨cd, hcd, rfl, hRc, hQ, hfr, ⟨O1, hO1⟩, hval⟩ := hmid
    have hRc : cd = 0 := hRc
    have hR1 := hR.kept (fun q h1 h2 => hfr q h1 (by omega))
    have hD1 := hD.kept (hfr (b0 + 621) (by omega) (by omega))
    obtain ⟨Z, M, M2, St, Mn, Pr, St2, Mn2, Pr2, In, C, z0, z1, z2, z3, z4, z5, z6, z7, z8, z9, z11, z12, zr, zs, ht⟩ := hR1
    refine ⟨⟨_, z0⟩, _, c_X9_forkB l g b0 622 f1 (b0 + 607) Z M St Mn Pr B P T sc pr ex ps z0 ⟨by omega, by omega⟩ z1 z3 z4 z5 zr ht.2.2.2.1 hps hpx (fun k hk _ => hsc k hk) hex hpri hp0, fun r f2 hp => ?_⟩
    have hp := Or.resolve_right hp (fun h => hb2 (h.1 b hb1))
    obtain ⟨b9, _, q1, q2, yv, y0, M1, y1, y4, y5, yr, yf⟩ := hp
    obtain rfl : b = b9 := (fre_u q1 q2 hb2 hb3).symm
    have ht9 := ht.keep zKeep_pu (pu_s Z 0 0)
    have hmR : mR g f2 (b0 + 607) (fu B b (P ps)) (fu P b (P ps)) T (fu sc b 0) (fu pr b ↑ps) (fu ex b 1) ps B2 P2 T2 sc2 pr2 ex2 ps2 sv rs cs cr rT rL 0 := ⟨_, _, _, _, _, _, _, _, _, _, _, y0, y1, z2.kept (yf _ (by omega)), z3.kept (yf _ (by omega)), y4, y5, z6.kept (yf _ (by omega)), z7.kept (yf _ (by omega)), z8.kept (yf _ (by omega)), ⟨⟨_, z9.1.choose_spec.kept (yf _ (by omega))⟩, ⟨_, z9.2.choose_spec.kept (yf _ (by omega))⟩⟩, z11.kept (yf _ (by omega)), z12.kept (yf _ (by omega)), yr, zs, ht9⟩
    refine ⟨cd, hcd, rfl, ⟨(fu B b (P ps)), (fu P b (P ps)), T, (fu sc b 0), (fu pr b ↑ps), (fu ex b 1), ps, B2, P2, T2, sc2, pr2, ex2, ps2, sv, rs, cs, cr, rT, rL, ((sOk_fork hA hb1 hb2).mono (by omega)), (fun h9 => (hS9 h9).mono (by omega)), hx2, hsv, hcs, hcr, hL, htx, hQ.kept (fun q h1 h2 => yf q (by omega)), by rw [hRc]; exact hmR, ⟨_, hO1.kept (yf _ (by omega))⟩, ⟨_, hD1.kept (yf _ (by omega))⟩⟩, fun h0 => ?_⟩
    obtain ⟨z, hz1, hz2⟩ := hval h0
    refine ⟨z, hz1.kept (yf _ (by omega)), ?_⟩
    exact ⟨hz2.1, by rw [yv, ← hz2.2]⟩
set_option maxRecDepth 100000 in
set_option maxHeartbeats 2000000 in
theorem j_discard (l : Launch) (g : gE) (b0 : Nat) (f : gF) (v cd0 : Int) (a : Int) (hra : rI a) (hl9 : l.stackTraces = false) (hv0 : 0 ≤ v) (hv1 : v ≤ 20000000) (hI : lwI g b0 v cd0 f) : jI l g b0 f v yL_discard cL_discard 4 [(0, 9, 12, 90), (0, 9, 15, 15)] 7 104 1 yX9_discard cX9_discard 3 2 46 [.int (zI a)] := by
  obtain ⟨B, P, T, sc, pr, ex, ps, B2, P2, T2, sc2, pr2, ex2, ps2, sv, rs, cs, cr, rT, rL, hA, hS9, hx2, hsv, hcs, hcr, hL, htx, hC, hR, ⟨O, hO⟩, ⟨D, hD⟩⟩ := hI
  obtain ⟨hex, he0, hps, hpx, hp0, hpri, hpar, hok, hokB, hsc, htO, hrp⟩ := id hA
  obtain ⟨an, Tr, rC, rn, ra, rm, hOb, hSt8, hS2, hTr, hRd⟩ := id hC
  have hX := c_X8_discard l g b0 622 f b0 B P T sc pr ex ps sv rs an cs cr a hl9 hOb ⟨by omega, by omega⟩ hSt8 hex hps hpx hpri hra
  have hH := c_L_discard l g b0 622 f b0 (b0 + 620) a O _ _ _ hX hOb ⟨by omega, by omega⟩ ⟨by omega, by omega⟩ hO (fun r fm hp => by obtain ⟨_, _, _, _, o⟩ := hp; exact o _ (by omega)) (fun E fm hp => by
      rcases hp with ⟨h9, _⟩ | ⟨h9, _⟩
      · exact Or.inl h9
      · exact Or.inr h9
    )
  refine ⟨_, hH, fun k f1 hk => ?_⟩
  by_cases hF : FD ex a
  · skip
    by_cases hH : HELD pr ex ps a
    · skip
      have hmid := hQ_mid (Q := fun cd f1 => mC g f1 b0 B P T sc pr ex ps B2 P2 T2 sc2 pr2 ex2 ps2 sv rs cs cr rT rL) (R := fun cd => cd = 2) (q := fun z => False) hk ⟨O, hO⟩ (fun z fm hp => by
          exact absurd hH hp.2.2.1
        ) (fun i E hi hp => by
          rcases i with _ | _ | i
          · obtain rfl : exN3 = E := Option.some.inj hi
            rcases hp with ⟨_, h8, _⟩ | ⟨h9, _⟩
            · exact absurd hF h8
            · exact absurd h9 (by decide)
          · obtain rfl : exN1 = E := Option.some.inj hi
            rcases hp with ⟨h9, _⟩ | ⟨_, _, _, rfl⟩
            · exact absurd h9 (by decide)
            · exact ⟨fun q _ => rfl, rfl, hC⟩
          · exact absurd hi (by simp)
        ) (by decide)
      obtain ⟨cd, hcd, rfl, hRc, hQ, hfr, ⟨O1, hO1⟩, hval⟩ := hmid
      have hRc : cd = 2 := hRc
      have hR1 := hR.kept (fun q h1 h2 => hfr q h1 (by omega))
      have hD1 := hD.kept (hfr (b0 + 621) (by omega) (by omega))
      obtain ⟨Z, M, M2, St, Mn, Pr, St2, Mn2, Pr2, In, C, z0, z1, z2, z3, z4, z5, z6, z7, z8, z9, z11, z12, zr, zs, ht⟩ := hR1
      refine ⟨⟨_, z0⟩, _, c_X9_discardB l g b0 622 f1 (b0 + 607) Z M St Mn Pr B P T sc pr ex ps a z0 ⟨by omega, by omega⟩ z1 z3 z4 z5 zr ht.2.2.2.1 hps hpx (fun k hk _ => hsc k hk) hex hpri hp0 hra, fun r f2 hp => ?_⟩
      have hp := Or.resolve_left (Or.resolve_left hp (fun h => h.2.1 hH)) (fun h => h.1 hF)
      obtain ⟨_, _, y0, yf⟩ := hp
      have ht9 := ht.keep zKeep_pu (pu_s Z 0 2)
      have hmR : mR g f2 (b0 + 607) B P T sc pr ex ps B2 P2 T2 sc2 pr2 ex2 ps2 sv rs cs cr rT rL 2 := ⟨_, _, _, _, _, _, _, _, _, _, _, y0, z1.kept (yf _ (by omega)), z2.kept (yf _ (by omega)), z3.kept (yf _ (by omega)), z4.kept (yf _ (by omega)), z5.kept (yf _ (by omega)), z6.kept (yf _ (by omega)), z7.kept (yf _ (by omega)), z8.kept (yf _ (by omega)), ⟨⟨_, z9.1.choose_spec.kept (yf _ (by omega))⟩, ⟨_, z9.2.choose_spec.kept (yf _ (by omega))⟩⟩, z11.kept (yf _ (by omega)), z12.kept (yf _ (by omega)), zr, zs, ht9⟩
      refine ⟨cd, hcd, rfl, ⟨B, P, T, sc, pr, ex, ps, B2, P2, T2, sc2, pr2, ex2, ps2, sv, rs, cs, cr, rT, rL, (hA.mono (by omega)), (fun h9 => (hS9 h9).mono (by omega)), hx2, hsv, hcs, hcr, hL, htx, hQ.kept (fun q h1 h2 => yf q (by omega)), by rw [hRc]; exact hmR, ⟨_, hO1.kept (yf _ (by omega))⟩, ⟨_, hD1.kept (yf _ (by omega))⟩⟩, fun h0 => ?_⟩
      obtain ⟨z, hz1, hz2⟩ := hval h0
      refine ⟨z, hz1.kept (yf _ (by omega)), ?_⟩
      exact hz2.elim
    · skip
      have hmid := hQ_mid (Q := fun cd f1 => mC g f1 b0 B P T sc pr (fu ex a.toNat 0) ps B2 P2 T2 sc2 pr2 ex2 ps2 sv rs cs cr rT rL) (R := fun cd => cd = 0) (q := fun z => rI z ∧ zI z = zI (↑(sc a.toNat))) hk ⟨O, hO⟩ (fun z fm hp => by
          obtain ⟨hz, _, _, q2, q3, o⟩ := hp
          exact ⟨fun q h1 => o q (by omega), rfl, ⟨hz, q2⟩, fun f2 h2 => mC.kept ⟨an, Tr, rC, rn, ra, rm, hOb.kept (o _ (by omega)), q3, hS2.kept (fun q h1 h2 => o q (by omega)), hTr.kept (fun q h1 h2 => o q (by omega)), hRd.kept (fun q h1 h2 => o q (by omega))⟩ (fun q _ h3 => h2 q (by omega))⟩
        ) (fun i E hi hp => by
          rcases i with _ | _ | i
          · obtain rfl : exN3 = E := Option.some.inj hi
            rcases hp with ⟨_, h8, _⟩ | ⟨_, _, h8, _⟩
            · exact absurd hF h8
            · exact absurd h8 hH
          · obtain rfl : exN1 = E := Option.some.inj hi
            rcases hp with ⟨_, h8, _⟩ | ⟨_, _, h8, _⟩
            · exact absurd hF h8
            · exact absurd h8 hH
          · exact absurd hi (by simp)
        ) (by decide)
      obtain ⟨cd, hcd, rfl, hRc, hQ, hfr, ⟨O1, hO1⟩, hval⟩ := hmid
      have hRc : cd = 0 := hRc
      have hR1 := hR.kept (fun q h1 h2 => hfr q h1 (by omega))
      have hD1 := hD.kept (hfr (b0 + 621) (by omega) (by omega))
      obtain ⟨Z, M, M2, St, Mn, Pr, St2, Mn2, Pr2, In, C, z0, z1, z2, z3, z4, z5, z6, z7, z8, z9, z11, z12, zr, zs, ht⟩ := hR1
      refine ⟨⟨_, z0⟩, _, c_X9_discardB l g b0 622 f1 (b0 + 607) Z M St Mn Pr B P T sc pr ex ps a z0 ⟨by omega, by omega⟩ z1 z3 z4 z5 zr ht.2.2.2.1 hps hpx (fun k hk _ => hsc k hk) hex hpri hp0 hra, fun r f2 hp => ?_⟩
      have hp := Or.resolve_right hp (fun h => h.elim (fun h => h.1 hF) (fun h => hH h.2.1))
      obtain ⟨_, _, yv, y0, y4, yf⟩ := hp
      have ht9 := ht.keep zKeep_pu (pu_s Z 0 0)
      have hmR : mR g f2 (b0 + 607) B P T sc pr (fu ex a.toNat 0) ps B2 P2 T2 sc2 pr2 ex2 ps2 sv rs cs cr rT rL 0 := ⟨_, _, _, _, _, _, _, _, _, _, _, y0, z1.kept (yf _ (by omega)), z2.kept (yf _ (by omega)), z3.kept (yf _ (by omega)), y4, z5.kept (yf _ (by omega)), z6.kept (yf _ (by omega)), z7.kept (yf _ (by omega)), z8.kept (yf _ (by omega)), ⟨⟨_, z9.1.choose_spec.kept (yf _ (by omega))⟩, ⟨_, z9.2.choose_spec.kept (yf _ (by omega))⟩⟩, z11.kept (yf _ (by omega)), z12.kept (yf _ (by omega)), (mRel_gone zr), zs, ht9⟩
      refine ⟨cd, hcd, rfl, ⟨B, P, T, sc, pr, (fu ex a.toNat 0), ps, B2, P2, T2, sc2, pr2, ex2, ps2, sv, rs, cs, cr, rT, rL, ((sOk_gone hA hF hH).mono (by omega)), (fun h9 => (hS9 h9).mono (by omega)), hx2, hsv, hcs, hcr, hL, htx, hQ.kept (fun q h1 h2 => yf q (by omega)), by rw [hRc]; exact hmR, ⟨_, hO1.kept (yf _ (by omega))⟩, ⟨_, hD1.kept (yf _ (by omega))⟩⟩, fun h0 => ?_⟩
      obtain ⟨z, hz1, hz2⟩ := hval h0
      refine ⟨z, hz1.kept (yf _ (by omega)), ?_⟩
      exact ⟨hz2.1, by rw [yv, ← hz2.2]⟩
  · skip
    have hmid := hQ_mid (Q := fun cd f1 => mC g f1 b0 B P T sc pr ex ps B2 P2 T2 sc2 pr2 ex2 ps2 sv rs cs cr rT rL) (R := fun cd => cd = 1) (q := fun z => False) hk ⟨O, hO⟩ (fun z fm hp => by
        exact absurd hp.2.1 hF
      ) (fun i E hi hp => by
        rcases i with _ | _ | i
        · obtain rfl : exN3 = E := Option.some.inj hi
          rcases hp with ⟨_, _, rfl⟩ | ⟨h9, _⟩
          · exact ⟨fun q _ => rfl, rfl, hC⟩
          · exact absurd h9 (by decide)
        · obtain rfl : exN1 = E := Option.some.inj hi
          rcases hp with ⟨h9, _⟩ | ⟨_, h8, _⟩
          · exact absurd h9 (by decide)
          · exact absurd h8 hF
        · exact absurd hi (by simp)
      ) (by decide)
    obtain ⟨cd, hcd, rfl, hRc, hQ, hfr, ⟨O1, hO1⟩, hval⟩ := hmid
    have hRc : cd = 1 := hRc
    have hR1 := hR.kept (fun q h1 h2 => hfr q h1 (by omega))
    have hD1 := hD.kept (hfr (b0 + 621) (by omega) (by omega))
    obtain ⟨Z, M, M2, St, Mn, Pr, St2, Mn2, Pr2, In, C, z0, z1, z2, z3, z4, z5, z6, z7, z8, z9, z11, z12, zr, zs, ht⟩ := hR1
    refine ⟨⟨_, z0⟩, _, c_X9_discardB l g b0 622 f1 (b0 + 607) Z M St Mn Pr B P T sc pr ex ps a z0 ⟨by omega, by omega⟩ z1 z3 z4 z5 zr ht.2.2.2.1 hps hpx (fun k hk _ => hsc k hk) hex hpri hp0 hra, fun r f2 hp => ?_⟩
    have hp := Or.resolve_right (Or.resolve_left hp (fun h => hF h.1)) (fun h => hF h.1)
    obtain ⟨_, y0, yf⟩ := hp
    have ht9 := ht.keep zKeep_pu (pu_s Z 0 1)
    have hmR : mR g f2 (b0 + 607) B P T sc pr ex ps B2 P2 T2 sc2 pr2 ex2 ps2 sv rs cs cr rT rL 1 := ⟨_, _, _, _, _, _, _, _, _, _, _, y0, z1.kept (yf _ (by omega)), z2.kept (yf _ (by omega)), z3.kept (yf _ (by omega)), z4.kept (yf _ (by omega)), z5.kept (yf _ (by omega)), z6.kept (yf _ (by omega)), z7.kept (yf _ (by omega)), z8.kept (yf _ (by omega)), ⟨⟨_, z9.1.choose_spec.kept (yf _ (by omega))⟩, ⟨_, z9.2.choose_spec.kept (yf _ (by omega))⟩⟩, z11.kept (yf _ (by omega)), z12.kept (yf _ (by omega)), zr, zs, ht9⟩
    refine ⟨cd, hcd, rfl, ⟨B, P, T, sc, pr, ex, ps, B2, P2, T2, sc2, pr2, ex2, ps2, sv, rs, cs, cr, rT, rL, (hA.mono (by omega)), (fun h9 => (hS9 h9).mono (by omega)), hx2, hsv, hcs, hcr, hL, htx, hQ.kept (fun q h1 h2 => yf q (by omega)), by rw [hRc]; exact hmR, ⟨_, hO1.kept (yf _ (by omega))⟩, ⟨_, hD1.kept (yf _ (by omega))⟩⟩, fun h0 => ?_⟩
    obtain ⟨z, hz1, hz2⟩ := hval h0
    refine ⟨z, hz1.kept (yf _ (by omega)), ?_⟩
    exact hz2.elim
set_option maxRecDepth 100000 in
set_option maxHeartbeats 2000000 in
theorem j_merge (l : Launch) (g : gE) (b0 : Nat) (f : gF) (v cd0 : Int) (a : Int) (hra : rI a) (hl9 : l.stackTraces = false) (hv0 : 0 ≤ v) (hv1 : v ≤ 20000000) (hI : lwI g b0 v cd0 f) : jI l g b0 f v yL_merge cL_merge 4 [(0, 9, 12, 90), (0, 9, 15, 15), (0, 9, 18, 108)] 7 182 1 yX9_merge cX9_merge 6 9 274 [.int (zI a)] := by
  obtain ⟨B, P, T, sc, pr, ex, ps, B2, P2, T2, sc2, pr2, ex2, ps2, sv, rs, cs, cr, rT, rL, hA, hS9, hx2, hsv, hcs, hcr, hL, htx, hC, hR, ⟨O, hO⟩, ⟨D, hD⟩⟩ := hI
  obtain ⟨hex, he0, hps, hpx, hp0, hpri, hpar, hok, hokB, hsc, htO, hrp⟩ := id hA
  obtain ⟨an, Tr, rC, rn, ra, rm, hOb, hSt8, hS2, hTr, hRd⟩ := id hC
  obtain ⟨pz, hpz⟩ := sOk_pz (z := a) hA
  have hX := c_X8_merge l g b0 622 f b0 B P T sc pr ex ps sv rs an cs cr Tr a pz v hl9 hOb ⟨by omega, by omega⟩ hSt8 hex hps hpx hpri hTr hsc hok hv0 (by omega) (fun k hk _ => htO k hk) hra hpz
  have hH := c_L_merge l g b0 622 f b0 (b0 + 620) a O _ _ _ hX hOb ⟨by omega, by omega⟩ ⟨by omega, by omega⟩ hO (fun r fm hp => by obtain ⟨_, _, _, _, _, _, o⟩ := hp; exact o _ (by omega)) (fun E fm hp => by
      rcases hp with ⟨h9, _⟩ | ⟨h9, _⟩ | ⟨h9, _⟩
      · exact Or.inl h9
      · exact Or.inr (Or.inl h9)
      · exact Or.inr (Or.inr h9)
    )
  refine ⟨_, hH, fun k f1 hk => ?_⟩
  by_cases hF : FD ex a
  · skip
    by_cases hH : HELD pr ex ps a
    · skip
      have hmid := hQ_mid (Q := fun cd f1 => mC g f1 b0 B P T sc pr ex ps B2 P2 T2 sc2 pr2 ex2 ps2 sv rs cs cr rT rL) (R := fun cd => cd = 2) (q := fun z => False) hk ⟨O, hO⟩ (fun z fm hp => by
          exact absurd hH hp.2.2.1
        ) (fun i E hi hp => by
          rcases i with _ | _ | _ | i
          · obtain rfl : exN3 = E := Option.some.inj hi
            rcases hp with ⟨h9, h8, h7⟩ | ⟨h9, h8, h7, h6⟩ | ⟨h9, h8, h7, h6, q9, ⟨Tr1, ht1⟩, o⟩
            · exact absurd hF h8
            · exact absurd h9 (by decide)
            · exact absurd h9 (by decide)
          · obtain rfl : exN1 = E := Option.some.inj hi
            rcases hp with ⟨h9, h8, h7⟩ | ⟨h9, h8, h7, h6⟩ | ⟨h9, h8, h7, h6, q9, ⟨Tr1, ht1⟩, o⟩
            · exact absurd h9 (by decide)
            · subst h6; exact ⟨fun q _ => rfl, rfl, hC⟩
            · exact absurd h9 (by decide)
          · obtain rfl : exN4 = E := Option.some.inj hi
            rcases hp with ⟨h9, h8, h7⟩ | ⟨h9, h8, h7, h6⟩ | ⟨h9, h8, h7, h6, q9, ⟨Tr1, ht1⟩, o⟩
            · exact absurd h9 (by decide)
            · exact absurd h9 (by decide)
            · exact absurd hH h7
          · exact absurd hi (by simp)
        ) (by decide)
      obtain ⟨cd, hcd, rfl, hRc, hQ, hfr, ⟨O1, hO1⟩, hval⟩ := hmid
      have hRc : cd = 2 := hRc
      have hR1 := hR.kept (fun q h1 h2 => hfr q h1 (by omega))
      have hD1 := hD.kept (hfr (b0 + 621) (by omega) (by omega))
      obtain ⟨Z, M, M2, St, Mn, Pr, St2, Mn2, Pr2, In, C, z0, z1, z2, z3, z4, z5, z6, z7, z8, z9, z11, z12, zr, zs, ht⟩ := hR1
      refine ⟨⟨_, z0⟩, _, c_X9_mergeB l g b0 622 f1 (b0 + 607) Z M St Mn Pr B P T sc pr ex ps a pz v z0 ⟨by omega, by omega⟩ z1 z3 z4 z5 zr ht.2.2.2.1 hps hpx (fun k hk _ => hsc k hk) hex hpri hp0 z9 hok hv0 (by omega) (fun k hk _ => htO k hk) hra hpz, fun r f2 hp => ?_⟩
      have hp := Or.resolve_right (Or.resolve_left hp (fun h => h.1 hF)) (fun h => h.elim (fun h => h.2.1 hH) (fun h => h.2.1 hH))
      obtain ⟨_, _, y0, yf⟩ := hp
      have ht9 := ht.keep zKeep_pu (pu_s Z 0 2)
      have hmR : mR g f2 (b0 + 607) B P T sc pr ex ps B2 P2 T2 sc2 pr2 ex2 ps2 sv rs cs cr rT rL 2 := ⟨_, _, _, _, _, _, _, _, _, _, _, y0, z1.kept (yf _ (by omega)), z2.kept (yf _ (by omega)), z3.kept (yf _ (by omega)), z4.kept (yf _ (by omega)), z5.kept (yf _ (by omega)), z6.kept (yf _ (by omega)), z7.kept (yf _ (by omega)), z8.kept (yf _ (by omega)), ⟨⟨_, z9.1.choose_spec.kept (yf _ (by omega))⟩, ⟨_, z9.2.choose_spec.kept (yf _ (by omega))⟩⟩, z11.kept (yf _ (by omega)), z12.kept (yf _ (by omega)), zr, zs, ht9⟩
      refine ⟨cd, hcd, rfl, ⟨B, P, T, sc, pr, ex, ps, B2, P2, T2, sc2, pr2, ex2, ps2, sv, rs, cs, cr, rT, rL, (hA.mono (by omega)), (fun h9 => (hS9 h9).mono (by omega)), hx2, hsv, hcs, hcr, hL, htx, hQ.kept (fun q h1 h2 => yf q (by omega)), by rw [hRc]; exact hmR, ⟨_, hO1.kept (yf _ (by omega))⟩, ⟨_, hD1.kept (yf _ (by omega))⟩⟩, fun h0 => ?_⟩
      obtain ⟨z, hz1, hz2⟩ := hval h0
      refine ⟨z, hz1.kept (yf _ (by omega)), ?_⟩
      exact hz2.elim
    · skip
      obtain ⟨hpe, hp6, hpx9, hpne⟩ := hpz hF hH
      have hrc := @sRp_cnt (T a.toNat) (-1) (↑(sc pz) : Int) (P pz) (sc a.toNat)
      have hza := hsc a.toNat (by omega)
      by_cases hG : (sRp (T a.toNat) (-1) (↑(sc pz) : Int) (P pz) (sc a.toNat)).1 = true
      · skip
        have hlt9 := hrc.2 hG
        have hbd9 := sRp_bad (sc a.toNat) hG
        have hrf9 := ref_in (P := (sRp (T a.toNat) (-1) (↑(sc pz) : Int) (P pz) (sc a.toNat)).2.2) (kd := T a.toNat ((sRp (T a.toNat) (-1) (↑(sc pz) : Int) (P pz) (sc a.toNat)).2.1 * 5)) (a := T a.toNat ((sRp (T a.toNat) (-1) (↑(sc pz) : Int) (P pz) (sc a.toNat)).2.1 * 5 + 1)) (b := T a.toNat ((sRp (T a.toNat) (-1) (↑(sc pz) : Int) (P pz) (sc a.toNat)).2.1 * 5 + 2)) (x := T a.toNat ((sRp (T a.toNat) (-1) (↑(sc pz) : Int) (P pz) (sc a.toNat)).2.1 * 5 + 3)) (y := T a.toNat ((sRp (T a.toNat) (-1) (↑(sc pz) : Int) (P pz) (sc a.toNat)).2.1 * 5 + 4)) (full := (60 ≤ (↑(sc pz) : Int) + (↑(sRp (T a.toNat) (-1) (↑(sc pz) : Int) (P pz) (sc a.toNat)).2.1 : Int)))
        have hmid := hQ_mid (Q := fun cd f1 => mC g f1 b0 B P T sc pr ex ps B2 P2 T2 sc2 pr2 ex2 ps2 sv rs (↑(sRp (T a.toNat) (-1) (↑(sc pz) : Int) (P pz) (sc a.toNat)).2.1 : Int) (sRef (sRp (T a.toNat) (-1) (↑(sc pz) : Int) (P pz) (sc a.toNat)).2.2 (T a.toNat ((sRp (T a.toNat) (-1) (↑(sc pz) : Int) (P pz) (sc a.toNat)).2.1 * 5)) (T a.toNat ((sRp (T a.toNat) (-1) (↑(sc pz) : Int) (P pz) (sc a.toNat)).2.1 * 5 + 1)) (T a.toNat ((sRp (T a.toNat) (-1) (↑(sc pz) : Int) (P pz) (sc a.toNat)).2.1 * 5 + 2)) (T a.toNat ((sRp (T a.toNat) (-1) (↑(sc pz) : Int) (P pz) (sc a.toNat)).2.1 * 5 + 3)) (T a.toNat ((sRp (T a.toNat) (-1) (↑(sc pz) : Int) (P pz) (sc a.toNat)).2.1 * 5 + 4)) (60 ≤ (↑(sc pz) : Int) + (↑(sRp (T a.toNat) (-1) (↑(sc pz) : Int) (P pz) (sc a.toNat)).2.1 : Int))) rT rL) (R := fun cd => cd = 3) (q := fun z => False) hk ⟨O, hO⟩ (fun z fm hp => by
            have h9 := hp.2.2.2.1
            rw [hG] at h9
            exact absurd h9.symm Bool.false_ne_true
          ) (fun i E hi hp => by
            rcases i with _ | _ | _ | i
            · obtain rfl : exN3 = E := Option.some.inj hi
              rcases hp with ⟨h9, h8, h7⟩ | ⟨h9, h8, h7, h6⟩ | ⟨h9, h8, h7, h6, q9, ⟨Tr1, ht1⟩, o⟩
              · exact absurd hF h8
              · exact absurd h9 (by decide)
              · exact absurd h9 (by decide)
            · obtain rfl : exN1 = E := Option.some.inj hi
              rcases hp with ⟨h9, h8, h7⟩ | ⟨h9, h8, h7, h6⟩ | ⟨h9, h8, h7, h6, q9, ⟨Tr1, ht1⟩, o⟩
              · exact absurd h9 (by decide)
              · exact absurd h7 hH
              · exact absurd h9 (by decide)
            · obtain rfl : exN4 = E := Option.some.inj hi
              rcases hp with ⟨h9, h8, h7⟩ | ⟨h9, h8, h7, h6⟩ | ⟨h9, h8, h7, h6, q9, ⟨Tr1, ht1⟩, o⟩
              · exact absurd h9 (by decide)
              · exact absurd h9 (by decide)
              · exact ⟨fun q h1 => o q (by omega), rfl, ⟨an, Tr1, rC, rn, ra, rm, q9, hSt8.kept (fun q h1 h2 => o q (by omega)), hS2.kept (fun q h1 h2 => o q (by omega)), ht1, hRd.kept (fun q h1 h2 => o q (by omega))⟩⟩
            · exact absurd hi (by simp)
          ) (by decide)
        obtain ⟨cd, hcd, rfl, hRc, hQ, hfr, ⟨O1, hO1⟩, hval⟩ := hmid
        have hRc : cd = 3 := hRc
        have hR1 := hR.kept (fun q h1 h2 => hfr q h1 (by omega))
        have hD1 := hD.kept (hfr (b0 + 621) (by omega) (by omega))
        obtain ⟨Z, M, M2, St, Mn, Pr, St2, Mn2, Pr2, In, C, z0, z1, z2, z3, z4, z5, z6, z7, z8, z9, z11, z12, zr, zs, ht⟩ := hR1
        refine ⟨⟨_, z0⟩, _, c_X9_mergeB l g b0 622 f1 (b0 + 607) Z M St Mn Pr B P T sc pr ex ps a pz v z0 ⟨by omega, by omega⟩ z1 z3 z4 z5 zr ht.2.2.2.1 hps hpx (fun k hk _ => hsc k hk) hex hpri hp0 z9 hok hv0 (by omega) (fun k hk _ => htO k hk) hra hpz, fun r f2 hp => ?_⟩
        have hp := Or.resolve_right (Or.resolve_left (Or.resolve_left hp (fun h => h.1 hF)) (fun h => hH h.2.1)) (fun h => by
            have h9 := h.2.2.1
            rw [hG] at h9
            exact absurd h9.symm Bool.false_ne_true)
        obtain ⟨_, _, _, ⟨M1, y1, ym⟩, y3, y4, ⟨Z1, y0, yk, y00, y13, y14⟩, y9, yf⟩ := hp
        have ht9 := ht.conf yk y00 y13 y14 hbd9
        have hmR : mR g f2 (b0 + 607) B P T sc pr ex ps B2 P2 T2 sc2 pr2 ex2 ps2 sv rs (↑(sRp (T a.toNat) (-1) (↑(sc pz) : Int) (P pz) (sc a.toNat)).2.1 : Int) (sRef (sRp (T a.toNat) (-1) (↑(sc pz) : Int) (P pz) (sc a.toNat)).2.2 (T a.toNat ((sRp (T a.toNat) (-1) (↑(sc pz) : Int) (P pz) (sc a.toNat)).2.1 * 5)) (T a.toNat ((sRp (T a.toNat) (-1) (↑(sc pz) : Int) (P pz) (sc a.toNat)).2.1 * 5 + 1)) (T a.toNat ((sRp (T a.toNat) (-1) (↑(sc pz) : Int) (P pz) (sc a.toNat)).2.1 * 5 + 2)) (T a.toNat ((sRp (T a.toNat) (-1) (↑(sc pz) : Int) (P pz) (sc a.toNat)).2.1 * 5 + 3)) (T a.toNat ((sRp (T a.toNat) (-1) (↑(sc pz) : Int) (P pz) (sc a.toNat)).2.1 * 5 + 4)) (60 ≤ (↑(sc pz) : Int) + (↑(sRp (T a.toNat) (-1) (↑(sc pz) : Int) (P pz) (sc a.toNat)).2.1 : Int))) rT rL 3 := ⟨_, _, _, _, _, _, _, _, _, _, _, y0, y1, z2.kept (yf _ (by omega)), y3, y4, z5.kept (yf _ (by omega)), z6.kept (yf _ (by omega)), z7.kept (yf _ (by omega)), z8.kept (yf _ (by omega)), y9, z11.kept (yf _ (by omega)), z12.kept (yf _ (by omega)), (mRel_scr zr ym), zs, ht9⟩
        refine ⟨cd, hcd, rfl, ⟨B, P, T, sc, pr, ex, ps, B2, P2, T2, sc2, pr2, ex2, ps2, sv, rs, (↑(sRp (T a.toNat) (-1) (↑(sc pz) : Int) (P pz) (sc a.toNat)).2.1 : Int), (sRef (sRp (T a.toNat) (-1) (↑(sc pz) : Int) (P pz) (sc a.toNat)).2.2 (T a.toNat ((sRp (T a.toNat) (-1) (↑(sc pz) : Int) (P pz) (sc a.toNat)).2.1 * 5)) (T a.toNat ((sRp (T a.toNat) (-1) (↑(sc pz) : Int) (P pz) (sc a.toNat)).2.1 * 5 + 1)) (T a.toNat ((sRp (T a.toNat) (-1) (↑(sc pz) : Int) (P pz) (sc a.toNat)).2.1 * 5 + 2)) (T a.toNat ((sRp (T a.toNat) (-1) (↑(sc pz) : Int) (P pz) (sc a.toNat)).2.1 * 5 + 3)) (T a.toNat ((sRp (T a.toNat) (-1) (↑(sc pz) : Int) (P pz) (sc a.toNat)).2.1 * 5 + 4)) (60 ≤ (↑(sc pz) : Int) + (↑(sRp (T a.toNat) (-1) (↑(sc pz) : Int) (P pz) (sc a.toNat)).2.1 : Int))), rT, rL, (hA.mono (by omega)), (fun h9 => (hS9 h9).mono (by omega)), hx2, hsv, ⟨by omega, by omega⟩, hrf9, hL, htx, hQ.kept (fun q h1 h2 => yf q (by omega)), by rw [hRc]; exact hmR, ⟨_, hO1.kept (yf _ (by omega))⟩, ⟨_, hD1.kept (yf _ (by omega))⟩⟩, fun h0 => ?_⟩
        obtain ⟨z, hz1, hz2⟩ := hval h0
        refine ⟨z, hz1.kept (yf _ (by omega)), ?_⟩
        exact hz2.elim
      · skip
        have hG : (sRp (T a.toNat) (-1) (↑(sc pz) : Int) (P pz) (sc a.toNat)).1 = false := Bool.eq_false_iff.mpr hG
        have hrm9 := sRp_room hG
        have hs60 : sc pz + sc a.toNat ≤ 60 := by
          have hsp := hsc pz hp6
          rcases Nat.eq_zero_or_pos (sc a.toNat) with q | q
          · omega
          · have := hrm9 (sc a.toNat - 1) (by omega); omega
        have hX9 := sRp_ok (sk := -1) (bf := (↑(sc pz) : Int)) (hok pz hp6) hv0 (htO a.toNat (by omega)) (n := sc a.toNat) (Nat.le_refl _) (by omega)
        have hA9 := sOk_gone (sOk_plan (w := v + 33542) hA (by omega) (pOkL_mono hX9 (by omega)) hs60 (tOk_all (sc a.toNat) (htO pz hp6) (htO a.toNat (by omega))) (RPL_merge (hrp pz hp6) hG)) hF hH
        have hmid := hQ_mid (Q := fun cd f1 => mC g f1 b0 B (fu P pz (sRp (T a.toNat) (-1) (↑(sc pz) : Int) (P pz) (sc a.toNat)).2.2) (fu T pz (rcAll (T pz) (sc pz) (T a.toNat) (sc a.toNat))) (fu sc pz (sc pz + sc a.toNat)) pr (fu ex a.toNat 0) ps B2 P2 T2 sc2 pr2 ex2 ps2 sv rs cs cr rT rL) (R := fun cd => cd = 0) (q := fun z => rI z ∧ zI z = zI (↑(sc a.toNat))) hk ⟨O, hO⟩ (fun z fm hp => by
            obtain ⟨hz, _, _, _, q2, q3, ⟨Tr1, ht1⟩, o⟩ := hp
            exact ⟨fun q h1 => o q (by omega), rfl, ⟨hz, q2⟩, fun f2 h2 => mC.kept ⟨an, Tr1, rC, rn, ra, rm, hOb.kept (o _ (by omega)), q3, hS2.kept (fun q h1 h2 => o q (by omega)), ht1, hRd.kept (fun q h1 h2 => o q (by omega))⟩ (fun q _ h3 => h2 q (by omega))⟩
          ) (fun i E hi hp => by
            rcases i with _ | _ | _ | i
            · obtain rfl : exN3 = E := Option.some.inj hi
              rcases hp with ⟨h9, h8, h7⟩ | ⟨h9, h8, h7, h6⟩ | ⟨h9, h8, h7, h6, q9, ⟨Tr1, ht1⟩, o⟩
              · exact absurd hF h8
              · exact absurd h9 (by decide)
              · exact absurd h9 (by decide)
            · obtain rfl : exN1 = E := Option.some.inj hi
              rcases hp with ⟨h9, h8, h7⟩ | ⟨h9, h8, h7, h6⟩ | ⟨h9, h8, h7, h6, q9, ⟨Tr1, ht1⟩, o⟩
              · exact absurd h9 (by decide)
              · exact absurd h7 hH
              · exact absurd h9 (by decide)
            · obtain rfl : exN4 = E := Option.some.inj hi
              rcases hp with ⟨h9, h8, h7⟩ | ⟨h9, h8, h7, h6⟩ | ⟨h9, h8, h7, h6, q9, ⟨Tr1, ht1⟩, o⟩
              · exact absurd h9 (by decide)
              · exact absurd h9 (by decide)
              · rw [hG] at h6; exact absurd h6 Bool.false_ne_true
            · exact absurd hi (by simp)
          ) (by decide)
        obtain ⟨cd, hcd, rfl, hRc, hQ, hfr, ⟨O1, hO1⟩, hval⟩ := hmid
        have hRc : cd = 0 := hRc
        have hR1 := hR.kept (fun q h1 h2 => hfr q h1 (by omega))
        have hD1 := hD.kept (hfr (b0 + 621) (by omega) (by omega))
        obtain ⟨Z, M, M2, St, Mn, Pr, St2, Mn2, Pr2, In, C, z0, z1, z2, z3, z4, z5, z6, z7, z8, z9, z11, z12, zr, zs, ht⟩ := hR1
        refine ⟨⟨_, z0⟩, _, c_X9_mergeB l g b0 622 f1 (b0 + 607) Z M St Mn Pr B P T sc pr ex ps a pz v z0 ⟨by omega, by omega⟩ z1 z3 z4 z5 zr ht.2.2.2.1 hps hpx (fun k hk _ => hsc k hk) hex hpri hp0 z9 hok hv0 (by omega) (fun k hk _ => htO k hk) hra hpz, fun r f2 hp => ?_⟩
        have hp := Or.resolve_left (Or.resolve_left (Or.resolve_left hp (fun h => h.1 hF)) (fun h => hH h.2.1)) (fun h => by
            have h9 := h.2.2.1
            rw [hG] at h9
            exact absurd h9 Bool.false_ne_true)
        obtain ⟨_, _, _, yv, ⟨M1, St1, Mn1, y1, y3, y4, yr⟩, ⟨Z1, y0, yk, y00⟩, y9, yf⟩ := hp
        have ht9 := ht.keep yk y00
        have hmR : mR g f2 (b0 + 607) B (fu P pz (sRp (T a.toNat) (-1) (↑(sc pz) : Int) (P pz) (sc a.toNat)).2.2) (fu T pz (rcAll (T pz) (sc pz) (T a.toNat) (sc a.toNat))) (fu sc pz (sc pz + sc a.toNat)) pr (fu ex a.toNat 0) ps B2 P2 T2 sc2 pr2 ex2 ps2 sv rs cs cr rT rL 0 := ⟨_, _, _, _, _, _, _, _, _, _, _, y0, y1, z2.kept (yf _ (by omega)), y3, y4, z5.kept (yf _ (by omega)), z6.kept (yf _ (by omega)), z7.kept (yf _ (by omega)), z8.kept (yf _ (by omega)), y9, z11.kept (yf _ (by omega)), z12.kept (yf _ (by omega)), yr, zs, ht9⟩
        refine ⟨cd, hcd, rfl, ⟨B, (fu P pz (sRp (T a.toNat) (-1) (↑(sc pz) : Int) (P pz) (sc a.toNat)).2.2), (fu T pz (rcAll (T pz) (sc pz) (T a.toNat) (sc a.toNat))), (fu sc pz (sc pz + sc a.toNat)), pr, (fu ex a.toNat 0), ps, B2, P2, T2, sc2, pr2, ex2, ps2, sv, rs, cs, cr, rT, rL, hA9, (fun h9 => (hS9 h9).mono (by omega)), hx2, hsv, hcs, hcr, hL, htx, hQ.kept (fun q h1 h2 => yf q (by omega)), by rw [hRc]; exact hmR, ⟨_, hO1.kept (yf _ (by omega))⟩, ⟨_, hD1.kept (yf _ (by omega))⟩⟩, fun h0 => ?_⟩
        obtain ⟨z, hz1, hz2⟩ := hval h0
        refine ⟨z, hz1.kept (yf _ (by omega)), ?_⟩
        exact ⟨hz2.1, by rw [yv, ← hz2.2]⟩
  · skip
    have hmid := hQ_mid (Q := fun cd f1 => mC g f1 b0 B P T sc pr ex ps B2 P2 T2 sc2 pr2 ex2 ps2 sv rs cs cr rT rL) (R := fun cd => cd = 1) (q := fun z => False) hk ⟨O, hO⟩ (fun z fm hp => by
        exact absurd hp.2.1 hF
      ) (fun i E hi hp => by
        rcases i with _ | _ | _ | i
        · obtain rfl : exN3 = E := Option.some.inj hi
          rcases hp with ⟨h9, h8, h7⟩ | ⟨h9, h8, h7, h6⟩ | ⟨h9, h8, h7, h6, q9, ⟨Tr1, ht1⟩, o⟩
          · subst h7; exact ⟨fun q _ => rfl, rfl, hC⟩
          · exact absurd h9 (by decide)
          · exact absurd h9 (by decide)
        · obtain rfl : exN1 = E := Option.some.inj hi
          rcases hp with ⟨h9, h8, h7⟩ | ⟨h9, h8, h7, h6⟩ | ⟨h9, h8, h7, h6, q9, ⟨Tr1, ht1⟩, o⟩
          · exact absurd h9 (by decide)
          · exact absurd h8 hF
          · exact absurd h9 (by decide)
        · obtain rfl : exN4 = E := Option.some.inj hi
          rcases hp with ⟨h9, h8, h7⟩ | ⟨h9, h8, h7, h6⟩ | ⟨h9, h8, h7, h6, q9, ⟨Tr1, ht1⟩, o⟩
          · exact absurd h9 (by decide)
          · exact absurd h9 (by decide)
          · exact absurd h8 hF
        · exact absurd hi (by simp)
      ) (by decide)
    obtain ⟨cd, hcd, rfl, hRc, hQ, hfr, ⟨O1, hO1⟩, hval⟩ := hmid
    have hRc : cd = 1 := hRc
    have hR1 := hR.kept (fun q h1 h2 => hfr q h1 (by omega))
    have hD1 := hD.kept (hfr (b0 + 621) (by omega) (by omega))
    obtain ⟨Z, M, M2, St, Mn, Pr, St2, Mn2, Pr2, In, C, z0, z1, z2, z3, z4, z5, z6, z7, z8, z9, z11, z12, zr, zs, ht⟩ := hR1
    refine ⟨⟨_, z0⟩, _, c_X9_mergeB l g b0 622 f1 (b0 + 607) Z M St Mn Pr B P T sc pr ex ps a pz v z0 ⟨by omega, by omega⟩ z1 z3 z4 z5 zr ht.2.2.2.1 hps hpx (fun k hk _ => hsc k hk) hex hpri hp0 z9 hok hv0 (by omega) (fun k hk _ => htO k hk) hra hpz, fun r f2 hp => ?_⟩
    have hp := Or.resolve_right hp (fun h => h.elim (fun h => hF h.1) (fun h => h.elim (fun h => hF h.1) (fun h => hF h.1)))
    obtain ⟨_, y0, yf⟩ := hp
    have ht9 := ht.keep zKeep_pu (pu_s Z 0 1)
    have hmR : mR g f2 (b0 + 607) B P T sc pr ex ps B2 P2 T2 sc2 pr2 ex2 ps2 sv rs cs cr rT rL 1 := ⟨_, _, _, _, _, _, _, _, _, _, _, y0, z1.kept (yf _ (by omega)), z2.kept (yf _ (by omega)), z3.kept (yf _ (by omega)), z4.kept (yf _ (by omega)), z5.kept (yf _ (by omega)), z6.kept (yf _ (by omega)), z7.kept (yf _ (by omega)), z8.kept (yf _ (by omega)), ⟨⟨_, z9.1.choose_spec.kept (yf _ (by omega))⟩, ⟨_, z9.2.choose_spec.kept (yf _ (by omega))⟩⟩, z11.kept (yf _ (by omega)), z12.kept (yf _ (by omega)), zr, zs, ht9⟩
    refine ⟨cd, hcd, rfl, ⟨B, P, T, sc, pr, ex, ps, B2, P2, T2, sc2, pr2, ex2, ps2, sv, rs, cs, cr, rT, rL, (hA.mono (by omega)), (fun h9 => (hS9 h9).mono (by omega)), hx2, hsv, hcs, hcr, hL, htx, hQ.kept (fun q h1 h2 => yf q (by omega)), by rw [hRc]; exact hmR, ⟨_, hO1.kept (yf _ (by omega))⟩, ⟨_, hD1.kept (yf _ (by omega))⟩⟩, fun h0 => ?_⟩
    obtain ⟨z, hz1, hz2⟩ := hval h0
    refine ⟨z, hz1.kept (yf _ (by omega)), ?_⟩
    exact hz2.elim
set_option maxRecDepth 100000 in
set_option maxHeartbeats 2000000 in
theorem j_undo (l : Launch) (g : gE) (b0 : Nat) (f : gF) (v cd0 : Int)  (hl9 : l.stackTraces = false) (hv0 : 0 ≤ v) (hv1 : v ≤ 20000000) (hI : lwI g b0 v cd0 f) : jI l g b0 f v yL_undo cL_undo 3 [(0, 8, 11, 15)] 7 180 1 yX9_undo cX9_undo 2 10 297 [] := by
  obtain ⟨B, P, T, sc, pr, ex, ps, B2, P2, T2, sc2, pr2, ex2, ps2, sv, rs, cs, cr, rT, rL, hA, hS9, hx2, hsv, hcs, hcr, hL, htx, hC, hR, ⟨O, hO⟩, ⟨D, hD⟩⟩ := hI
  obtain ⟨hex, he0, hps, hpx, hp0, hpri, hpar, hok, hokB, hsc, htO, hrp⟩ := id hA
  obtain ⟨an, Tr, rC, rn, ra, rm, hOb, hSt8, hS2, hTr, hRd⟩ := id hC
  have hs60 := hsc ps hps
  have hX := c_X8_undo l g b0 622 f b0 B P T sc pr ex ps sv rs an cs cr Tr v hl9 hOb ⟨by omega, by omega⟩ hSt8 hex hps hpx hTr hsc (hokB ps hps) hv0 (by omega) (htO ps hps)
  have hH := c_L_undo l g b0 622 f b0 (b0 + 620) () O _ _ _ hX hOb ⟨by omega, by omega⟩ ⟨by omega, by omega⟩ hO (fun r fm hp => by obtain ⟨_, _, _, _, o⟩ := hp; exact o _ (by omega)) (fun E fm hp => by
      exact hp.1
    )
  refine ⟨_, hH, fun k f1 hk => ?_⟩
  by_cases hF : sc ps = 0
  · skip
    have hmid := hQ_mid (Q := fun cd f1 => mC g f1 b0 B P T sc pr ex ps B2 P2 T2 sc2 pr2 ex2 ps2 sv rs cs cr rT rL) (R := fun cd => cd = 1) (q := fun z => False) hk ⟨O, hO⟩ (fun z fm hp => by
        have h9 := hp.2.1
        omega
      ) (fun i E hi hp => by
        rcases i with _ | i
        · obtain rfl : exN1 = E := Option.some.inj hi
          obtain ⟨_, _, rfl⟩ := hp
          exact ⟨fun q _ => rfl, rfl, hC⟩
        · exact absurd hi (by simp)
      ) (by decide)
    obtain ⟨cd, hcd, rfl, hRc, hQ, hfr, ⟨O1, hO1⟩, hval⟩ := hmid
    have hRc : cd = 1 := hRc
    have hR1 := hR.kept (fun q h1 h2 => hfr q h1 (by omega))
    have hD1 := hD.kept (hfr (b0 + 621) (by omega) (by omega))
    obtain ⟨Z, M, M2, St, Mn, Pr, St2, Mn2, Pr2, In, C, z0, z1, z2, z3, z4, z5, z6, z7, z8, z9, z11, z12, zr, zs, ht⟩ := hR1
    refine ⟨⟨_, z0⟩, _, c_X9_undoB l g b0 622 f1 (b0 + 607) Z M St Mn Pr B P T sc pr ex ps v z0 ⟨by omega, by omega⟩ z1 z3 z4 z5 zr ht.2.2.2.1 hps hpx (fun k hk _ => hsc k hk) hex hpri hp0 z9 (hokB ps hps) hv0 (by omega) (htO ps hps) (fun h9 => (RPL_undo (hrp ps hps) h9).1), fun r f2 hp => ?_⟩
    have hp := Or.resolve_right hp (fun h => by have h9 := h.1; omega)
    obtain ⟨_, y0, yf⟩ := hp
    have ht9 := ht.keep zKeep_pu (pu_s Z 0 1)
    have hmR : mR g f2 (b0 + 607) B P T sc pr ex ps B2 P2 T2 sc2 pr2 ex2 ps2 sv rs cs cr rT rL 1 := ⟨_, _, _, _, _, _, _, _, _, _, _, y0, z1.kept (yf _ (by omega)), z2.kept (yf _ (by omega)), z3.kept (yf _ (by omega)), z4.kept (yf _ (by omega)), z5.kept (yf _ (by omega)), z6.kept (yf _ (by omega)), z7.kept (yf _ (by omega)), z8.kept (yf _ (by omega)), ⟨⟨_, z9.1.choose_spec.kept (yf _ (by omega))⟩, ⟨_, z9.2.choose_spec.kept (yf _ (by omega))⟩⟩, z11.kept (yf _ (by omega)), z12.kept (yf _ (by omega)), zr, zs, ht9⟩
    refine ⟨cd, hcd, rfl, ⟨B, P, T, sc, pr, ex, ps, B2, P2, T2, sc2, pr2, ex2, ps2, sv, rs, cs, cr, rT, rL, (hA.mono (by omega)), (fun h9 => (hS9 h9).mono (by omega)), hx2, hsv, hcs, hcr, hL, htx, hQ.kept (fun q h1 h2 => yf q (by omega)), by rw [hRc]; exact hmR, ⟨_, hO1.kept (yf _ (by omega))⟩, ⟨_, hD1.kept (yf _ (by omega))⟩⟩, fun h0 => ?_⟩
    obtain ⟨z, hz1, hz2⟩ := hval h0
    refine ⟨z, hz1.kept (yf _ (by omega)), ?_⟩
    exact hz2.elim
  · skip
    have hrp9 := RPL_undo (hrp ps hps) (by omega)
    have hX9 := sRp_ok (sk := (↑(sc ps - 1 : Nat) : Int)) (bf := 0) (hokB ps hps) hv0 (htO ps hps) (n := sc ps) (Nat.le_refl _) (by omega)
    have hA9 := sOk_plan (w := v + 33542) (j := ps) hA (by omega) (pOkL_mono hX9 (by omega)) (by omega) (tOk_sh (k := sc ps - 1) (htO ps hps) (by omega)) hrp9.2
    have hmid := hQ_mid (Q := fun cd f1 => mC g f1 b0 B (fu P ps (sRp (T ps) (↑(sc ps - 1 : Nat) : Int) 0 (B ps) (sc ps)).2.2) (fu T ps (shP (T ps) ((sc ps - 1) * 5) ((sc ps - 1) * 5))) (fu sc ps (sc ps - 1)) pr ex ps B2 P2 T2 sc2 pr2 ex2 ps2 sv rs cs cr rT rL) (R := fun cd => cd = 0) (q := fun z => rI z ∧ zI z = zI ((↑(sc ps) - 1))) hk ⟨O, hO⟩ (fun z fm hp => by
        obtain ⟨hz, _, q2, q3, ⟨Tr1, ht1⟩, o⟩ := hp
        exact ⟨fun q h1 => o q (by omega), rfl, ⟨hz, q2⟩, fun f2 h2 => mC.kept ⟨an, Tr1, rC, rn, ra, rm, hOb.kept (o _ (by omega)), q3, hS2.kept (fun q h1 h2 => o q (by omega)), ht1, hRd.kept (fun q h1 h2 => o q (by omega))⟩ (fun q _ h3 => h2 q (by omega))⟩
      ) (fun i E hi hp => by
        rcases i with _ | i
        · obtain rfl : exN1 = E := Option.some.inj hi
          exact absurd hp.2.1 hF
        · exact absurd hi (by simp)
      ) (by decide)
    obtain ⟨cd, hcd, rfl, hRc, hQ, hfr, ⟨O1, hO1⟩, hval⟩ := hmid
    have hRc : cd = 0 := hRc
    have hR1 := hR.kept (fun q h1 h2 => hfr q h1 (by omega))
    have hD1 := hD.kept (hfr (b0 + 621) (by omega) (by omega))
    obtain ⟨Z, M, M2, St, Mn, Pr, St2, Mn2, Pr2, In, C, z0, z1, z2, z3, z4, z5, z6, z7, z8, z9, z11, z12, zr, zs, ht⟩ := hR1
    refine ⟨⟨_, z0⟩, _, c_X9_undoB l g b0 622 f1 (b0 + 607) Z M St Mn Pr B P T sc pr ex ps v z0 ⟨by omega, by omega⟩ z1 z3 z4 z5 zr ht.2.2.2.1 hps hpx (fun k hk _ => hsc k hk) hex hpri hp0 z9 (hokB ps hps) hv0 (by omega) (htO ps hps) (fun h9 => (RPL_undo (hrp ps hps) h9).1), fun r f2 hp => ?_⟩
    have hp := Or.resolve_left hp (fun h => hF h.1)
    obtain ⟨_, yv, ⟨M1, St1, y1, y3, y4, yr⟩, ⟨Z1, y0, yk, y00⟩, y9, yf⟩ := hp
    have ht9 := ht.keep yk y00
    have hmR : mR g f2 (b0 + 607) B (fu P ps (sRp (T ps) (↑(sc ps - 1 : Nat) : Int) 0 (B ps) (sc ps)).2.2) (fu T ps (shP (T ps) ((sc ps - 1) * 5) ((sc ps - 1) * 5))) (fu sc ps (sc ps - 1)) pr ex ps B2 P2 T2 sc2 pr2 ex2 ps2 sv rs cs cr rT rL 0 := ⟨_, _, _, _, _, _, _, _, _, _, _, y0, y1, z2.kept (yf _ (by omega)), y3, y4, z5.kept (yf _ (by omega)), z6.kept (yf _ (by omega)), z7.kept (yf _ (by omega)), z8.kept (yf _ (by omega)), y9, z11.kept (yf _ (by omega)), z12.kept (yf _ (by omega)), yr, zs, ht9⟩
    refine ⟨cd, hcd, rfl, ⟨B, (fu P ps (sRp (T ps) (↑(sc ps - 1 : Nat) : Int) 0 (B ps) (sc ps)).2.2), (fu T ps (shP (T ps) ((sc ps - 1) * 5) ((sc ps - 1) * 5))), (fu sc ps (sc ps - 1)), pr, ex, ps, B2, P2, T2, sc2, pr2, ex2, ps2, sv, rs, cs, cr, rT, rL, hA9, (fun h9 => (hS9 h9).mono (by omega)), hx2, hsv, hcs, hcr, hL, htx, hQ.kept (fun q h1 h2 => yf q (by omega)), by rw [hRc]; exact hmR, ⟨_, hO1.kept (yf _ (by omega))⟩, ⟨_, hD1.kept (yf _ (by omega))⟩⟩, fun h0 => ?_⟩
    obtain ⟨z, hz1, hz2⟩ := hval h0
    refine ⟨z, hz1.kept (yf _ (by omega)), ?_⟩
    exact ⟨hz2.1, by rw [yv, ← hz2.2]⟩
set_option maxRecDepth 100000 in
set_option maxHeartbeats 2000000 in
theorem j_dropStep (l : Launch) (g : gE) (b0 : Nat) (f : gF) (v cd0 : Int) (a : Int) (hra : rI a) (hl9 : l.stackTraces = false) (hv0 : 0 ≤ v) (hv1 : v ≤ 20000000) (hI : lwI g b0 v cd0 f) : jI l g b0 f v yL_dropStep cL_dropStep 4 [(0, 9, 12, 20), (0, 9, 15, 108)] 8 180 2 yX9_dropStep cX9_dropStep 2 10 297 [.int (zI a)] := by
  obtain ⟨B, P, T, sc, pr, ex, ps, B2, P2, T2, sc2, pr2, ex2, ps2, sv, rs, cs, cr, rT, rL, hA, hS9, hx2, hsv, hcs, hcr, hL, htx, hC, hR, ⟨O, hO⟩, ⟨D, hD⟩⟩ := hI
  obtain ⟨hex, he0, hps, hpx, hp0, hpri, hpar, hok, hokB, hsc, htO, hrp⟩ := id hA
  obtain ⟨an, Tr, rC, rn, ra, rm, hOb, hSt8, hS2, hTr, hRd⟩ := id hC
  have hs60 := hsc ps hps
  have hX := c_X8_dropStep l g b0 622 f b0 B P T sc pr ex ps sv rs an cs cr Tr a v hl9 hOb ⟨by omega, by omega⟩ hSt8 hex hps hpx hTr hsc (hokB ps hps) hv0 (by omega) (htO ps hps) hra
  have hH := c_L_dropStep l g b0 622 f b0 (b0 + 620) a O _ _ _ hX hOb ⟨by omega, by omega⟩ ⟨by omega, by omega⟩ hO (fun r fm hp => by obtain ⟨_, _, _, _, _, o⟩ := hp; exact o _ (by omega)) (fun E fm hp => by
      rcases hp with ⟨h9, _⟩ | ⟨h9, _⟩
      · exact Or.inl h9
      · exact Or.inr h9
    )
  refine ⟨_, hH, fun k f1 hk => ?_⟩
  by_cases hF : 0 ≤ a ∧ a < ↑(sc ps) - 1
  · skip
    by_cases hG : (sRp (T ps) (↑a.toNat : Int) 0 (B ps) (sc ps)).1 = true
    · skip
      have hmid := hQ_mid (Q := fun cd f1 => mC g f1 b0 B P T sc pr ex ps B2 P2 T2 sc2 pr2 ex2 ps2 sv rs cs cr rT rL) (R := fun cd => cd = 2) (q := fun z => False) hk ⟨O, hO⟩ (fun z fm hp => by
          have h9 := hp.2.2.1
          rw [hG] at h9
          exact absurd h9.symm Bool.false_ne_true
        ) (fun i E hi hp => by
          rcases i with _ | _ | i
          · obtain rfl : exN2 = E := Option.some.inj hi
            rcases hp with ⟨h9, h8, h7⟩ | ⟨h9, h8, h7, ⟨Tr1, ht1⟩, o⟩
            · exact absurd hF h8
            · exact absurd h9 (by decide)
          · obtain rfl : exN4 = E := Option.some.inj hi
            rcases hp with ⟨h9, h8, h7⟩ | ⟨h9, h8, h7, ⟨Tr1, ht1⟩, o⟩
            · exact absurd h9 (by decide)
            · exact ⟨fun q h1 => o q (by omega), rfl, ⟨an, Tr1, rC, rn, ra, rm, hOb.kept (o _ (by omega)), hSt8.kept (fun q h1 h2 => o q (by omega)), hS2.kept (fun q h1 h2 => o q (by omega)), ht1, hRd.kept (fun q h1 h2 => o q (by omega))⟩⟩
          · exact absurd hi (by simp)
        ) (by decide)
      obtain ⟨cd, hcd, rfl, hRc, hQ, hfr, ⟨O1, hO1⟩, hval⟩ := hmid
      have hRc : cd = 2 := hRc
      have hR1 := hR.kept (fun q h1 h2 => hfr q h1 (by omega))
      have hD1 := hD.kept (hfr (b0 + 621) (by omega) (by omega))
      obtain ⟨Z, M, M2, St, Mn, Pr, St2, Mn2, Pr2, In, C, z0, z1, z2, z3, z4, z5, z6, z7, z8, z9, z11, z12, zr, zs, ht⟩ := hR1
      refine ⟨⟨_, z0⟩, _, c_X9_dropStepB l g b0 622 f1 (b0 + 607) Z M St Mn Pr B P T sc pr ex ps a v z0 ⟨by omega, by omega⟩ z1 z3 z4 z5 zr ht.2.2.2.1 hps hpx (fun k hk _ => hsc k hk) hex hpri hp0 z9 (hokB ps hps) hv0 (by omega) (htO ps hps) hra, fun r f2 hp => ?_⟩
      have hp := Or.resolve_right (Or.resolve_left hp (fun h => h.1 hF)) (fun h => by
          have h9 := h.2.1
          rw [hG] at h9
          exact absurd h9.symm Bool.false_ne_true)
      obtain ⟨_, _, ⟨M1, y1, ym⟩, y3, y4, ⟨Z1, y0, yk, y00⟩, y9, yf⟩ := hp
      have ht9 := ht.keep yk y00
      have hmR : mR g f2 (b0 + 607) B P T sc pr ex ps B2 P2 T2 sc2 pr2 ex2 ps2 sv rs cs cr rT rL 2 := ⟨_, _, _, _, _, _, _, _, _, _, _, y0, y1, z2.kept (yf _ (by omega)), y3, y4, z5.kept (yf _ (by omega)), z6.kept (yf _ (by omega)), z7.kept (yf _ (by omega)), z8.kept (yf _ (by omega)), y9, z11.kept (yf _ (by omega)), z12.kept (yf _ (by omega)), (mRel_scr zr ym), zs, ht9⟩
      refine ⟨cd, hcd, rfl, ⟨B, P, T, sc, pr, ex, ps, B2, P2, T2, sc2, pr2, ex2, ps2, sv, rs, cs, cr, rT, rL, (hA.mono (by omega)), (fun h9 => (hS9 h9).mono (by omega)), hx2, hsv, hcs, hcr, hL, htx, hQ.kept (fun q h1 h2 => yf q (by omega)), by rw [hRc]; exact hmR, ⟨_, hO1.kept (yf _ (by omega))⟩, ⟨_, hD1.kept (yf _ (by omega))⟩⟩, fun h0 => ?_⟩
      obtain ⟨z, hz1, hz2⟩ := hval h0
      refine ⟨z, hz1.kept (yf _ (by omega)), ?_⟩
      exact hz2.elim
    · skip
      have hG : (sRp (T ps) (↑a.toNat : Int) 0 (B ps) (sc ps)).1 = false := Bool.eq_false_iff.mpr hG
      have hrp9 := RPL_drop (k := a.toNat) (by omega) hs60 hG
      have hX9 := sRp_ok (sk := (↑a.toNat : Int)) (bf := 0) (hokB ps hps) hv0 (htO ps hps) (n := sc ps) (Nat.le_refl _) (by omega)
      have hA9 := sOk_plan (w := v + 33542) (j := ps) hA (by omega) (pOkL_mono hX9 (by omega)) (by omega) (tOk_sh (k := a.toNat) (htO ps hps) (by omega)) hrp9
      have hmid := hQ_mid (Q := fun cd f1 => mC g f1 b0 B (fu P ps (sRp (T ps) (↑a.toNat : Int) 0 (B ps) (sc ps)).2.2) (fu T ps (shP (T ps) (a.toNat * 5) ((sc ps - 1) * 5))) (fu sc ps (sc ps - 1)) pr ex ps B2 P2 T2 sc2 pr2 ex2 ps2 sv rs cs cr rT rL) (R := fun cd => cd = 0) (q := fun z => rI z ∧ zI z = zI ((↑(sc ps) - 1))) hk ⟨O, hO⟩ (fun z fm hp => by
          obtain ⟨hz, _, _, q2, q3, ⟨Tr1, ht1⟩, o⟩ := hp
          exact ⟨fun q h1 => o q (by omega), rfl, ⟨hz, q2⟩, fun f2 h2 => mC.kept ⟨an, Tr1, rC, rn, ra, rm, hOb.kept (o _ (by omega)), q3, hS2.kept (fun q h1 h2 => o q (by omega)), ht1, hRd.kept (fun q h1 h2 => o q (by omega))⟩ (fun q _ h3 => h2 q (by omega))⟩
        ) (fun i E hi hp => by
          rcases i with _ | _ | i
          · obtain rfl : exN2 = E := Option.some.inj hi
            rcases hp with ⟨h9, h8, h7⟩ | ⟨h9, h8, h7, ⟨Tr1, ht1⟩, o⟩
            · exact absurd hF h8
            · exact absurd h9 (by decide)
          · obtain rfl : exN4 = E := Option.some.inj hi
            rcases hp with ⟨h9, h8, h7⟩ | ⟨h9, h8, h7, ⟨Tr1, ht1⟩, o⟩
            · exact absurd h9 (by decide)
            · rw [hG] at h7; exact absurd h7 Bool.false_ne_true
          · exact absurd hi (by simp)
        ) (by decide)
      obtain ⟨cd, hcd, rfl, hRc, hQ, hfr, ⟨O1, hO1⟩, hval⟩ := hmid
      have hRc : cd = 0 := hRc
      have hR1 := hR.kept (fun q h1 h2 => hfr q h1 (by omega))
      have hD1 := hD.kept (hfr (b0 + 621) (by omega) (by omega))
      obtain ⟨Z, M, M2, St, Mn, Pr, St2, Mn2, Pr2, In, C, z0, z1, z2, z3, z4, z5, z6, z7, z8, z9, z11, z12, zr, zs, ht⟩ := hR1
      refine ⟨⟨_, z0⟩, _, c_X9_dropStepB l g b0 622 f1 (b0 + 607) Z M St Mn Pr B P T sc pr ex ps a v z0 ⟨by omega, by omega⟩ z1 z3 z4 z5 zr ht.2.2.2.1 hps hpx (fun k hk _ => hsc k hk) hex hpri hp0 z9 (hokB ps hps) hv0 (by omega) (htO ps hps) hra, fun r f2 hp => ?_⟩
      have hp := Or.resolve_left (Or.resolve_left hp (fun h => h.1 hF)) (fun h => by
          have h9 := h.2.1
          rw [hG] at h9
          exact absurd h9 Bool.false_ne_true)
      obtain ⟨_, _, yv, ⟨M1, St1, y1, y3, y4, yr⟩, ⟨Z1, y0, yk, y00⟩, y9, yf⟩ := hp
      have ht9 := ht.keep yk y00
      have hmR : mR g f2 (b0 + 607) B (fu P ps (sRp (T ps) (↑a.toNat : Int) 0 (B ps) (sc ps)).2.2) (fu T ps (shP (T ps) (a.toNat * 5) ((sc ps - 1) * 5))) (fu sc ps (sc ps - 1)) pr ex ps B2 P2 T2 sc2 pr2 ex2 ps2 sv rs cs cr rT rL 0 := ⟨_, _, _, _, _, _, _, _, _, _, _, y0, y1, z2.kept (yf _ (by omega)), y3, y4, z5.kept (yf _ (by omega)), z6.kept (yf _ (by omega)), z7.kept (yf _ (by omega)), z8.kept (yf _ (by omega)), y9, z11.kept (yf _ (by omega)), z12.kept (yf _ (by omega)), yr, zs, ht9⟩
      refine ⟨cd, hcd, rfl, ⟨B, (fu P ps (sRp (T ps) (↑a.toNat : Int) 0 (B ps) (sc ps)).2.2), (fu T ps (shP (T ps) (a.toNat * 5) ((sc ps - 1) * 5))), (fu sc ps (sc ps - 1)), pr, ex, ps, B2, P2, T2, sc2, pr2, ex2, ps2, sv, rs, cs, cr, rT, rL, hA9, (fun h9 => (hS9 h9).mono (by omega)), hx2, hsv, hcs, hcr, hL, htx, hQ.kept (fun q h1 h2 => yf q (by omega)), by rw [hRc]; exact hmR, ⟨_, hO1.kept (yf _ (by omega))⟩, ⟨_, hD1.kept (yf _ (by omega))⟩⟩, fun h0 => ?_⟩
      obtain ⟨z, hz1, hz2⟩ := hval h0
      refine ⟨z, hz1.kept (yf _ (by omega)), ?_⟩
      exact ⟨hz2.1, by rw [yv, ← hz2.2]⟩
  · skip
    have hmid := hQ_mid (Q := fun cd f1 => mC g f1 b0 B P T sc pr ex ps B2 P2 T2 sc2 pr2 ex2 ps2 sv rs cs cr rT rL) (R := fun cd => cd = 1) (q := fun z => False) hk ⟨O, hO⟩ (fun z fm hp => by
        exact absurd hp.2.1 hF
      ) (fun i E hi hp => by
        rcases i with _ | _ | i
        · obtain rfl : exN2 = E := Option.some.inj hi
          rcases hp with ⟨h9, h8, h7⟩ | ⟨h9, h8, h7, ⟨Tr1, ht1⟩, o⟩
          · subst h7; exact ⟨fun q _ => rfl, rfl, hC⟩
          · exact absurd h9 (by decide)
        · obtain rfl : exN4 = E := Option.some.inj hi
          rcases hp with ⟨h9, h8, h7⟩ | ⟨h9, h8, h7, ⟨Tr1, ht1⟩, o⟩
          · exact absurd h9 (by decide)
          · exact absurd h8 hF
        · exact absurd hi (by simp)
      ) (by decide)
    obtain ⟨cd, hcd, rfl, hRc, hQ, hfr, ⟨O1, hO1⟩, hval⟩ := hmid
    have hRc : cd = 1 := hRc
    have hR1 := hR.kept (fun q h1 h2 => hfr q h1 (by omega))
    have hD1 := hD.kept (hfr (b0 + 621) (by omega) (by omega))
    obtain ⟨Z, M, M2, St, Mn, Pr, St2, Mn2, Pr2, In, C, z0, z1, z2, z3, z4, z5, z6, z7, z8, z9, z11, z12, zr, zs, ht⟩ := hR1
    refine ⟨⟨_, z0⟩, _, c_X9_dropStepB l g b0 622 f1 (b0 + 607) Z M St Mn Pr B P T sc pr ex ps a v z0 ⟨by omega, by omega⟩ z1 z3 z4 z5 zr ht.2.2.2.1 hps hpx (fun k hk _ => hsc k hk) hex hpri hp0 z9 (hokB ps hps) hv0 (by omega) (htO ps hps) hra, fun r f2 hp => ?_⟩
    have hp := Or.resolve_right hp (fun h => h.elim (fun h => hF h.1) (fun h => hF h.1))
    obtain ⟨_, y0, yf⟩ := hp
    have ht9 := ht.keep zKeep_pu (pu_s Z 0 1)
    have hmR : mR g f2 (b0 + 607) B P T sc pr ex ps B2 P2 T2 sc2 pr2 ex2 ps2 sv rs cs cr rT rL 1 := ⟨_, _, _, _, _, _, _, _, _, _, _, y0, z1.kept (yf _ (by omega)), z2.kept (yf _ (by omega)), z3.kept (yf _ (by omega)), z4.kept (yf _ (by omega)), z5.kept (yf _ (by omega)), z6.kept (yf _ (by omega)), z7.kept (yf _ (by omega)), z8.kept (yf _ (by omega)), ⟨⟨_, z9.1.choose_spec.kept (yf _ (by omega))⟩, ⟨_, z9.2.choose_spec.kept (yf _ (by omega))⟩⟩, z11.kept (yf _ (by omega)), z12.kept (yf _ (by omega)), zr, zs, ht9⟩
    refine ⟨cd, hcd, rfl, ⟨B, P, T, sc, pr, ex, ps, B2, P2, T2, sc2, pr2, ex2, ps2, sv, rs, cs, cr, rT, rL, (hA.mono (by omega)), (fun h9 => (hS9 h9).mono (by omega)), hx2, hsv, hcs, hcr, hL, htx, hQ.kept (fun q h1 h2 => yf q (by omega)), by rw [hRc]; exact hmR, ⟨_, hO1.kept (yf _ (by omega))⟩, ⟨_, hD1.kept (yf _ (by omega))⟩⟩, fun h0 => ?_⟩
    obtain ⟨z, hz1, hz2⟩ := hval h0
    refine ⟨z, hz1.kept (yf _ (by omega)), ?_⟩
    exact hz2.elim
set_option maxRecDepth 100000 in
set_option maxHeartbeats 2000000 in
theorem j_feed (l : Launch) (g : gE) (b0 : Nat) (f : gF) (v cd0 : Int) (x : Int) (hx0 : 0 ≤ x) (hx1 : x < 65536) (hl9 : l.stackTraces = false) (hv0 : 0 ≤ v) (hv1 : v ≤ 20000000) (hI : lwI g b0 v cd0 f) : jI l g b0 f v yL_feed cL_feed 4 [(0, 9, 12, 15)] 7 103 1 yX9_feed cX9_feed 2 1 21 [.int (zI x)] := by
  obtain ⟨B, P, T, sc, pr, ex, ps, B2, P2, T2, sc2, pr2, ex2, ps2, sv, rs, cs, cr, rT, rL, hA, hS9, hx2, hsv, hcs, hcr, hL, htx, hC, hR, ⟨O, hO⟩, ⟨D, hD⟩⟩ := hI
  obtain ⟨hex, he0, hps, hpx, hp0, hpri, hpar, hok, hokB, hsc, htO, hrp⟩ := id hA
  obtain ⟨an, Tr, rC, rn, ra, rm, hOb, hSt8, hS2, hTr, hRd⟩ := id hC
  have hX := c_X8_feed l g b0 622 f b0 sv rs an cs cr rT rC rL rn ra rm x hl9 hOb ⟨by omega, by omega⟩ hRd hL hx0 hx1
  have hH := c_L_feed l g b0 622 f b0 (b0 + 620) x O _ _ _ hX hOb ⟨by omega, by omega⟩ ⟨by omega, by omega⟩ hO (fun r fm hp => by obtain ⟨_, _, _, o⟩ := hp; exact o _ (by omega)) (fun E fm hp => by
      exact hp.1
    )
  refine ⟨_, hH, fun k f1 hk => ?_⟩
  by_cases hF : rL < 60
  · skip
    have hmid := hQ_mid (Q := fun cd f1 => mC g f1 b0 B P T sc pr ex ps B2 P2 T2 sc2 pr2 ex2 ps2 sv rs cs cr (pu rT rL x) (rL + 1)) (R := fun cd => cd = 0) (q := fun z => rI z ∧ zI z = zI ((↑rL + 1))) hk ⟨O, hO⟩ (fun z fm hp => by
        obtain ⟨hz, _, q2, q3, o⟩ := hp
        exact ⟨fun q h1 => o q (by omega), rfl, ⟨hz, q2⟩, fun f2 h2 => mC.kept ⟨an, Tr, rC, rn, ra, rm, hOb.kept (o _ (by omega)), hSt8.kept (fun q h1 h2 => o q (by omega)), hS2.kept (fun q h1 h2 => o q (by omega)), hTr.kept (fun q h1 h2 => o q (by omega)), q3⟩ (fun q _ h3 => h2 q (by omega))⟩
      ) (fun i E hi hp => by
        rcases i with _ | i
        · obtain rfl : exN1 = E := Option.some.inj hi
          exact absurd hF hp.2.1
        · exact absurd hi (by simp)
      ) (by decide)
    obtain ⟨cd, hcd, rfl, hRc, hQ, hfr, ⟨O1, hO1⟩, hval⟩ := hmid
    have hRc : cd = 0 := hRc
    have hR1 := hR.kept (fun q h1 h2 => hfr q h1 (by omega))
    have hD1 := hD.kept (hfr (b0 + 621) (by omega) (by omega))
    obtain ⟨Z, M, M2, St, Mn, Pr, St2, Mn2, Pr2, In, C, z0, z1, z2, z3, z4, z5, z6, z7, z8, z9, z11, z12, zr, zs, ht⟩ := hR1
    have hz20 : pu Z 20 (↑rL : Int) = Z := by
      funext j
      unfold pu
      split
      · rename_i e; rw [e]; exact ht.2.2.2.2.2.2.2.2.1.symm
      · rfl
    rw [← hz20] at z0
    refine ⟨⟨_, z0⟩, _, c_X9_feed l g b0 622 f1 (b0 + 607) Z In rL x z0 ⟨by omega, by omega⟩ z11 hL, fun r f2 hp => ?_⟩
    have hp := Or.resolve_left hp (fun h => by have h9 := h.1; omega)
    obtain ⟨_, yv, y0, y11, yf⟩ := hp
    have ht9 : mT (pu (pu Z 20 (↑rL + 1)) 0 0) (pu In rL x) ps ps2 sv rs cs cr (pu rT rL x) (rL + 1) 0 := by
      obtain ⟨t1, t2, t3, t4, t5, t6, t7, t8, t9, t10⟩ := ht
      refine ⟨t1, t2, rfl, t4, t5, t6, t7, t8, rfl, fun k9 hk9 => ?_⟩
      by_cases e : k9 = rL
      · rw [e, pu_s, pu_s]
      · rw [pu_n e, pu_n e]; exact t10 k9 (by omega)
    have hmR : mR g f2 (b0 + 607) B P T sc pr ex ps B2 P2 T2 sc2 pr2 ex2 ps2 sv rs cs cr (pu rT rL x) (rL + 1) 0 := ⟨_, _, _, _, _, _, _, _, _, _, _, y0, z1.kept (yf _ (by omega)), z2.kept (yf _ (by omega)), z3.kept (yf _ (by omega)), z4.kept (yf _ (by omega)), z5.kept (yf _ (by omega)), z6.kept (yf _ (by omega)), z7.kept (yf _ (by omega)), z8.kept (yf _ (by omega)), ⟨⟨_, z9.1.choose_spec.kept (yf _ (by omega))⟩, ⟨_, z9.2.choose_spec.kept (yf _ (by omega))⟩⟩, y11, z12.kept (yf _ (by omega)), zr, zs, ht9⟩
    refine ⟨cd, hcd, rfl, ⟨B, P, T, sc, pr, ex, ps, B2, P2, T2, sc2, pr2, ex2, ps2, sv, rs, cs, cr, (pu rT rL x), (rL + 1), (hA.mono (by omega)), (fun h9 => (hS9 h9).mono (by omega)), hx2, hsv, hcs, hcr, (by omega), (fun k9 => by unfold pu; split; exact ⟨hx0, hx1⟩; exact htx k9), hQ.kept (fun q h1 h2 => yf q (by omega)), by rw [hRc]; exact hmR, ⟨_, hO1.kept (yf _ (by omega))⟩, ⟨_, hD1.kept (yf _ (by omega))⟩⟩, fun h0 => ?_⟩
    obtain ⟨z, hz1, hz2⟩ := hval h0
    refine ⟨z, hz1.kept (yf _ (by omega)), ?_⟩
    exact ⟨hz2.1, by rw [yv, ← hz2.2]⟩
  · skip
    have hmid := hQ_mid (Q := fun cd f1 => mC g f1 b0 B P T sc pr ex ps B2 P2 T2 sc2 pr2 ex2 ps2 sv rs cs cr rT rL) (R := fun cd => cd = 1) (q := fun z => False) hk ⟨O, hO⟩ (fun z fm hp => by
        exact absurd hp.2.1 hF
      ) (fun i E hi hp => by
        rcases i with _ | i
        · obtain rfl : exN1 = E := Option.some.inj hi
          obtain ⟨_, _, rfl⟩ := hp
          exact ⟨fun q _ => rfl, rfl, hC⟩
        · exact absurd hi (by simp)
      ) (by decide)
    obtain ⟨cd, hcd, rfl, hRc, hQ, hfr, ⟨O1, hO1⟩, hval⟩ := hmid
    have hRc : cd = 1 := hRc
    have hR1 := hR.kept (fun q h1 h2 => hfr q h1 (by omega))
    have hD1 := hD.kept (hfr (b0 + 621) (by omega) (by omega))
    obtain ⟨Z, M, M2, St, Mn, Pr, St2, Mn2, Pr2, In, C, z0, z1, z2, z3, z4, z5, z6, z7, z8, z9, z11, z12, zr, zs, ht⟩ := hR1
    have hz20 : pu Z 20 (↑rL : Int) = Z := by
      funext j
      unfold pu
      split
      · rename_i e; rw [e]; exact ht.2.2.2.2.2.2.2.2.1.symm
      · rfl
    rw [← hz20] at z0
    refine ⟨⟨_, z0⟩, _, c_X9_feed l g b0 622 f1 (b0 + 607) Z In rL x z0 ⟨by omega, by omega⟩ z11 hL, fun r f2 hp => ?_⟩
    have hp := Or.resolve_right hp (fun h => hF h.1)
    obtain ⟨_, y0, yf⟩ := hp
    rw [hz20] at y0
    have ht9 := ht.keep zKeep_pu (pu_s Z 0 1)
    have hmR : mR g f2 (b0 + 607) B P T sc pr ex ps B2 P2 T2 sc2 pr2 ex2 ps2 sv rs cs cr rT rL 1 := ⟨_, _, _, _, _, _, _, _, _, _, _, y0, z1.kept (yf _ (by omega)), z2.kept (yf _ (by omega)), z3.kept (yf _ (by omega)), z4.kept (yf _ (by omega)), z5.kept (yf _ (by omega)), z6.kept (yf _ (by omega)), z7.kept (yf _ (by omega)), z8.kept (yf _ (by omega)), ⟨⟨_, z9.1.choose_spec.kept (yf _ (by omega))⟩, ⟨_, z9.2.choose_spec.kept (yf _ (by omega))⟩⟩, z11.kept (yf _ (by omega)), z12.kept (yf _ (by omega)), zr, zs, ht9⟩
    refine ⟨cd, hcd, rfl, ⟨B, P, T, sc, pr, ex, ps, B2, P2, T2, sc2, pr2, ex2, ps2, sv, rs, cs, cr, rT, rL, (hA.mono (by omega)), (fun h9 => (hS9 h9).mono (by omega)), hx2, hsv, hcs, hcr, hL, htx, hQ.kept (fun q h1 h2 => yf q (by omega)), by rw [hRc]; exact hmR, ⟨_, hO1.kept (yf _ (by omega))⟩, ⟨_, hD1.kept (yf _ (by omega))⟩⟩, fun h0 => ?_⟩
    obtain ⟨z, hz1, hz2⟩ := hval h0
    refine ⟨z, hz1.kept (yf _ (by omega)), ?_⟩
    exact hz2.elim
set_option maxRecDepth 100000 in
set_option maxHeartbeats 2000000 in
theorem j_restore (l : Launch) (g : gE) (b0 : Nat) (f : gF) (v cd0 : Int)  (hl9 : l.stackTraces = false) (hv0 : 0 ≤ v) (hv1 : v ≤ 20000000) (hI : lwI g b0 v cd0 f) : jI l g b0 f v yL_restore cL_restore 3 [(0, 8, 11, 15)] 7 167 1 yX9_restore cX9_restore 1 1 22 [] := by
  obtain ⟨B, P, T, sc, pr, ex, ps, B2, P2, T2, sc2, pr2, ex2, ps2, sv, rs, cs, cr, rT, rL, hA, hS9, hx2, hsv, hcs, hcr, hL, htx, hC, hR, ⟨O, hO⟩, ⟨D, hD⟩⟩ := hI
  obtain ⟨hex, he0, hps, hpx, hp0, hpri, hpar, hok, hokB, hsc, htO, hrp⟩ := id hA
  obtain ⟨an, Tr, rC, rn, ra, rm, hOb, hSt8, hS2, hTr, hRd⟩ := id hC
  have hX := c_X8_restore l g b0 622 f b0 B P T sc pr ex ps sv rs an cs cr B2 P2 T2 sc2 pr2 ex2 ps2 hl9 hOb ⟨by omega, by omega⟩ hSt8 hS2 hex hx2 hsv
  have hH := c_L_restore l g b0 622 f b0 (b0 + 620) () O _ _ _ hX hOb ⟨by omega, by omega⟩ ⟨by omega, by omega⟩ hO (fun r fm hp => by obtain ⟨_, _, _, o⟩ := hp; exact o _ (by omega)) (fun E fm hp => by
      exact hp.1
    )
  refine ⟨_, hH, fun k f1 hk => ?_⟩
  by_cases hF : sv = 1
  · skip
    have hmid := hQ_mid (Q := fun cd f1 => mC g f1 b0 B2 P2 T2 sc2 pr2 ex2 ps2 B2 P2 T2 sc2 pr2 ex2 ps2 sv rs cs cr rT rL) (R := fun cd => cd = 0) (q := fun z => rI z ∧ zI z = zI (sCnt ex2 6)) hk ⟨O, hO⟩ (fun z fm hp => by
        obtain ⟨hz, _, q2, q3, o⟩ := hp
        exact ⟨fun q h1 => o q (by omega), rfl, ⟨hz, q2⟩, fun f2 h2 => mC.kept ⟨an, Tr, rC, rn, ra, rm, hOb.kept (o _ (by omega)), q3, hS2.kept (fun q h1 h2 => o q (by omega)), hTr.kept (fun q h1 h2 => o q (by omega)), hRd.kept (fun q h1 h2 => o q (by omega))⟩ (fun q _ h3 => h2 q (by omega))⟩
      ) (fun i E hi hp => by
        rcases i with _ | i
        · obtain rfl : exN1 = E := Option.some.inj hi
          have h9 := hp.2.1
          omega
        · exact absurd hi (by simp)
      ) (by decide)
    obtain ⟨cd, hcd, rfl, hRc, hQ, hfr, ⟨O1, hO1⟩, hval⟩ := hmid
    have hRc : cd = 0 := hRc
    have hR1 := hR.kept (fun q h1 h2 => hfr q h1 (by omega))
    have hD1 := hD.kept (hfr (b0 + 621) (by omega) (by omega))
    obtain ⟨Z, M, M2, St, Mn, Pr, St2, Mn2, Pr2, In, C, z0, z1, z2, z3, z4, z5, z6, z7, z8, z9, z11, z12, zr, zs, ht⟩ := hR1
    have hz16 : Z 16 = 0 ∨ Z 16 = 1 := by rw [ht.2.2.2.2.2.2.2.1]; exact hsv
    have hmn2 : Z 16 = 1 → mnOk Mn2 sc2 ex2 := fun h9 => by
        rw [ht.2.2.2.2.2.2.2.1] at h9
        exact mRel_mn (zs h9) (fun k hk _ => (hS9 h9).2.2.2.2.2.2.2.2.2.1 k hk)
    refine ⟨⟨_, z0⟩, _, c_X9_restore l g b0 622 f1 (b0 + 607) Z M M2 St Mn Pr St2 Mn2 Pr2 sc2 ex2 z0 ⟨by omega, by omega⟩ z1 z2 z3 z4 z5 z6 z7 z8 hz16 hmn2 ht.2.1, fun r f2 hp => ?_⟩
    have hp := Or.resolve_left hp (fun h => by have h9 := h.1; rw [ht.2.2.2.2.2.2.2.1] at h9; omega)
    obtain ⟨_, yv, y0, y1, y3, y4, y5, yf⟩ := hp
    have ht9 : mT (pu (pu Z 0 0) 9 (Z 10)) In ps2 ps2 sv rs cs cr rT rL 0 := by
      obtain ⟨t1, t2, t3, t4, t5, t6, t7, t8, t9, t10⟩ := ht
      exact ⟨t1, t2, rfl, t1 hF, t5, t6, t7, t8, t9, t10⟩
    have hmR : mR g f2 (b0 + 607) B2 P2 T2 sc2 pr2 ex2 ps2 B2 P2 T2 sc2 pr2 ex2 ps2 sv rs cs cr rT rL 0 := ⟨_, _, _, _, _, _, _, _, _, _, _, y0, y1, z2.kept (yf _ (by omega)), y3, y4, y5, z6.kept (yf _ (by omega)), z7.kept (yf _ (by omega)), z8.kept (yf _ (by omega)), ⟨⟨_, z9.1.choose_spec.kept (yf _ (by omega))⟩, ⟨_, z9.2.choose_spec.kept (yf _ (by omega))⟩⟩, z11.kept (yf _ (by omega)), z12.kept (yf _ (by omega)), (zs hF), zs, ht9⟩
    refine ⟨cd, hcd, rfl, ⟨B2, P2, T2, sc2, pr2, ex2, ps2, B2, P2, T2, sc2, pr2, ex2, ps2, sv, rs, cs, cr, rT, rL, ((hS9 hF).mono (by omega)), (fun h9 => (hS9 h9).mono (by omega)), hx2, hsv, hcs, hcr, hL, htx, hQ.kept (fun q h1 h2 => yf q (by omega)), by rw [hRc]; exact hmR, ⟨_, hO1.kept (yf _ (by omega))⟩, ⟨_, hD1.kept (yf _ (by omega))⟩⟩, fun h0 => ?_⟩
    obtain ⟨z, hz1, hz2⟩ := hval h0
    refine ⟨z, hz1.kept (yf _ (by omega)), ?_⟩
    exact ⟨hz2.1, by rw [yv, ← hz2.2]⟩
  · skip
    have hmid := hQ_mid (Q := fun cd f1 => mC g f1 b0 B P T sc pr ex ps B2 P2 T2 sc2 pr2 ex2 ps2 sv rs cs cr rT rL) (R := fun cd => cd = 1) (q := fun z => False) hk ⟨O, hO⟩ (fun z fm hp => by
        exact absurd hp.2.1 hF
      ) (fun i E hi hp => by
        rcases i with _ | i
        · obtain rfl : exN1 = E := Option.some.inj hi
          obtain ⟨_, _, rfl⟩ := hp
          exact ⟨fun q _ => rfl, rfl, hC⟩
        · exact absurd hi (by simp)
      ) (by decide)
    obtain ⟨cd, hcd, rfl, hRc, hQ, hfr, ⟨O1, hO1⟩, hval⟩ := hmid
    have hRc : cd = 1 := hRc
    have hR1 := hR.kept (fun q h1 h2 => hfr q h1 (by omega))
    have hD1 := hD.kept (hfr (b0 + 621) (by omega) (by omega))
    obtain ⟨Z, M, M2, St, Mn, Pr, St2, Mn2, Pr2, In, C, z0, z1, z2, z3, z4, z5, z6, z7, z8, z9, z11, z12, zr, zs, ht⟩ := hR1
    have hz16 : Z 16 = 0 ∨ Z 16 = 1 := by rw [ht.2.2.2.2.2.2.2.1]; exact hsv
    have hmn2 : Z 16 = 1 → mnOk Mn2 sc2 ex2 := fun h9 => by
        rw [ht.2.2.2.2.2.2.2.1] at h9
        exact mRel_mn (zs h9) (fun k hk _ => (hS9 h9).2.2.2.2.2.2.2.2.2.1 k hk)
    refine ⟨⟨_, z0⟩, _, c_X9_restore l g b0 622 f1 (b0 + 607) Z M M2 St Mn Pr St2 Mn2 Pr2 sc2 ex2 z0 ⟨by omega, by omega⟩ z1 z2 z3 z4 z5 z6 z7 z8 hz16 hmn2 ht.2.1, fun r f2 hp => ?_⟩
    have hp := Or.resolve_right hp (fun h => by have h9 := h.1; rw [ht.2.2.2.2.2.2.2.1] at h9; exact hF h9)
    obtain ⟨_, y0, yf⟩ := hp
    have ht9 := ht.keep zKeep_pu (pu_s Z 0 1)
    have hmR : mR g f2 (b0 + 607) B P T sc pr ex ps B2 P2 T2 sc2 pr2 ex2 ps2 sv rs cs cr rT rL 1 := ⟨_, _, _, _, _, _, _, _, _, _, _, y0, z1.kept (yf _ (by omega)), z2.kept (yf _ (by omega)), z3.kept (yf _ (by omega)), z4.kept (yf _ (by omega)), z5.kept (yf _ (by omega)), z6.kept (yf _ (by omega)), z7.kept (yf _ (by omega)), z8.kept (yf _ (by omega)), ⟨⟨_, z9.1.choose_spec.kept (yf _ (by omega))⟩, ⟨_, z9.2.choose_spec.kept (yf _ (by omega))⟩⟩, z11.kept (yf _ (by omega)), z12.kept (yf _ (by omega)), zr, zs, ht9⟩
    refine ⟨cd, hcd, rfl, ⟨B, P, T, sc, pr, ex, ps, B2, P2, T2, sc2, pr2, ex2, ps2, sv, rs, cs, cr, rT, rL, (hA.mono (by omega)), (fun h9 => (hS9 h9).mono (by omega)), hx2, hsv, hcs, hcr, hL, htx, hQ.kept (fun q h1 h2 => yf q (by omega)), by rw [hRc]; exact hmR, ⟨_, hO1.kept (yf _ (by omega))⟩, ⟨_, hD1.kept (yf _ (by omega))⟩⟩, fun h0 => ?_⟩
    obtain ⟨z, hz1, hz2⟩ := hval h0
    refine ⟨z, hz1.kept (yf _ (by omega)), ?_⟩
    exact hz2.elim
set_option maxRecDepth 100000 in
set_option maxHeartbeats 2000000 in
theorem j_conflict (l : Launch) (g : gE) (b0 : Nat) (f : gF) (v cd0 : Int) (bb : Int) (hbb : bb = 0 ∨ bb = 1) (hl9 : l.stackTraces = false) (hv0 : 0 ≤ v) (hv1 : v ≤ 20000000) (hI : lwI g b0 v cd0 f) : jI l g b0 f v yL_conflict cL_conflict 4 [(0, 9, 12, 90)] 7 103 1 yX9_conflict cX9_conflict 2 1 21 [.int (zI bb)] := by
  obtain ⟨B, P, T, sc, pr, ex, ps, B2, P2, T2, sc2, pr2, ex2, ps2, sv, rs, cs, cr, rT, rL, hA, hS9, hx2, hsv, hcs, hcr, hL, htx, hC, hR, ⟨O, hO⟩, ⟨D, hD⟩⟩ := hI
  obtain ⟨hex, he0, hps, hpx, hp0, hpri, hpar, hok, hokB, hsc, htO, hrp⟩ := id hA
  obtain ⟨an, Tr, rC, rn, ra, rm, hOb, hSt8, hS2, hTr, hRd⟩ := id hC
  have hX := c_X8_conflict l g b0 622 f b0 sv rs an cs cr bb hl9 hOb ⟨by omega, by omega⟩ ⟨by omega, by omega⟩ hbb
  have hH := c_L_conflict l g b0 622 f b0 (b0 + 620) bb O _ _ _ hX hOb ⟨by omega, by omega⟩ ⟨by omega, by omega⟩ hO (fun r fm hp => by obtain ⟨_, _, rfl⟩ := hp; rfl) (fun E fm hp => by
      exact hp.1
    )
  refine ⟨_, hH, fun k f1 hk => ?_⟩
  by_cases hF : cr = 0
  · skip
    have hmid := hQ_mid (Q := fun cd f1 => mC g f1 b0 B P T sc pr ex ps B2 P2 T2 sc2 pr2 ex2 ps2 sv rs cs cr rT rL) (R := fun cd => cd = 1) (q := fun z => False) hk ⟨O, hO⟩ (fun z fm hp => by
        exact absurd hF hp.2.1
      ) (fun i E hi hp => by
        rcases i with _ | i
        · obtain rfl : exN3 = E := Option.some.inj hi
          obtain ⟨_, _, rfl⟩ := hp
          exact ⟨fun q _ => rfl, rfl, hC⟩
        · exact absurd hi (by simp)
      ) (by decide)
    obtain ⟨cd, hcd, rfl, hRc, hQ, hfr, ⟨O1, hO1⟩, hval⟩ := hmid
    have hRc : cd = 1 := hRc
    have hR1 := hR.kept (fun q h1 h2 => hfr q h1 (by omega))
    have hD1 := hD.kept (hfr (b0 + 621) (by omega) (by omega))
    obtain ⟨Z, M, M2, St, Mn, Pr, St2, Mn2, Pr2, In, C, z0, z1, z2, z3, z4, z5, z6, z7, z8, z9, z11, z12, zr, zs, ht⟩ := hR1
    have h13 := ht.2.2.2.2.2.1
    have h14 := ht.2.2.2.2.2.2.1
    have hr13 : rI (Z 13) := by
      by_cases e : cr = 0
      · rw [h13 e]; exact ⟨by omega, by omega⟩
      · rw [(h14 e).1]; exact ⟨by omega, by omega⟩
    refine ⟨⟨_, z0⟩, _, c_X9_conflict l g b0 622 f1 (b0 + 607) Z bb z0 ⟨by omega, by omega⟩ hr13 hbb, fun r f2 hp => ?_⟩
    have hp := Or.resolve_left hp (fun h => by have h9 := h.1; rw [h13 hF] at h9; omega)
    obtain ⟨_, y0, yf⟩ := hp
    have ht9 := ht.keep zKeep_pu (pu_s Z 0 1)
    have hmR : mR g f2 (b0 + 607) B P T sc pr ex ps B2 P2 T2 sc2 pr2 ex2 ps2 sv rs cs cr rT rL 1 := ⟨_, _, _, _, _, _, _, _, _, _, _, y0, z1.kept (yf _ (by omega)), z2.kept (yf _ (by omega)), z3.kept (yf _ (by omega)), z4.kept (yf _ (by omega)), z5.kept (yf _ (by omega)), z6.kept (yf _ (by omega)), z7.kept (yf _ (by omega)), z8.kept (yf _ (by omega)), ⟨⟨_, z9.1.choose_spec.kept (yf _ (by omega))⟩, ⟨_, z9.2.choose_spec.kept (yf _ (by omega))⟩⟩, z11.kept (yf _ (by omega)), z12.kept (yf _ (by omega)), zr, zs, ht9⟩
    refine ⟨cd, hcd, rfl, ⟨B, P, T, sc, pr, ex, ps, B2, P2, T2, sc2, pr2, ex2, ps2, sv, rs, cs, cr, rT, rL, (hA.mono (by omega)), (fun h9 => (hS9 h9).mono (by omega)), hx2, hsv, hcs, hcr, hL, htx, hQ.kept (fun q h1 h2 => yf q (by omega)), by rw [hRc]; exact hmR, ⟨_, hO1.kept (yf _ (by omega))⟩, ⟨_, hD1.kept (yf _ (by omega))⟩⟩, fun h0 => ?_⟩
    obtain ⟨z, hz1, hz2⟩ := hval h0
    refine ⟨z, hz1.kept (yf _ (by omega)), ?_⟩
    exact hz2.elim
  · skip
    have hmid := hQ_mid (Q := fun cd f1 => mC g f1 b0 B P T sc pr ex ps B2 P2 T2 sc2 pr2 ex2 ps2 sv rs cs cr rT rL) (R := fun cd => cd = 0) (q := fun z => rI z ∧ zI z = zI (if bb = 0 then cs else cr)) hk ⟨O, hO⟩ (fun z fm hp => by
        obtain ⟨hz, _, q2, rfl⟩ := hp
        exact ⟨fun q h1 => rfl, rfl, ⟨hz, q2⟩, fun f2 h2 => hC.kept (fun q _ h3 => h2 q (by omega))⟩
      ) (fun i E hi hp => by
        rcases i with _ | i
        · obtain rfl : exN3 = E := Option.some.inj hi
          exact absurd hp.2.1 hF
        · exact absurd hi (by simp)
      ) (by decide)
    obtain ⟨cd, hcd, rfl, hRc, hQ, hfr, ⟨O1, hO1⟩, hval⟩ := hmid
    have hRc : cd = 0 := hRc
    have hR1 := hR.kept (fun q h1 h2 => hfr q h1 (by omega))
    have hD1 := hD.kept (hfr (b0 + 621) (by omega) (by omega))
    obtain ⟨Z, M, M2, St, Mn, Pr, St2, Mn2, Pr2, In, C, z0, z1, z2, z3, z4, z5, z6, z7, z8, z9, z11, z12, zr, zs, ht⟩ := hR1
    have h13 := ht.2.2.2.2.2.1
    have h14 := ht.2.2.2.2.2.2.1
    have hr13 : rI (Z 13) := by
      by_cases e : cr = 0
      · rw [h13 e]; exact ⟨by omega, by omega⟩
      · rw [(h14 e).1]; exact ⟨by omega, by omega⟩
    refine ⟨⟨_, z0⟩, _, c_X9_conflict l g b0 622 f1 (b0 + 607) Z bb z0 ⟨by omega, by omega⟩ hr13 hbb, fun r f2 hp => ?_⟩
    have hp := Or.resolve_right hp (fun h => by have h9 := h.1; rw [(h14 hF).1] at h9; omega)
    obtain ⟨_, yv, y0, yf⟩ := hp
    rw [(h14 hF).1, (h14 hF).2] at yv
    have ht9 := ht.keep zKeep_pu (pu_s Z 0 0)
    have hmR : mR g f2 (b0 + 607) B P T sc pr ex ps B2 P2 T2 sc2 pr2 ex2 ps2 sv rs cs cr rT rL 0 := ⟨_, _, _, _, _, _, _, _, _, _, _, y0, z1.kept (yf _ (by omega)), z2.kept (yf _ (by omega)), z3.kept (yf _ (by omega)), z4.kept (yf _ (by omega)), z5.kept (yf _ (by omega)), z6.kept (yf _ (by omega)), z7.kept (yf _ (by omega)), z8.kept (yf _ (by omega)), ⟨⟨_, z9.1.choose_spec.kept (yf _ (by omega))⟩, ⟨_, z9.2.choose_spec.kept (yf _ (by omega))⟩⟩, z11.kept (yf _ (by omega)), z12.kept (yf _ (by omega)), zr, zs, ht9⟩
    refine ⟨cd, hcd, rfl, ⟨B, P, T, sc, pr, ex, ps, B2, P2, T2, sc2, pr2, ex2, ps2, sv, rs, cs, cr, rT, rL, (hA.mono (by omega)), (fun h9 => (hS9 h9).mono (by omega)), hx2, hsv, hcs, hcr, hL, htx, hQ.kept (fun q h1 h2 => yf q (by omega)), by rw [hRc]; exact hmR, ⟨_, hO1.kept (yf _ (by omega))⟩, ⟨_, hD1.kept (yf _ (by omega))⟩⟩, fun h0 => ?_⟩
    obtain ⟨z, hz1, hz2⟩ := hval h0
    refine ⟨z, hz1.kept (yf _ (by omega)), ?_⟩
    exact ⟨hz2.1, by rw [yv, ← hz2.2]⟩
