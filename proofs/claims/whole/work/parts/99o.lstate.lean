/-! ===== what the law's loop keeps ===== -/
/-- a branch's plan is its start with its steps made again -/
abbrev RPL (T : Nat → Int) (n : Nat) (B P : Nat → Int) : Prop := sRp T (-1) 0 B n = (false, n, P)
theorem sRp_cg {T T' : Nat → Int} {sk bf : Int} {X : Nat → Int} : ∀ n : Nat, (∀ j, j < n * 5 → T' j = T j) → sRp T' sk bf X n = sRp T sk bf X n
  | 0, _ => rfl
  | n + 1, h => by
    rw [sRp_succ, sRp_succ, sRp_cg n (fun j hj => h j (by omega))]
    unfold sRpT
    rw [h (n * 5) (by omega), h (n * 5 + 1) (by omega), h (n * 5 + 2) (by omega), h (n * 5 + 3) (by omega), h (n * 5 + 4) (by omega)]
theorem sRp_pre {T : Nat → Int} {sk bf : Int} {X : Nat → Int} {n i : Nat} (h : (sRp T sk bf X n).1 = false) (hi : i ≤ n) : sRp T sk bf X i = (false, i, (sRp T sk bf X i).2.2) := by
  have h1 : (sRp T sk bf X i).1 = false := by
    cases e : (sRp T sk bf X i).1
    · rfl
    · have q := sRp_stop e (n - i)
      rw [show i + (n - i) = n by omega] at q
      rw [q, e] at h
      exact h
  exact Prod.ext h1 (Prod.ext (sRp_cnt.1 h1) rfl)
theorem sRp_st {T : Nat → Int} {sk bf : Int} {X Y : Nat → Int} {i : Nat} (h : sRp T sk bf X i = (false, i, Y)) (hs : ¬ (i : Int) = sk) (hg : (sRp T sk bf X (i + 1)).1 = false) : sRef Y (T (i * 5)) (T (i * 5 + 1)) (T (i * 5 + 2)) (T (i * 5 + 3)) (T (i * 5 + 4)) (60 ≤ bf + i) = 0 ∧ sRp T sk bf X (i + 1) = (false, i + 1, (sPf Y (T (i * 5)) (T (i * 5 + 1)) (T (i * 5 + 2)) (T (i * 5 + 3)) (T (i * 5 + 4))).2) := by
  by_cases e : sRef Y (T (i * 5)) (T (i * 5 + 1)) (T (i * 5 + 2)) (T (i * 5 + 3)) (T (i * 5 + 4)) (60 ≤ bf + i) = 0
  · refine ⟨e, ?_⟩
    rw [sRp_succ, h]
    unfold sRpT
    rw [if_neg (by exact Bool.false_ne_true), if_neg hs]
    dsimp only
    rw [if_pos e]
  · rw [sRp_succ, h] at hg
    unfold sRpT at hg
    rw [if_neg (by exact Bool.false_ne_true), if_neg hs] at hg
    dsimp only at hg
    rw [if_neg e] at hg
    exact absurd hg.symm Bool.false_ne_true
theorem sRp_sk {T : Nat → Int} {bf : Int} {X : Nat → Int} {k : Nat} : ∀ n : Nat, n ≤ k → sRp T (↑k : Int) bf X n = sRp T (-1) bf X n
  | 0, _ => rfl
  | n + 1, h => by
    rw [sRp_succ, sRp_succ, sRp_sk n (by omega)]
    unfold sRpT
    rw [if_neg (show ¬ (n : Int) = (↑k : Int) by omega), if_neg (show ¬ (n : Int) = -1 by omega)]
theorem rcd_v {T : Nat → Int} {n : Nat} {kd a b x y : Int} : rcd T n kd a b x y (n * 5) = kd ∧ rcd T n kd a b x y (n * 5 + 1) = a ∧ rcd T n kd a b x y (n * 5 + 2) = b ∧ rcd T n kd a b x y (n * 5 + 3) = x ∧ rcd T n kd a b x y (n * 5 + 4) = y := by
  unfold rcd
  refine ⟨?_, ?_, ?_, ?_, ?_⟩
  · rw [pu_n (by omega), pu_n (by omega), pu_n (by omega), pu_n (by omega), pu_s]
  · rw [pu_n (by omega), pu_n (by omega), pu_n (by omega), pu_s]
  · rw [pu_n (by omega), pu_n (by omega), pu_s]
  · rw [pu_n (by omega), pu_s]
  · rw [pu_s]
theorem RPL_lay {T B P : Nat → Int} {n : Nat} {kd a b x y : Int} (H : RPL T n B P) (h0 : sRef P kd a b x y (60 ≤ n) = 0) : RPL (rcd T n kd a b x y) (n + 1) B (sPf P kd a b x y).2 := by
  obtain ⟨e0, e1, e2, e3, e4⟩ := rcd_v (T := T) (n := n) (kd := kd) (a := a) (b := b) (x := x) (y := y)
  show sRp _ (-1) 0 B (n + 1) = _
  rw [sRp_succ, sRp_cg n (fun j hj => rcd_at (by omega)), H]
  unfold sRpT
  rw [if_neg (by exact Bool.false_ne_true), if_neg (show ¬ (n : Int) = -1 by omega)]
  dsimp only
  rw [e0, e1, e2, e3, e4, if_pos ((ref_c (by omega)).trans h0)]
theorem RPL_0 {T B : Nat → Int} : RPL T 0 B B := rfl
theorem shP_id {T : Nat → Int} {a : Nat} : shP T a a = T := by
  funext k
  unfold shP
  rw [if_neg (by omega)]
theorem RPL_undo {T B P : Nat → Int} {n : Nat} (H : RPL T n B P) (hn : 0 < n) : (sRp T (↑(n - 1 : Nat) : Int) 0 B n).1 = false ∧ RPL (shP T ((n - 1) * 5) ((n - 1) * 5)) (n - 1) B (sRp T (↑(n - 1 : Nat) : Int) 0 B n).2.2 := by
  have h1 := sRp_pre (i := n - 1) (congrArg Prod.fst H) (by omega)
  have h2 := sRp_sk (T := T) (bf := 0) (X := B) (k := n - 1) (n - 1) (Nat.le_refl _)
  rw [h1] at h2
  have h3 := sRp_skip h2 rfl
  rw [show n - 1 + 1 = n by omega] at h3
  rw [h3, shP_id]
  exact ⟨rfl, h1⟩
theorem RPL_drop {T B : Nat → Int} {n k : Nat} (hk : k + 1 < n) (hn : n ≤ 60) (hg : (sRp T (↑k : Int) 0 B n).1 = false) : RPL (shP T (k * 5) ((n - 1) * 5)) (n - 1) B (sRp T (↑k : Int) 0 B n).2.2 := by
  have hk1 : ∀ i, k + 1 + i ≤ n → sRp (shP T (k * 5) ((n - 1) * 5)) (-1) 0 B (k + i) = (false, k + i, (sRp T (↑k : Int) 0 B (k + 1 + i)).2.2) := by
    intro i
    induction i with
    | zero =>
      intro _
      have h1 := sRp_pre (i := k) hg (by omega)
      have h2 := sRp_skip h1 rfl
      show sRp _ (-1) 0 B k = _
      rw [sRp_cg (T := T) k (fun j hj => by unfold shP; rw [if_neg (by omega)]), ← sRp_sk (k := k) k (Nat.le_refl _), h1]
      show _ = (false, k, (sRp T (↑k : Int) 0 B (k + 1)).2.2)
      rw [h2]
    | succ i ih =>
      intro hi
      have h1 := sRp_pre (i := k + 1 + i) hg (by omega)
      have h2 := sRp_pre (i := k + 1 + i + 1) hg (by omega)
      obtain ⟨r0, r1⟩ := sRp_st h1 (show ¬ ((k + 1 + i : Nat) : Int) = (↑k : Int) by omega) (by rw [h2])
      have ih := ih (by omega)
      have hs : ∀ q, q < 5 → shP T (k * 5) ((n - 1) * 5) ((k + i) * 5 + q) = T ((k + 1 + i) * 5 + q) := fun q hq => by
        unfold shP
        rw [if_pos ⟨by omega, by omega⟩]
        congr 1
        omega
      show sRp _ (-1) 0 B (k + i + 1) = (false, k + i + 1, (sRp T (↑k : Int) 0 B (k + 1 + i + 1)).2.2)
      rw [r1, sRp_succ, ih]
      unfold sRpT
      rw [if_neg (by exact Bool.false_ne_true), if_neg (show ¬ ((k + i : Nat) : Int) = -1 by omega)]
      dsimp only
      rw [show shP T (k * 5) ((n - 1) * 5) ((k + i) * 5) = T ((k + 1 + i) * 5) from hs 0 (by omega), hs 1 (by omega), hs 2 (by omega), hs 3 (by omega), hs 4 (by omega), if_pos ((ref_c (by omega)).trans r0)]
  have h9 := hk1 (n - 1 - k) (by omega)
  rw [show k + (n - 1 - k) = n - 1 by omega, show k + 1 + (n - 1 - k) = n by omega] at h9
  exact h9
theorem rcAll_up {T O : Nat → Int} {n i : Nat} : rcAll T n O (i + 1) = rcd (rcAll T n O i) (n + i) (O (i * 5)) (O (i * 5 + 1)) (O (i * 5 + 2)) (O (i * 5 + 3)) (O (i * 5 + 4)) := rfl
theorem RPL_merge {T B P O : Nat → Int} {n m : Nat} (H : RPL T n B P) (hg : (sRp O (-1) (↑n : Int) P m).1 = false) : RPL (rcAll T n O m) (n + m) B (sRp O (-1) (↑n : Int) P m).2.2 := by
  have h : ∀ i, i ≤ m → RPL (rcAll T n O i) (n + i) B (sRp O (-1) (↑n : Int) P i).2.2 := by
    intro i
    induction i with
    | zero => exact fun _ => H
    | succ i ih =>
      intro hi
      have h1 := sRp_pre (i := i) hg (by omega)
      have h2 := sRp_pre (i := i + 1) hg (by omega)
      obtain ⟨r0, r1⟩ := sRp_st h1 (show ¬ (i : Int) = -1 by omega) (by rw [h2])
      rw [rcAll_up, r1]
      exact RPL_lay (ih (by omega)) ((ref_c (by omega)).trans r0)
  exact h m (Nat.le_refl m)
theorem tOk_cg {T T' : Nat → Int} {n : Nat} (H : tOk T n) (e : ∀ j, j < n * 5 → T' j = T j) : tOk T' n := fun j hj => by
  rw [e _ (by omega), e _ (by omega), e _ (by omega), e _ (by omega), e _ (by omega)]
  exact H j hj
theorem tOk_le {T : Nat → Int} {n m : Nat} (H : tOk T n) (h : m ≤ n) : tOk T m := fun j hj => H j (by omega)
theorem tOk_sh {T : Nat → Int} {n k : Nat} (H : tOk T n) (hk : k < n) : tOk (shP T (k * 5) ((n - 1) * 5)) (n - 1) := fun j hj => by
  by_cases e : k ≤ j
  · have hs : ∀ q, q < 5 → shP T (k * 5) ((n - 1) * 5) (j * 5 + q) = T ((j + 1) * 5 + q) := fun q hq => by
      unfold shP
      rw [if_pos ⟨by omega, by omega⟩]
      congr 1
      omega
    rw [show shP T (k * 5) ((n - 1) * 5) (j * 5) = T ((j + 1) * 5) from hs 0 (by omega), hs 1 (by omega), hs 2 (by omega), hs 3 (by omega), hs 4 (by omega)]
    exact H (j + 1) (by omega)
  · have hs : ∀ q, q < 5 → shP T (k * 5) ((n - 1) * 5) (j * 5 + q) = T (j * 5 + q) := fun q hq => by
      unfold shP
      rw [if_neg (by omega)]
    rw [show shP T (k * 5) ((n - 1) * 5) (j * 5) = T (j * 5) from hs 0 (by omega), hs 1 (by omega), hs 2 (by omega), hs 3 (by omega), hs 4 (by omega)]
    exact H j (by omega)
theorem tOk_all {T O : Nat → Int} {n : Nat} : ∀ m : Nat, tOk T n → tOk O m → tOk (rcAll T n O m) (n + m)
  | 0, H, _ => H
  | m + 1, H, HO => by
    rw [rcAll_up]
    obtain ⟨a, b, c, d, e⟩ := HO m (by omega)
    exact tOk_rcd (tOk_all m H (tOk_le HO (by omega))) a b c d e
theorem sChd_no {pr ex : Nat → Int} {x : Int} : ∀ n : Nat, ¬ 0 < sChd pr ex x n → ∀ k, k < n → ex k = 1 → pr k ≠ x
  | 0, _, k, hk, _ => absurd hk (Nat.not_lt_zero _)
  | n + 1, h, k, hk, hx => by
    have h1 := (sChd_in (pr := pr) (ex := ex) (x := x) n).1
    rw [sChd_up] at h
    rcases Nat.lt_or_ge k n with q | q
    · exact sChd_no n (by split at h <;> omega) k q hx
    · have e : k = n := by omega
      subst e
      intro hp
      rw [if_pos ⟨hx, hp⟩] at h
      omega
/-- a set of branches in order, v the budget of its plans -/
def sOk (v : Int) (B P T : Nat → Nat → Int) (sc : Nat → Nat) (pr ex : Nat → Int) (ps : Nat) : Prop :=
  (∀ k, k < 6 → ex k = 0 ∨ ex k = 1) ∧ ex 0 = 1 ∧ ps < 6 ∧ ex ps = 1 ∧ pr 0 = -1 ∧ (∀ k, k < 6 → rI (pr k)) ∧ (∀ k, 0 < k → k < 6 → ex k = 1 → ∃ q : Nat, q < 6 ∧ pr k = ↑q ∧ ex q = 1 ∧ q ≠ k) ∧ (∀ k, k < 6 → pOk (P k) v) ∧ (∀ k, k < 6 → pOk (B k) v) ∧ (∀ k, k < 6 → sc k ≤ 60) ∧ (∀ k, k < 6 → tOk (T k) (sc k)) ∧ ∀ k, k < 6 → RPL (T k) (sc k) (B k) (P k)
theorem sOk.mono {v w : Int} {B P T : Nat → Nat → Int} {sc : Nat → Nat} {pr ex : Nat → Int} {ps : Nat} (H : sOk v B P T sc pr ex ps) (h : v ≤ w) : sOk w B P T sc pr ex ps := by
  obtain ⟨a, b, c, d, e, f, g, i, j, k⟩ := H
  exact ⟨a, b, c, d, e, f, g, fun q hq => pOkL_mono (i q hq) h, fun q hq => pOkL_mono (j q hq) h, k⟩
theorem sOk_step {v w : Int} {B P T : Nat → Nat → Int} {sc : Nat → Nat} {pr ex : Nat → Int} {ps : Nat} {kd a b x y : Int} (H : sOk v B P T sc pr ex ps) (hk : 0 ≤ kd ∧ kd ≤ 12) (ha : rI a) (hb : rI b) (hx : rI x) (hy : rI y) (hv0 : 0 ≤ v) (hv : v + 541 ≤ 800000000) (hw : v + 541 ≤ w) : sOk w B (tP P T sc ps kd a b x y) (tT P T sc ps kd a b x y) (tS P T sc ps kd a b x y) pr ex ps := by
  obtain ⟨h1, h2, h3, h4, h5, h6, h7, h8, h9, h10, h11, h12⟩ := H
  refine ⟨h1, h2, h3, h4, h5, h6, h7, fun k hk6 => pOkL_mono (tP_ok hk h3 h8 hv0 hv k hk6) hw, fun k hk6 => pOkL_mono (h9 k hk6) (by omega), fun k hk6 => tS_in h10 k hk6, tT_ok hk ha hb hx hy h11, fun k hk6 => ?_⟩
  unfold tP tT tS
  split
  · rename_i h0
    by_cases e : k = ps
    · subst e
      rw [fu_s, fu_s, fu_s]
      exact RPL_lay (h12 k hk6) h0
    · rw [fu_n e, fu_n e, fu_n e]; exact h12 k hk6
  · exact h12 k hk6
theorem sOk_sel {v : Int} {B P T : Nat → Nat → Int} {sc : Nat → Nat} {pr ex : Nat → Int} {ps : Nat} {z : Int} (H : sOk v B P T sc pr ex ps) (hz : FD ex z) : sOk v B P T sc pr ex z.toNat := by
  obtain ⟨h1, h2, h3, h4, h5⟩ := H
  exact ⟨h1, h2, by omega, hz.2.2, h5⟩
theorem sOk_fork {v : Int} {B P T : Nat → Nat → Int} {sc : Nat → Nat} {pr ex : Nat → Int} {ps b : Nat} (H : sOk v B P T sc pr ex ps) (hb : b < 6) (hx : ex b ≠ 1) : sOk v (fu B b (P ps)) (fu P b (P ps)) T (fu sc b 0) (fu pr b ↑ps) (fu ex b 1) ps := by
  obtain ⟨h1, h2, h3, h4, h5, h6, h7, h8, h9, h10, h11, h12⟩ := H
  have hb0 : b ≠ 0 := fun e => hx (by rw [e]; exact h2)
  have hbp : ps ≠ b := fun e => hx (by rw [← e]; exact h4)
  refine ⟨fun k hk => ?_, ?_, h3, by rw [fu_n hbp]; exact h4, by rw [fu_n (Ne.symm hb0)]; exact h5, fun k hk => ?_, fun k hk0 hk hkx => ?_, fun k hk => ?_, fun k hk => ?_, fun k hk => ?_, fun k hk => ?_, fun k hk => ?_⟩
  · by_cases e : k = b
    · subst e; rw [fu_s]; exact Or.inr rfl
    · rw [fu_n e]; exact h1 k hk
  · rw [fu_n (Ne.symm hb0)]; exact h2
  · by_cases e : k = b
    · subst e; rw [fu_s]; exact ⟨by omega, by omega⟩
    · rw [fu_n e]; exact h6 k hk
  · by_cases e : k = b
    · subst e
      exact ⟨ps, h3, fu_s _ _ _, by rw [fu_n hbp]; exact h4, hbp⟩
    · rw [fu_n e] at hkx
      obtain ⟨q, q1, q2, q3, q4⟩ := h7 k hk0 hk hkx
      have hqb : q ≠ b := fun e9 => hx (by rw [← e9]; exact q3)
      exact ⟨q, q1, by rw [fu_n e]; exact q2, by rw [fu_n hqb]; exact q3, q4⟩
  · by_cases e : k = b
    · subst e; rw [fu_s]; exact h8 ps h3
    · rw [fu_n e]; exact h8 k hk
  · by_cases e : k = b
    · subst e; rw [fu_s]; exact h8 ps h3
    · rw [fu_n e]; exact h9 k hk
  · by_cases e : k = b
    · subst e; rw [fu_s]; omega
    · rw [fu_n e]; exact h10 k hk
  · by_cases e : k = b
    · subst e; rw [fu_s]; exact fun j hj => absurd hj (Nat.not_lt_zero _)
    · rw [fu_n e]; exact h11 k hk
  · by_cases e : k = b
    · subst e; rw [fu_s, fu_s, fu_s]; exact RPL_0
    · rw [fu_n e, fu_n e, fu_n e]; exact h12 k hk
theorem sOk_gone {v : Int} {B P T : Nat → Nat → Int} {sc : Nat → Nat} {pr ex : Nat → Int} {ps : Nat} {z : Int} (H : sOk v B P T sc pr ex ps) (hz : FD ex z) (hh : ¬ HELD pr ex ps z) : sOk v B P T sc pr (fu ex z.toNat 0) ps := by
  obtain ⟨h1, h2, h3, h4, h5, h6, h7, h8⟩ := H
  have hz0 : z.toNat ≠ 0 := fun e => hh (Or.inl (by omega))
  have hzp : ps ≠ z.toNat := fun e => hh (Or.inr (Or.inl (by omega)))
  have hch := sChd_no 6 (fun q => hh (Or.inr (Or.inr q)))
  refine ⟨fun k hk => ?_, by rw [fu_n (Ne.symm hz0)]; exact h2, h3, by rw [fu_n hzp]; exact h4, h5, h6, fun k hk0 hk hkx => ?_, h8⟩
  · by_cases e : k = z.toNat
    · subst e; rw [fu_s]; exact Or.inl rfl
    · rw [fu_n e]; exact h1 k hk
  · by_cases e : k = z.toNat
    · subst e; rw [fu_s] at hkx; exact absurd hkx (by decide)
    · rw [fu_n e] at hkx
      obtain ⟨q, q1, q2, q3, q4⟩ := h7 k hk0 hk hkx
      have hqz : q ≠ z.toNat := fun e9 => hch k hk hkx (by rw [q2]; omega)
      exact ⟨q, q1, q2, by rw [fu_n hqz]; exact q3, q4⟩
theorem sOk_plan {v w : Int} {B P T : Nat → Nat → Int} {sc : Nat → Nat} {pr ex : Nat → Int} {ps j n : Nat} {X Y : Nat → Int} (H : sOk v B P T sc pr ex ps) (hvw : v ≤ w) (hX : pOk X w) (hn : n ≤ 60) (hT : tOk Y n) (hR : RPL Y n (B j) X) : sOk w B (fu P j X) (fu T j Y) (fu sc j n) pr ex ps := by
  obtain ⟨h1, h2, h3, h4, h5, h6, h7, h8, h9, h10, h11, h12⟩ := H
  refine ⟨h1, h2, h3, h4, h5, h6, h7, fun k hk => ?_, fun k hk => pOkL_mono (h9 k hk) hvw, fun k hk => ?_, fun k hk => ?_, fun k hk => ?_⟩
  · by_cases e : k = j
    · subst e; rw [fu_s]; exact hX
    · rw [fu_n e]; exact pOkL_mono (h8 k hk) hvw
  · by_cases e : k = j
    · subst e; rw [fu_s]; exact hn
    · rw [fu_n e]; exact h10 k hk
  · by_cases e : k = j
    · subst e; rw [fu_s, fu_s]; exact hT
    · rw [fu_n e, fu_n e]; exact h11 k hk
  · by_cases e : k = j
    · subst e; rw [fu_s, fu_s, fu_s]; exact hR
    · rw [fu_n e, fu_n e, fu_n e]; exact h12 k hk
theorem sOk_ex {v w : Int} {B P T : Nat → Nat → Int} {sc : Nat → Nat} {pr ex : Nat → Int} {ps L N : Nat} {tx : Nat → Int} {rs : Int} (H : sOk v B P T sc pr ex ps) (hL : L ≤ 60) (hc : chn tx L N) (hv0 : 0 ≤ v) : ∀ {n : Nat}, n ≤ N + 1 → v + 541 * n ≤ w → w ≤ 800000000 → sOk w B (exP (sEx tx L ps P T sc rs n)) (exT (sEx tx L ps P T sc rs n)) (exC (sEx tx L ps P T sc rs n)) pr ex ps
  | 0, _, hw, _ => H.mono (by omega)
  | n + 1, hn, hw, hw8 => by
    have ih := sOk_ex (w := v + 541 * n) (rs := rs) H hL hc hv0 (n := n) (by omega) (by omega) (by omega)
    have e : sEx tx L ps P T sc rs (n + 1) = sExT tx L ps n (sEx tx L ps P T sc rs n) := rfl
    obtain ⟨-, -, i1, i2, i3, i4⟩ := (chn_in hL (N := n) (fun j hj => hc j (by omega))).1
    rw [e]
    unfold sExT
    split
    · exact ih.mono (by omega)
    · split
      · exact sOk_step ih i1 ⟨by omega, by omega⟩ ⟨by omega, by omega⟩ ⟨by omega, by omega⟩ rI_0 (by omega) (by omega) (by omega)
      · exact ih.mono (by omega)
theorem chn_30 {T : Nat → Int} {L N : Nat} (hL : L ≤ 60) (h : chn T L N) : N ≤ 30 := by
  have := chn_pos hL h
  omega
theorem sOk_pz {v : Int} {B P T : Nat → Nat → Int} {sc : Nat → Nat} {pr ex : Nat → Int} {ps : Nat} {z : Int} (H : sOk v B P T sc pr ex ps) : ∃ pz : Nat, FD ex z → ¬ HELD pr ex ps z → pr z.toNat = ↑pz ∧ pz < 6 ∧ ex pz = 1 ∧ pz ≠ z.toNat := by
  by_cases h : FD ex z ∧ ¬ HELD pr ex ps z
  · have hz0 : z.toNat ≠ 0 := fun e => h.2 (Or.inl (by omega))
    obtain ⟨q, q1, q2, q3, q4⟩ := H.2.2.2.2.2.2.1 z.toNat (by omega) (by omega) h.1.2.2
    exact ⟨q, fun _ _ => ⟨q2, q1, q3, q4⟩⟩
  · exact ⟨0, fun h1 h2 => absurd ⟨h1, h2⟩ h⟩
/-- the component's cells -/
def mC (g : gE) (f : gF) (h : Nat) (B P T : Nat → Nat → Int) (sc : Nat → Nat) (pr ex : Nat → Int) (ps : Nat) (B2 P2 T2 : Nat → Nat → Int) (sc2 : Nat → Nat) (pr2 ex2 : Nat → Int) (ps2 : Nat) (sv rs cs cr : Int) (rT : Nat → Int) (rL : Nat) : Prop :=
  ∃ (an : Int) (Tr rC : Nat → Int) (rn ra rm : Int), obP f h sv rs an cs cr ∧ brsAt g f (h + 1) B P T (fun k => (↑(sc k) : Int)) pr ex (↑ps : Int) ∧ brsAt g f (h + 291) B2 P2 T2 (fun k => (↑(sc2 k) : Int)) pr2 ex2 (↑ps2 : Int) ∧ planAt g f (h + 581) Tr ∧ rdAt g f (h + 604) rT rC ↑rL rn ra rm
/-- the reference's own numbers -/
def mT (Z In : Nat → Int) (ps ps2 : Nat) (sv rs cs cr : Int) (rT : Nat → Int) (rL : Nat) (cd : Int) : Prop := (sv = 1 → Z 10 = ↑ps2) ∧ rI (Z 10) ∧ Z 0 = cd ∧ Z 9 = ↑ps ∧ Z 12 = rs ∧ (cr = 0 → Z 13 = -1) ∧ (cr ≠ 0 → Z 13 = cs ∧ Z 14 = cr) ∧ Z 16 = sv ∧ Z 20 = ↑rL ∧ ∀ k, k < rL → In k = rT k
theorem mT.step {Z Z1 In : Nat → Int} {ps ps2 : Nat} {sv rs rs1 cs cr : Int} {rT : Nat → Int} {rL : Nat} {cd cd1 : Int} (H : mT Z In ps ps2 sv rs cs cr rT rL cd) (hz : ∀ k, k ≠ 0 → k ≠ 11 → k ≠ 12 → k ≠ 15 → Z1 k = Z k) (h0 : Z1 0 = cd1) (h12 : Z1 12 = rs1) : mT Z1 In ps ps2 sv rs1 cs cr rT rL cd1 := by
  obtain ⟨a, b, c, d, e, f, g, h, i, j⟩ := H
  unfold mT
  rw [hz 10 (by decide) (by decide) (by decide) (by decide), hz 9 (by decide) (by decide) (by decide) (by decide), hz 13 (by decide) (by decide) (by decide) (by decide), hz 14 (by decide) (by decide) (by decide) (by decide), hz 16 (by decide) (by decide) (by decide) (by decide), hz 20 (by decide) (by decide) (by decide) (by decide)]
  exact ⟨a, b, h0, d, h12, f, g, h, i, j⟩
theorem mT.keep {Z Z1 In : Nat → Int} {ps ps2 : Nat} {sv rs cs cr : Int} {rT : Nat → Int} {rL : Nat} {cd cd1 : Int} (H : mT Z In ps ps2 sv rs cs cr rT rL cd) (hz : zKeep Z Z1) (h0 : Z1 0 = cd1) : mT Z1 In ps ps2 sv rs cs cr rT rL cd1 := H.step (fun k h1 h2 _ h3 => hz k h1 h2 h3) h0 ((hz 12 (by decide) (by decide) (by decide)).trans H.2.2.2.2.1)
theorem zKeep_pu {Z : Nat → Int} {cd : Int} : zKeep Z (pu Z 0 cd) := fun k h _ _ => pu_n h
theorem zSt_t {Z : Nat → Int} {aa rf cd : Int} : (∀ k, k ≠ 0 → k ≠ 11 → k ≠ 12 → k ≠ 15 → pu (zSt Z aa rf) 0 cd k = Z k) ∧ pu (zSt Z aa rf) 0 cd 0 = cd ∧ pu (zSt Z aa rf) 0 cd 12 = (if rf = 0 then Z 12 else rf) := by
  refine ⟨fun k h0 h1 h2 h3 => ?_, pu_s _ _ _, ?_⟩
  · rw [pu_n h0]; unfold zSt; rw [if_neg h1, if_neg h3, if_neg h2]
  · rw [pu_n (by decide)]; unfold zSt; rw [if_neg (by decide), if_neg (by decide), if_pos rfl]
theorem ref_n1 {P : Nat → Int} {kd a b x y : Int} {full : Prop} [Decidable full] (h : nmP P kd a b) : sRef P kd a b x y full ≠ 1 := by
  unfold sRef
  rw [if_pos h]
  split
  · split
    · split <;> decide
    · decide
  · decide
theorem ref_n2 {P : Nat → Int} {kd a b x y : Int} {full : Prop} [Decidable full] (h : rgP kd a b x y) : sRef P kd a b x y full ≠ 2 := by
  unfold sRef
  rw [if_pos h]
  split
  · split
    · split <;> decide
    · decide
  · decide
/-- the reference's cells: cd is the code that it told last -/
def mR (g : gE) (f : gF) (h : Nat) (B P T : Nat → Nat → Int) (sc : Nat → Nat) (pr ex : Nat → Int) (ps : Nat) (B2 P2 T2 : Nat → Nat → Int) (sc2 : Nat → Nat) (pr2 ex2 : Nat → Int) (ps2 : Nat) (sv rs cs cr : Int) (rT : Nat → Int) (rL : Nat) (cd : Int) : Prop :=
  ∃ Z M M2 St Mn Pr St2 Mn2 Pr2 In C : Nat → Int, mdO f h Z ∧ arJ g f (h + 1) 2058 M ∧ arJ g f (h + 2) 2058 M2 ∧ arI g f (h + 3) 1800 St ∧ arI g f (h + 4) 6 Mn ∧ arI g f (h + 5) 6 Pr ∧ arI g f (h + 6) 1800 St2 ∧ arI g f (h + 7) 6 Mn2 ∧ arI g f (h + 8) 6 Pr2 ∧ scrAt g f h ∧ arI g f (h + 11) 60 In ∧ arI g f (h + 12) 4 C ∧ mRel M St Mn Pr B P T sc pr ex ∧ (sv = 1 → mRel M2 St2 Mn2 Pr2 B2 P2 T2 sc2 pr2 ex2) ∧ mT Z In ps ps2 sv rs cs cr rT rL cd
/-- what holds at the head of the law's loop -/
def lwI (g : gE) (b0 : Nat) (v cd : Int) (f : gF) : Prop :=
  ∃ (B P T : Nat → Nat → Int) (sc : Nat → Nat) (pr ex : Nat → Int) (ps : Nat) (B2 P2 T2 : Nat → Nat → Int) (sc2 : Nat → Nat) (pr2 ex2 : Nat → Int) (ps2 : Nat) (sv rs cs cr : Int) (rT : Nat → Int) (rL : Nat), sOk v B P T sc pr ex ps ∧ (sv = 1 → sOk v B2 P2 T2 sc2 pr2 ex2 ps2) ∧ (∀ k, k < 6 → ex2 k = 0 ∨ ex2 k = 1) ∧ (sv = 0 ∨ sv = 1) ∧ (0 ≤ cs ∧ cs < 60) ∧ (0 ≤ cr ∧ cr ≤ 4) ∧ rL ≤ 60 ∧ txOk rT ∧ mC g f b0 B P T sc pr ex ps B2 P2 T2 sc2 pr2 ex2 ps2 sv rs cs cr rT rL ∧ mR g f (b0 + 607) B P T sc pr ex ps B2 P2 T2 sc2 pr2 ex2 ps2 sv rs cs cr rT rL cd ∧ (∃ O, arJ g f (b0 + 620) 1 O) ∧ ∃ D, arD g f (b0 + 621) 1 D
theorem mR.kept {g : gE} {f f1 : gF} {h : Nat} {B P T : Nat → Nat → Int} {sc : Nat → Nat} {pr ex : Nat → Int} {ps : Nat} {B2 P2 T2 : Nat → Nat → Int} {sc2 : Nat → Nat} {pr2 ex2 : Nat → Int} {ps2 : Nat} {sv rs cs cr : Int} {rT : Nat → Int} {rL : Nat} {cd : Int} (H : mR g f h B P T sc pr ex ps B2 P2 T2 sc2 pr2 ex2 ps2 sv rs cs cr rT rL cd) (e : ∀ q, h ≤ q → q < h + 13 → f1 q = f q) : mR g f1 h B P T sc pr ex ps B2 P2 T2 sc2 pr2 ex2 ps2 sv rs cs cr rT rL cd := by
  obtain ⟨Z, M, M2, St, Mn, Pr, St2, Mn2, Pr2, In, C, a, b, c, d, e1, e2, e3, e4, e5, ⟨⟨s1, s2⟩, s3, s4⟩, e7, e8, r⟩ := H
  exact ⟨Z, M, M2, St, Mn, Pr, St2, Mn2, Pr2, In, C, a.kept (e _ (by omega) (by omega)), b.kept (e _ (by omega) (by omega)), c.kept (e _ (by omega) (by omega)), d.kept (e _ (by omega) (by omega)), e1.kept (e _ (by omega) (by omega)), e2.kept (e _ (by omega) (by omega)), e3.kept (e _ (by omega) (by omega)), e4.kept (e _ (by omega) (by omega)), e5.kept (e _ (by omega) (by omega)), ⟨⟨s1, s2.kept (e _ (by omega) (by omega))⟩, s3, s4.kept (e _ (by omega) (by omega))⟩, e7.kept (e _ (by omega) (by omega)), e8.kept (e _ (by omega) (by omega)), r⟩
theorem mC.kept {g : gE} {f f1 : gF} {h : Nat} {B P T : Nat → Nat → Int} {sc : Nat → Nat} {pr ex : Nat → Int} {ps : Nat} {B2 P2 T2 : Nat → Nat → Int} {sc2 : Nat → Nat} {pr2 ex2 : Nat → Int} {ps2 : Nat} {sv rs cs cr : Int} {rT : Nat → Int} {rL : Nat} (H : mC g f h B P T sc pr ex ps B2 P2 T2 sc2 pr2 ex2 ps2 sv rs cs cr rT rL) (e : ∀ q, h ≤ q → q < h + 607 → f1 q = f q) : mC g f1 h B P T sc pr ex ps B2 P2 T2 sc2 pr2 ex2 ps2 sv rs cs cr rT rL := by
  obtain ⟨an, Tr, rC, rn, ra, rm, a, b, c, d, i⟩ := H
  exact ⟨an, Tr, rC, rn, ra, rm, a.kept (e _ (by omega) (by omega)), b.kept (fun q _ _ => e q (by omega) (by omega)), c.kept (fun q _ _ => e q (by omega) (by omega)), d.kept (fun q _ _ => e q (by omega) (by omega)), i.kept (fun q _ _ => e q (by omega) (by omega))⟩
/-- behind a round's two calls: the code and the value agree, and the loop's state is kept -/
def jE (g : gE) (b0 : Nat) (v : Int) (k : Int32) (f2 : gF) (q : Int → Prop) : Prop := ∃ cd : Int, rI cd ∧ k = zI cd ∧ lwI g b0 (v + 33542) cd f2 ∧ (cd = 0 → ∃ z : Int, arJ g f2 (b0 + 620) 1 (fun _ => z) ∧ q z)
def jI (l : Launch) (g : gE) (b0 : Nat) (f : gF) (v : Int) (yH : MethodName) (cHc : ByteArray) (mH : Nat) (hh : List (Nat × Nat × Nat × Nat)) (frH loH mcH : Nat) (yM : MethodName) (cMc : ByteArray) (mM frM loM : Nat) (As : List Value) : Prop :=
  ∃ postH : Int32 → gF → Prop, cH l yH cHc mH hh frH loH mcH (.ref b0 :: (As ++ [.ref (b0 + 620)])) g b0 622 f postH ∧ ∀ k f1, postH k f1 → (∃ fs, f1 (b0 + 607) = .inr (11, fs)) ∧ ∃ postM : Int32 → gF → Prop, cI l yM cMc mM (some .int) frM loM (.ref (b0 + 607) :: As) g b0 622 f1 postM ∧ ∀ r f2, postM r f2 → jE g b0 v k f2 (fun z => rI z ∧ r = zI z)
def jL (l : Launch) (g : gE) (b0 : Nat) (f : gF) (v : Int) (yH : MethodName) (cHc : ByteArray) (mH : Nat) (hh : List (Nat × Nat × Nat × Nat)) (frH loH mcH : Nat) (yM : MethodName) (cMc : ByteArray) (mM frM loM : Nat) (As : List Value) : Prop :=
  ∃ postH : Int32 → gF → Prop, cH l yH cHc mH hh frH loH mcH (.ref b0 :: (As ++ [.ref (b0 + 620)])) g b0 622 f postH ∧ ∀ k f1, postH k f1 → (∃ fs, f1 (b0 + 607) = .inr (11, fs)) ∧ ∃ postM : Int64 → gF → Prop, cL l yM cMc mM (some .long) frM loM (.ref (b0 + 607) :: As) g b0 622 f1 postM ∧ ∀ r f2, postM r f2 → jE g b0 v k f2 (fun z => rL z ∧ r = zL z)
/-- out of a helper: the value laid in out[0], or a code; the component's post and throw said together as Q -/
theorem hQ_mid {g : gE} {b0 : Nat} {f : gF} {post : Int → gF → Prop} {px : String → gF → Prop} {tab : List String} {k : Int32} {f1 : gF} {Q : Int → gF → Prop} {R : Int → Prop} {q : Int → Prop} (h : hQ g (b0 + 620) post px tab k f1) (hO : ∃ O, arJ g f (b0 + 620) 1 O) (hp : ∀ z fm, post z fm → (∀ q, b0 + 607 ≤ q → fm q = f q) ∧ R 0 ∧ q z ∧ ∀ f2 : gF, (∀ q, q < b0 + 607 → f2 q = fm q) → Q 0 f2) (hx : ∀ (i : Nat) (E : String), tab[i]? = some E → px E f1 → (∀ q, b0 + 607 ≤ q → f1 q = f q) ∧ R ↑(i + 1) ∧ Q ↑(i + 1) f1) (hlen : tab.length ≤ 3) : ∃ cd : Int, rI cd ∧ k = zI cd ∧ R cd ∧ Q cd f1 ∧ (∀ q, b0 + 607 ≤ q → q ≠ b0 + 620 → f1 q = f q) ∧ (∃ O, arJ g f1 (b0 + 620) 1 O) ∧ (cd = 0 → ∃ z : Int, arJ g f1 (b0 + 620) 1 (fun _ => z) ∧ q z) := by
  rcases h with ⟨rfl, z, fm, h1, h2, h3⟩ | h
  · obtain ⟨p1, p2, p3, p4⟩ := hp z fm h1
    exact ⟨0, rI_0, rfl, p2, p4 f1 (fun q hq => h3 q (by omega)), fun q h4 h5 => (h3 q h5).trans (p1 q h4), ⟨_, h2⟩, fun _ => ⟨z, h2, p3⟩⟩
  · have hgen : ∀ (t : List String) (i : Nat), (∀ j : Nat, tab[i + j]? = t[j]?) → i + t.length ≤ 3 → hQx px k f1 i t → ∃ (j : Nat) (E : String), tab[j]? = some E ∧ k = zI ↑(j + 1) ∧ px E f1 ∧ j < 3 := by
      intro t
      induction t with
      | nil => intro i _ _ h9; exact h9.elim
      | cons E t ih =>
        intro i hi hl h9
        rcases h9 with ⟨e1, e2⟩ | h9
        · exact ⟨i, E, by have := hi 0; simpa using this, e1, e2, by simp at hl; omega⟩
        · exact ih (i + 1) (fun j => by have := hi (j + 1); rw [show i + 1 + j = i + (j + 1) by omega, this]; rfl) (by simp at hl; omega) h9
    obtain ⟨j, E, h1, h2, h3, h4⟩ := hgen tab 0 (fun j => by rw [Nat.zero_add]) (by omega) h
    obtain ⟨p1, p2, p3⟩ := hx j E h1 h3
    obtain ⟨O, hO⟩ := hO
    have hO1 := hO.kept (p1 (b0 + 620) (by omega))
    exact ⟨↑(j + 1), ⟨by omega, by omega⟩, h2, p2, p3, fun q h4 _ => p1 q h4, ⟨O, hO1⟩, fun e => by omega⟩
theorem lwI.mono {g : gE} {b0 : Nat} {v w cd : Int} {f : gF} (H : lwI g b0 v cd f) (h : v ≤ w) : lwI g b0 w cd f := by
  obtain ⟨B, P, T, sc, pr, ex, ps, B2, P2, T2, sc2, pr2, ex2, ps2, sv, rs, cs, cr, rT, rL, hA, hS, r⟩ := H
  exact ⟨B, P, T, sc, pr, ex, ps, B2, P2, T2, sc2, pr2, ex2, ps2, sv, rs, cs, cr, rT, rL, hA.mono h, fun q => (hS q).mono h, r⟩
theorem lwI.tell {g : gE} {b0 : Nat} {v cd : Int} {f : gF} (H : lwI g b0 v cd f) : ∃ Z : Nat → Int, mdO f (b0 + 607) Z ∧ Z 0 = cd := by
  obtain ⟨B, P, T, sc, pr, ex, ps, B2, P2, T2, sc2, pr2, ex2, ps2, sv, rs, cs, cr, rT, rL, _, _, _, _, _, _, _, _, _, hR, _⟩ := H
  obtain ⟨Z, M, M2, St, Mn, Pr, St2, Mn2, Pr2, In, C, z0, z1, z2, z3, z4, z5, z6, z7, z8, z9, z11, z12, zr, zs, ht⟩ := hR
  exact ⟨Z, z0, ht.2.2.1⟩
