/-- the read commands made one after another: stopped, how many, plans, parts, counts, reason -/
abbrev exS : Type := Bool × Nat × (Nat → Nat → Int) × (Nat → Nat → Int) × (Nat → Nat) × Int
def exP (s : exS) : Nat → Nat → Int := s.2.2.1
def exT (s : exS) : Nat → Nat → Int := s.2.2.2.1
def exC (s : exS) : Nat → Nat := s.2.2.2.2.1
def exR (s : exS) : Int := s.2.2.2.2.2
def sExT (tx : Nat → Int) (L ps : Nat) (i : Nat) (s : exS) : exS :=
  if s.1 = true then s else if tRf (exP s) (exT s) (exC s) ps (cq tx L i).2.2.1 (cq tx L i).2.2.2.1 (cq tx L i).2.2.2.2.1 (cq tx L i).2.2.2.2.2 0 = 0 then (false, i + 1, tP (exP s) (exT s) (exC s) ps (cq tx L i).2.2.1 (cq tx L i).2.2.2.1 (cq tx L i).2.2.2.2.1 (cq tx L i).2.2.2.2.2 0, tT (exP s) (exT s) (exC s) ps (cq tx L i).2.2.1 (cq tx L i).2.2.2.1 (cq tx L i).2.2.2.2.1 (cq tx L i).2.2.2.2.2 0, tS (exP s) (exT s) (exC s) ps (cq tx L i).2.2.1 (cq tx L i).2.2.2.1 (cq tx L i).2.2.2.2.1 (cq tx L i).2.2.2.2.2 0, exR s)
  else (true, i, exP s, exT s, exC s, tRf (exP s) (exT s) (exC s) ps (cq tx L i).2.2.1 (cq tx L i).2.2.2.1 (cq tx L i).2.2.2.2.1 (cq tx L i).2.2.2.2.2 0)
def sEx (tx : Nat → Int) (L ps : Nat) (P T : Nat → Nat → Int) (sc : Nat → Nat) (rs : Int) (n : Nat) : exS := sIt (sExT tx L ps) (false, 0, P, T, sc, rs) n
theorem sEx_stop {tx : Nat → Int} {L ps : Nat} {P T : Nat → Nat → Int} {sc : Nat → Nat} {rs : Int} {i : Nat} (h : (sEx tx L ps P T sc rs i).1 = true) : ∀ d, sEx tx L ps P T sc rs (i + d) = sEx tx L ps P T sc rs i
  | 0 => rfl
  | d + 1 => by
    have := sEx_stop h d
    show sExT tx L ps (i + d) (sEx tx L ps P T sc rs (i + d)) = _
    rw [this]
    unfold sExT
    rw [if_pos h]
theorem sEx_cnt {tx : Nat → Int} {L ps : Nat} {P T : Nat → Nat → Int} {sc : Nat → Nat} {rs : Int} : ∀ {n : Nat}, (sEx tx L ps P T sc rs n).1 = false → (sEx tx L ps P T sc rs n).2.1 = n
  | 0 => fun _ => rfl
  | n + 1 => by
    have e : sEx tx L ps P T sc rs (n + 1) = sExT tx L ps n (sEx tx L ps P T sc rs n) := rfl
    rw [e]
    unfold sExT
    split
    · rename_i h; intro h2; rw [h] at h2; exact absurd h2.symm Bool.false_ne_true
    · split
      · exact fun _ => rfl
      · exact fun h2 => absurd h2.symm Bool.false_ne_true
theorem rcd_at {T : Nat → Int} {sc : Nat} {kd a b x y : Int} {j : Nat} (h : j < sc * 5) : rcd T sc kd a b x y j = T j := by
  unfold rcd; rw [pu_n (by omega), pu_n (by omega), pu_n (by omega), pu_n (by omega), pu_n (by omega)]
theorem tOk_rcd {T : Nat → Int} {sc : Nat} {kd a b x y : Int} (H : tOk T sc) (hk : 0 ≤ kd ∧ kd ≤ 12) (ha : rI a) (hb : rI b) (hx : rI x) (hy : rI y) : tOk (rcd T sc kd a b x y) (sc + 1) := fun j hj => by
  by_cases e : j = sc
  · subst e
    have e0 : rcd T j kd a b x y (j * 5) = kd := by unfold rcd; rw [pu_n (by omega), pu_n (by omega), pu_n (by omega), pu_n (by omega), pu_s]
    have e1 : rcd T j kd a b x y (j * 5 + 1) = a := by unfold rcd; rw [pu_n (by omega), pu_n (by omega), pu_n (by omega), pu_s]
    have e2 : rcd T j kd a b x y (j * 5 + 2) = b := by unfold rcd; rw [pu_n (by omega), pu_n (by omega), pu_s]
    have e3 : rcd T j kd a b x y (j * 5 + 3) = x := by unfold rcd; rw [pu_n (by omega), pu_s]
    have e4 : rcd T j kd a b x y (j * 5 + 4) = y := by unfold rcd; rw [pu_s]
    rw [e0, e1, e2, e3, e4]
    exact ⟨hk, ha, hb, hx, hy⟩
  · rw [rcd_at (by omega), rcd_at (by omega), rcd_at (by omega), rcd_at (by omega), rcd_at (by omega)]
    exact H j (by omega)
/-- a step on the present branch keeps the plans in order -/
theorem tP_ok {P T : Nat → Nat → Int} {sc : Nat → Nat} {ps : Nat} {kd a b x y v : Int} (hk : 0 ≤ kd ∧ kd ≤ 12) (hps : ps < 6) (H : ∀ k, k < 6 → pOk (P k) v) (hv0 : 0 ≤ v) (hv : v + 541 ≤ 800000000) : ∀ k, k < 6 → pOk (tP P T sc ps kd a b x y k) (v + 541) := fun k hk6 => by
  unfold tP
  split
  · rename_i h
    by_cases e : k = ps
    · subst e
      rw [fu_s]
      obtain ⟨q1, q2, _, q4, q5⟩ := ref0 (show sRef (P k) kd a b x y (60 ≤ sc k) = 0 from h)
      exact pOk_pf (H k hk6) hv0 hv hk q1 q2 q4 q5
    · rw [fu_n e]; exact pOkL_mono (H k hk6) (by omega)
  · exact pOkL_mono (H k hk6) (by omega)
theorem tS_in {P T : Nat → Nat → Int} {sc : Nat → Nat} {ps : Nat} {kd a b x y : Int} (H : ∀ k, k < 6 → sc k ≤ 60) : ∀ k, k < 6 → tS P T sc ps kd a b x y k ≤ 60 := fun k hk6 => by
  unfold tS
  split
  · rename_i h
    by_cases e : k = ps
    · subst e
      rw [fu_s]
      obtain ⟨_, _, q3, _, _⟩ := ref0 (show sRef (P k) kd a b x y (60 ≤ sc k) = 0 from h)
      omega
    · rw [fu_n e]; exact H k hk6
  · exact H k hk6
theorem tT_ok {P T : Nat → Nat → Int} {sc : Nat → Nat} {ps : Nat} {kd a b x y : Int} (hk : 0 ≤ kd ∧ kd ≤ 12) (ha : rI a) (hb : rI b) (hx : rI x) (hy : rI y) (H : ∀ k, k < 6 → tOk (T k) (sc k)) : ∀ k, k < 6 → tOk (tT P T sc ps kd a b x y k) (tS P T sc ps kd a b x y k) := fun k hk6 => by
  unfold tT tS
  split
  · by_cases e : k = ps
    · subst e
      rw [fu_s, fu_s]
      exact tOk_rcd (H k hk6) hk ha hb hx hy
    · rw [fu_n e, fu_n e]; exact H k hk6
  · exact H k hk6
theorem sEx_ok {tx : Nat → Int} {L ps : Nat} {P T : Nat → Nat → Int} {sc : Nat → Nat} {rs v : Int} {N : Nat} (hL : L ≤ 60) (hc : chn tx L N) (hps : ps < 6) (H : ∀ k, k < 6 → pOk (P k) v) (hv0 : 0 ≤ v) (hs : ∀ k, k < 6 → sc k ≤ 60) : ∀ {n : Nat}, n ≤ N + 1 → v + 541 * n ≤ 800000000 → (∀ k, k < 6 → pOk (exP (sEx tx L ps P T sc rs n) k) (v + 541 * n)) ∧ (∀ k, k < 6 → exC (sEx tx L ps P T sc rs n) k ≤ 60)
  | 0, _, _ => ⟨fun k hk => by rw [show v + 541 * ((0 : Nat) : Int) = v by omega]; exact H k hk, hs⟩
  | n + 1, hn, hv => by
    obtain ⟨i1, i2⟩ := sEx_ok (rs := rs) (T := T) hL hc hps H hv0 hs (n := n) (by omega) (by omega)
    have e : sEx tx L ps P T sc rs (n + 1) = sExT tx L ps n (sEx tx L ps P T sc rs n) := rfl
    have hin := (chn_in hL (N := n) (fun j hj => hc j (by omega))).1
    rw [e]
    unfold sExT
    split
    · exact ⟨fun k hk => pOkL_mono (i1 k hk) (by omega), i2⟩
    · split
      · refine ⟨fun k hk => ?_, fun k hk => tS_in i2 k hk⟩
        rw [show v + 541 * ((n + 1 : Nat) : Int) = (v + 541 * (n : Int)) + 541 by omega]
        exact tP_ok hin.2.2.1 hps i1 (by omega) (by omega) k hk
      · exact ⟨fun k hk => pOkL_mono (i1 k hk) (by omega), i2⟩
