theorem res_alt {q : Bool} {r : Int32} {X Y : Int → Prop} {Z : Prop} (h : r = bI (q = true) ∧ (∃ nm1 : Int, (q = false → X nm1) ∧ (q = true → Y nm1)) ∧ Z) : (q = true ∧ r = zI 1 ∧ (∃ nm1 : Int, Y nm1) ∧ Z) ∨ (q = false ∧ r = zI 0 ∧ (∃ nm1 : Int, X nm1) ∧ Z) := by
  obtain ⟨h1, ⟨nm1, h2, h3⟩, h4⟩ := h
  cases hq : q
  · subst hq; exact Or.inr ⟨rfl, h1, ⟨nm1, h2 rfl⟩, h4⟩
  · subst hq; exact Or.inl ⟨rfl, h1, ⟨nm1, h3 rfl⟩, h4⟩
/-- where command k begins -/
def sPos (T : Nat → Int) (L : Nat) : Nat → Nat
  | 0 => 0
  | k + 1 => (sCmd T L (sPos T L k)).2.1 + 1
/-- what command k is read as -/
def cq (T : Nat → Int) (L k : Nat) : rdT := sCmd T L (sPos T L k)
/-- the first N commands are good and a semicolon follows each -/
def chn (T : Nat → Int) (L N : Nat) : Prop := ∀ j, j < N → (cq T L j).1 = true ∧ nx T L (cq T L j).2.1 = 59
/-- what reading the input comes to: e -1 or where it is wrong, N the last command looked at -/
def rdE (T : Nat → Int) (L : Nat) (e : Int) (N : Nat) : Prop :=
  chn T L N ∧ (((cq T L N).1 = true ∧ ¬ (cq T L N).2.1 < L ∧ e = -1) ∨ (((cq T L N).1 = false ∨ ((cq T L N).2.1 < L ∧ nx T L (cq T L N).2.1 ≠ 59)) ∧ e = (cq T L N).2.1))
def cmOk (C T : Nat → Int) (L N : Nat) : Prop := ∀ j, j < N → C (j * 4) = (cq T L j).2.2.1 ∧ C (j * 4 + 1) = (cq T L j).2.2.2.1 ∧ C (j * 4 + 2) = (cq T L j).2.2.2.2.1 ∧ C (j * 4 + 3) = (cq T L j).2.2.2.2.2
theorem rdE_uq {T : Nat → Int} {L : Nat} {e e' : Int} {N N' : Nat} (h : rdE T L e N) (h' : rdE T L e' N') : e = e' ∧ N = N' := by
  have key : ∀ {a b : Nat} {x y : Int}, rdE T L x a → rdE T L y b → ¬ a < b := by
    intro a b x y ha hb hab
    obtain ⟨h1, h2⟩ := hb.1 a hab
    have hlt : (cq T L a).2.1 < L := nx_lt (T := T) (by omega)
    rcases ha.2 with ⟨a1, a2, a3⟩ | ⟨a1 | a1, a3⟩
    · exact a2 hlt
    · rw [h1] at a1; exact absurd a1 (by decide)
    · exact a1.2 h2
  have hN : N = N' := by
    have := key h h'
    have := key h' h
    omega
  subst hN
  refine ⟨?_, rfl⟩
  rcases h.2 with ⟨a1, a2, a3⟩ | ⟨a1, a3⟩ <;> rcases h'.2 with ⟨b1, b2, b3⟩ | ⟨b1, b3⟩
  · omega
  · rcases b1 with b1 | b1
    · rw [a1] at b1; exact absurd b1 (by decide)
    · exact absurd b1.1 a2
  · rcases a1 with a1 | a1
    · rw [b1] at a1; exact absurd a1 (by decide)
    · exact absurd a1.1 b2
  · omega
/-- a command read is in order -/
def rdIn (T : Nat → Int) (L a : Nat) (q : rdT) : Prop := a ≤ q.2.1 ∧ q.2.1 ≤ L ∧ (0 ≤ q.2.2.1 ∧ q.2.2.1 ≤ 12) ∧ (-1 ≤ q.2.2.2.1 ∧ q.2.2.2.1 < 10000000) ∧ (-1 ≤ q.2.2.2.2.1 ∧ q.2.2.2.2.1 < 10000000) ∧ (0 ≤ q.2.2.2.2.2 ∧ q.2.2.2.2.2 < 10000000)
theorem sNb_in {T : Nat → Int} {L a : Nat} {kd : Int} (hL : L ≤ 60) (ha : a ≤ L) (hk : 0 ≤ kd ∧ kd ≤ 12) : rdIn T L a (sNb T L kd a) := by
  have h := sNum_7 (T := T) hL ha
  unfold sNb rdIn
  refine ⟨h.1, h.2.1, hk, ⟨?_, h.2.2.2⟩, ⟨?_, ?_⟩, ?_, ?_⟩ <;> dsimp only <;> omega
theorem plV_in {T : Nat → Int} {L a : Nat} (h : plG T L a) : -1 ≤ plV T L a ∧ plV T L a ≤ 9 := by
  unfold plV
  split
  · omega
  · rcases h with h | h
    · contradiction
    · have := h.1; have := h.2; omega
theorem plG_lt {T : Nat → Int} {L a : Nat} (h : plG T L a) : a < L := nx_lt (T := T) (by rcases h with h | h; omega; have := h.1; omega)
theorem sSp_in {T : Nat → Int} {L a : Nat} (hL : L ≤ 60) (ha : a ≤ L) : rdIn T L a (sSp T L a) := by
  unfold sSp
  by_cases h1 : dg T L a
  · have g1 : a < L := nx_lt (T := T) (by have := h1.1; omega)
    have e1 := h1.1
    have e2 := h1.2
    rw [if_pos h1]
    by_cases h2 : nx T L (a + 1) = 58
    · have g2 : a + 1 < L := nx_lt (T := T) (by omega)
      have h := sNum_7 (T := T) (a := a + 2) hL (by omega)
      rw [if_pos h2]
      unfold rdIn
      refine ⟨?_, h.2.1, ⟨?_, ?_⟩, ⟨?_, ?_⟩, ⟨?_, h.2.2.2⟩, ?_, ?_⟩ <;> dsimp only <;> omega
    · rw [if_neg h2]
      unfold rdIn
      refine ⟨?_, ?_, ⟨?_, ?_⟩, ⟨?_, ?_⟩, ⟨?_, ?_⟩, ?_, ?_⟩ <;> dsimp only <;> omega
  · rw [if_neg h1]
    unfold rdIn
    refine ⟨?_, ?_, ⟨?_, ?_⟩, ⟨?_, ?_⟩, ⟨?_, ?_⟩, ?_, ?_⟩ <;> dsimp only <;> omega
theorem sMo_in {T : Nat → Int} {L a : Nat} (hL : L ≤ 60) (ha : a ≤ L) : rdIn T L a (sMo T L a) := by
  unfold sMo
  by_cases h1 : plG T L a
  · have g1 := plG_lt h1
    have v1 := plV_in h1
    rw [if_pos h1]
    by_cases h2 : nx T L (a + 1) = 62
    · have g2 : a + 1 < L := nx_lt (T := T) (by omega)
      rw [if_pos h2]
      by_cases h3 : plG T L (a + 2)
      · have g3 := plG_lt h3
        have v3 := plV_in h3
        rw [if_pos h3]
        by_cases h4 : nx T L (a + 3) = 58
        · have g4 : a + 3 < L := nx_lt (T := T) (by omega)
          have h := sNum_7 (T := T) (a := a + 4) hL (by omega)
          rw [if_pos h4]
          unfold rdIn
          refine ⟨?_, h.2.1, ⟨?_, ?_⟩, ⟨?_, ?_⟩, ⟨?_, ?_⟩, ?_, h.2.2.2⟩ <;> dsimp only <;> omega
        · rw [if_neg h4]
          unfold rdIn
          refine ⟨?_, ?_, ⟨?_, ?_⟩, ⟨?_, ?_⟩, ⟨?_, ?_⟩, ?_, ?_⟩ <;> dsimp only <;> omega
      · rw [if_neg h3]
        unfold rdIn
        refine ⟨?_, ?_, ⟨?_, ?_⟩, ⟨?_, ?_⟩, ⟨?_, ?_⟩, ?_, ?_⟩ <;> dsimp only <;> omega
    · rw [if_neg h2]
      unfold rdIn
      refine ⟨?_, ?_, ⟨?_, ?_⟩, ⟨?_, ?_⟩, ⟨?_, ?_⟩, ?_, ?_⟩ <;> dsimp only <;> omega
  · rw [if_neg h1]
    unfold rdIn
    refine ⟨?_, ?_, ⟨?_, ?_⟩, ⟨?_, ?_⟩, ⟨?_, ?_⟩, ?_, ?_⟩ <;> dsimp only <;> omega
theorem rdIn_up {T : Nat → Int} {L a : Nat} {q : rdT} (h : rdIn T L (a + 1) q) : rdIn T L a q ∧ a < q.2.1 := ⟨⟨by have := h.1; omega, h.2⟩, by have := h.1; omega⟩
theorem sCmd_in {T : Nat → Int} {L a : Nat} (hL : L ≤ 60) (ha : a ≤ L) : rdIn T L a (sCmd T L a) ∧ ((sCmd T L a).1 = true → a < (sCmd T L a).2.1) := by
  unfold sCmd
  by_cases h1 : nx T L a = 110
  · have g1 : a < L := nx_lt (T := T) (by omega)
    rw [if_pos h1]
    refine ⟨?_, fun _ => by dsimp only; omega⟩
    unfold rdIn
    refine ⟨?_, ?_, ⟨?_, ?_⟩, ⟨?_, ?_⟩, ⟨?_, ?_⟩, ?_, ?_⟩ <;> dsimp only <;> omega
  rw [if_neg h1]
  by_cases h1 : nx T L a = 114
  · have g1 : a < L := nx_lt (T := T) (by omega)
    rw [if_pos h1]
    have := rdIn_up (sNb_in (T := T) (kd := 9) (a := a + 1) hL (by omega) (by omega))
    exact ⟨this.1, fun _ => this.2⟩
  rw [if_neg h1]
  by_cases h1 : nx T L a = 115
  · have g1 : a < L := nx_lt (T := T) (by omega)
    rw [if_pos h1]
    have := rdIn_up (sSp_in (T := T) (a := a + 1) hL (by omega))
    exact ⟨this.1, fun _ => this.2⟩
  rw [if_neg h1]
  by_cases h1 : nx T L a = 109
  · have g1 : a < L := nx_lt (T := T) (by omega)
    rw [if_pos h1]
    have := rdIn_up (sMo_in (T := T) (a := a + 1) hL (by omega))
    exact ⟨this.1, fun _ => this.2⟩
  rw [if_neg h1]
  by_cases h1 : nx T L a = 100
  · have g1 : a < L := nx_lt (T := T) (by omega)
    rw [if_pos h1]
    have := rdIn_up (sNb_in (T := T) (kd := 12) (a := a + 1) hL (by omega) (by omega))
    exact ⟨this.1, fun _ => this.2⟩
  rw [if_neg h1]
  refine ⟨?_, fun h => by dsimp only at h; exact absurd h (by decide)⟩
  unfold rdIn
  refine ⟨?_, ?_, ⟨?_, ?_⟩, ⟨?_, ?_⟩, ⟨?_, ?_⟩, ?_, ?_⟩ <;> dsimp only <;> omega
theorem chn_pos {T : Nat → Int} {L : Nat} (hL : L ≤ 60) : ∀ {N : Nat}, chn T L N → sPos T L N ≤ L ∧ 2 * N ≤ sPos T L N
  | 0, _ => ⟨Nat.zero_le _, Nat.le_refl 0⟩
  | N + 1, h => by
    obtain ⟨h1, h2⟩ := chn_pos hL (N := N) (fun j hj => h j (by omega))
    obtain ⟨a, b⟩ := h N (by omega)
    have hc := sCmd_in (T := T) hL h1
    have hlt : (cq T L N).2.1 < L := nx_lt (T := T) (by omega)
    have h3 := hc.2 a
    have e : (cq T L N).2.1 = (sCmd T L (sPos T L N)).2.1 := rfl
    show (sCmd T L (sPos T L N)).2.1 + 1 ≤ L ∧ 2 * (N + 1) ≤ (sCmd T L (sPos T L N)).2.1 + 1
    omega
theorem chn_in {T : Nat → Int} {L : Nat} (hL : L ≤ 60) {N : Nat} (h : chn T L N) : rdIn T L (sPos T L N) (cq T L N) ∧ ((cq T L N).1 = true → sPos T L N < (cq T L N).2.1) := sCmd_in hL (chn_pos hL h).1
theorem chn_up {T : Nat → Int} {L N : Nat} (h : chn T L N) (h1 : (cq T L N).1 = true) (h2 : nx T L (cq T L N).2.1 = 59) : chn T L (N + 1) := fun j hj => by
  by_cases e : j = N
  · subst e; exact ⟨h1, h2⟩
  · exact h j (by omega)
theorem cmOk_up {C T : Nat → Int} {L N : Nat} (h : cmOk C T L N) : cmOk (kp C N (cq T L N).2.2.1 (cq T L N).2.2.2.1 (cq T L N).2.2.2.2.1 (cq T L N).2.2.2.2.2) T L (N + 1) := fun j hj => by
  by_cases e : j = N
  · subst e
    refine ⟨?_, ?_, ?_, ?_⟩ <;> simp [kp, pu]
  · obtain ⟨a, b, c, d⟩ := h j (by omega)
    refine ⟨?_, ?_, ?_, ?_⟩
    · simp only [kp]; rw [pu_n (by omega), pu_n (by omega), pu_n (by omega), pu_n (by omega)]; exact a
    · simp only [kp]; rw [pu_n (by omega), pu_n (by omega), pu_n (by omega), pu_n (by omega)]; exact b
    · simp only [kp]; rw [pu_n (by omega), pu_n (by omega), pu_n (by omega), pu_n (by omega)]; exact c
    · simp only [kp]; rw [pu_n (by omega), pu_n (by omega), pu_n (by omega), pu_n (by omega)]; exact d
