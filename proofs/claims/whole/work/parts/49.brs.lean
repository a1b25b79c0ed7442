/-- where branch k lies -/
def brB (h k : Nat) : Nat := if k = 0 then h + 1 else h + 2 + 48 * k
theorem brB_in {h k : Nat} (hk : k < 6) : h + 1 ≤ brB h k ∧ brB h k + 48 ≤ h + 290 ∧ (brB h k + 48 ≤ h + 49 ∨ h + 50 ≤ brB h k) := by unfold brB; split <;> omega
theorem brB_dis {h k j : Nat} (hkj : k ≠ j) : brB h k + 48 ≤ brB h j ∨ brB h j + 48 ≤ brB h k := by unfold brB; split <;> split <;> omega
def fu {α : Type} (F : Nat → α) (k : Nat) (v : α) : Nat → α := fun j => if j = k then v else F j
theorem fu_s {α : Type} (F : Nat → α) (k : Nat) (v : α) : fu F k v k = v := by simp [fu]
theorem fu_n {α : Type} {F : Nat → α} {k j : Nat} {v : α} (h : j ≠ k) : fu F k v j = F j := by simp [fu, h]
def brsAt (g : gE) (f : gF) (h : Nat) (B P T : Nat → Nat → Int) (sc pr ex : Nat → Int) (ps : Int) : Prop :=
  f h = .inr (3, [.ref (h + 1), .ref (h + 49), .int (zI ps)]) ∧ arB g f (h + 49) 6 (fun k => some (brB h k)) ∧ ∀ k, k < 6 → brAt g f (brB h k) (B k) (P k) (T k) (sc k) (pr k) (ex k)
theorem brsAt.kept {g : gE} {f f1 : gF} {h : Nat} {B P T : Nat → Nat → Int} {sc pr ex : Nat → Int} {ps : Int} (H : brsAt g f h B P T sc pr ex ps) (e : ∀ q, h ≤ q → q < h + 290 → f1 q = f q) : brsAt g f1 h B P T sc pr ex ps := by
  obtain ⟨h0, h1, h2⟩ := H
  refine ⟨(e _ (by omega) (by omega)).trans h0, h1.kept (e _ (by omega) (by omega)), fun k hk => ?_⟩
  have := brB_in (h := h) hk
  exact (h2 k hk).kept (fun q a b => e q (by omega) (by omega))
/-- behind a call that changes one branch alone -/
theorem brsAt.one {g : gE} {f f1 : gF} {h j : Nat} {B P T : Nat → Nat → Int} {sc pr ex : Nat → Int} {ps : Int} {B1 P1 T1 : Nat → Int} {sc1 pr1 ex1 : Int} (H : brsAt g f h B P T sc pr ex ps) (hj : j < 6) (hN : brAt g f1 (brB h j) B1 P1 T1 sc1 pr1 ex1) (o : ∀ q, (q < brB h j ∨ brB h j + 48 ≤ q) → f1 q = f q) : brsAt g f1 h (fu B j B1) (fu P j P1) (fu T j T1) (fu sc j sc1) (fu pr j pr1) (fu ex j ex1) ps := by
  obtain ⟨h0, h1, h2⟩ := H
  have hj2 := brB_in (h := h) hj
  refine ⟨(o _ (by omega)).trans h0, h1.kept (o _ (by omega)), fun k hk => ?_⟩
  by_cases hz : k = j
  · subst hz; rw [fu_s, fu_s, fu_s, fu_s, fu_s, fu_s]; exact hN
  · rw [fu_n hz, fu_n hz, fu_n hz, fu_n hz, fu_n hz, fu_n hz]
    have := brB_dis (h := h) hz
    exact (h2 k hk).kept (fun q a b => o q (by omega))
theorem brsAt.cong {g : gE} {f : gF} {h : Nat} {B P T B' P' T' : Nat → Nat → Int} {sc pr ex sc' pr' ex' : Nat → Int} {ps : Int} (H : brsAt g f h B P T sc pr ex ps) (e : ∀ k, k < 6 → B' k = B k ∧ P' k = P k ∧ T' k = T k ∧ sc' k = sc k ∧ pr' k = pr k ∧ ex' k = ex k) : brsAt g f h B' P' T' sc' pr' ex' ps := by
  obtain ⟨h0, h1, h2⟩ := H
  refine ⟨h0, h1, fun k hk => ?_⟩
  obtain ⟨a, b, c, d, e1, e2⟩ := e k hk
  rw [a, b, c, d, e1, e2]
  exact h2 k hk
def fdR (h : Nat) (ex : Nat → Int) (z : Int) : Option Nat := if 0 ≤ z ∧ z < 6 ∧ ex z.toNat = 1 then some (brB h z.toNat) else none
theorem fd_n {h i : Nat} {ex : Nat → Int} (hi : i < 6) : fdR h ex (i : Int) = if ex i = 1 then some (brB h i) else none := by
  unfold fdR
  rw [Int.toNat_natCast]
  by_cases hz : ex i = 1
  · rw [if_pos hz, if_pos ⟨by omega, by omega, hz⟩]
  · rw [if_neg hz, if_neg (fun hh => hz hh.2.2)]
def sCnt (ex : Nat → Int) (n : Nat) : Int := sSum (fun k => if ex k = 1 then 1 else 0) n
def sChd (pr ex : Nat → Int) (x : Int) (n : Nat) : Int := sSum (fun k => if ex k = 1 ∧ pr k = x then 1 else 0) n
section GB
variable {p : Program} {l : Launch} {e : Env} {R : Room} {s : State} {m : MethodId} {args : Array Value} {below : List Frame} {meth : Method} {c : Code} {H : Heap} {locs : List Loc} {cells slots : Nat} {Q : State → Prop}
variable {cc : ByteArray} {pc : Nat} {ls : Array Slot} {rest : List Value} {g : gE} {b0 n a : Nat} {f : gF} {H0 : Heap}
theorem g_aald (hexec : p.tables.exec = Jvm.exec) (hb : c.code = cc) (hK : va_K g.1 vwCl (gT g) s) (hM : gH g b0 n f H0 H locs) (ha : b0 ≤ a ∧ a < b0 + n) {N : Nat} {A : Nat → Option Nat} (hA : arB g f a N A) {z : Int} (h0 : 0 ≤ z) (h1 : z < N) (hN : N < 2147483648) (hdg : decode cc pc = .ok (.aaload, 1)) {q : Nat} (hq : A z.toNat = some q)
    (kk : W p l e R s m args below meth c H locs cells slots Q (F0 m (pc + 1) ls (.ref q :: rest))) : W p l e R s m args below meth c H locs cells slots Q (F0 m pc ls (.int (zI z) :: .ref a :: rest)) := by
  obtain ⟨q0, hq0⟩ := gM_at f ha
  obtain ⟨B, hB, hv⟩ := hA
  rw [hB] at hq0
  refine va_aldq hexec hb hK hM.1 q0 4 hq0 rfl (zI_in h0 h1 hN) hdg ?_
  rw [zI_clamp h0 (by omega), hv z.toNat (by omega), hq]
  exact kk
end GB
