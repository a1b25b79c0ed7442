def po_X8_requireRange (g : gE) (f : gF) (cnd : Prop) [hd9 : Decidable cnd] : gF → Prop := fun f1 => cnd ∧ f = f1
def px_X8_requireRange (g : gE) (f : gF) (cnd : Prop) [hd9 : Decidable cnd] : String → gF → Prop := fun E f1 => E = exN0 ∧ ¬ cnd ∧ f = f1
set_option maxRecDepth 100000 in
set_option maxHeartbeats 1000000 in
/-- requireRange -/
theorem c_X8_requireRange (l : Launch) (g : gE) (b0 n : Nat) (f : gF) (cnd : Prop) [hd9 : Decidable cnd] (hl9 : l.stackTraces = false) : cxV l yX8_requireRange cX8_requireRange 1 none 6 82 1 [.int (bI cnd)] g b0 n f (po_X8_requireRange g f cnd) (px_X8_requireRange g f cnd) := by
  refine gs_xv (cc := cX8_requireRange) (maxL := 1) (ret := none) (by decide) (Nat.le_of_ble_eq_true rfl) ?_
  intro p e0 s m args below meth c ls hx hb hr hml hown hts hlk hxt hE hK hM hl
  have hl : lv_has ls 1 [(0, .int (bI cnd))] := hl
  refine lv_iload_n hx hb dX8_requireRange_0 rfl (lv_at hl 0 rfl) ?_
  refine g_ifb_ne (tgt := 14) hx hb dX8_requireRange_1 (by decide) (fun c1 => ?_) (fun c1 => ?_)
  · skip
    refine gx_vret hx hb hr hlk hK hM dX8_requireRange_14 (by decide) (by decide) ?_
    exact ⟨c1, rfl⟩
  · skip
    refine gx_throwS (is := 80) (text := "an argument is out of range") hx hb hl9 hown hlk hts hxt hE hK hM (hl.1.trans hml.symm) (by decide +kernel) u_674 u_15 (by decide +kernel) xk_0 xg_0 dX8_requireRange_4 dX8_requireRange_7 dX8_requireRange_8 dX8_requireRange_10 dX8_requireRange_13 ⟨by decide, by decide, by decide, by decide⟩ (by decide) (by decide) ?_
    exact ⟨rfl, c1, rfl⟩

def po_X8_requirePart (g : gE) (f : gF) (cnd : Prop) [hd9 : Decidable cnd] : gF → Prop := fun f1 => cnd ∧ f = f1
def px_X8_requirePart (g : gE) (f : gF) (cnd : Prop) [hd9 : Decidable cnd] : String → gF → Prop := fun E f1 => E = exN2 ∧ ¬ cnd ∧ f = f1
set_option maxRecDepth 100000 in
set_option maxHeartbeats 1000000 in
/-- requirePart -/
theorem c_X8_requirePart (l : Launch) (g : gE) (b0 n : Nat) (f : gF) (cnd : Prop) [hd9 : Decidable cnd] (hl9 : l.stackTraces = false) : cxV l yX8_requirePart cX8_requirePart 1 none 6 82 1 [.int (bI cnd)] g b0 n f (po_X8_requirePart g f cnd) (px_X8_requirePart g f cnd) := by
  refine gs_xv (cc := cX8_requirePart) (maxL := 1) (ret := none) (by decide) (Nat.le_of_ble_eq_true rfl) ?_
  intro p e0 s m args below meth c ls hx hb hr hml hown hts hlk hxt hE hK hM hl
  have hl : lv_has ls 1 [(0, .int (bI cnd))] := hl
  refine lv_iload_n hx hb dX8_requirePart_0 rfl (lv_at hl 0 rfl) ?_
  refine g_ifb_ne (tgt := 15) hx hb dX8_requirePart_1 (by decide) (fun c1 => ?_) (fun c1 => ?_)
  · skip
    refine gx_vret hx hb hr hlk hK hM dX8_requirePart_15 (by decide) (by decide) ?_
    exact ⟨c1, rfl⟩
  · skip
    refine gx_throwSW (is := 309) (text := "no such part") hx hb hl9 hown hlk hts hxt hE hK hM (hl.1.trans hml.symm) (by decide +kernel) u_602 u_14 (by decide +kernel) xk_2 xg_2 dX8_requirePart_4 dX8_requirePart_7 dX8_requirePart_8 dX8_requirePart_11 dX8_requirePart_14 ⟨by decide, by decide, by decide, by decide⟩ (by decide) (by decide) ?_
    exact ⟨rfl, c1, rfl⟩

def po_X8_answerTo (g : gE) (f : gF) (h : Nat) (sv rs an cs cr : Int) (rf : Int) : Int32 → gF → Prop := fun r f1 => rf = 0 ∧ r = zI an ∧ f = f1
def px_X8_answerTo (g : gE) (f : gF) (h : Nat) (sv rs an cs cr : Int) (rf : Int) : String → gF → Prop := fun E f1 => ((rf = 1 ∧ E = exN2) ∨ (rf = 2 ∧ E = exN0) ∨ (3 ≤ rf ∧ E = exN1)) ∧ f = f1
set_option maxRecDepth 100000 in
set_option maxHeartbeats 1000000 in
/-- answerTo -/
theorem c_X8_answerTo (l : Launch) (g : gE) (b0 n : Nat) (f : gF) (h : Nat) (sv rs an cs cr : Int) (rf : Int) (hl9 : l.stackTraces = false) (hO : obP f h sv rs an cs cr) (hrg : b0 ≤ h ∧ h + 607 ≤ b0 + n) (hrf : 0 ≤ rf ∧ rf ≤ 4) : cxI l yX8_answerTo cX8_answerTo 2 (some .int) 6 82 1 [.ref h, .int (zI rf)] g b0 n f (po_X8_answerTo g f h sv rs an cs cr rf) (px_X8_answerTo g f h sv rs an cs cr rf) := by
  refine gs_xi (cc := cX8_answerTo) (maxL := 2) (ret := (some .int)) (by decide) (Nat.le_of_ble_eq_true rfl) ?_
  intro p e0 s m args below meth c ls hx hb hr hml hown hts hlk hxt hE hK hM hl
  have hl : lv_has ls 2 [(0, .ref h), (1, .int (zI rf))] := hl
  have hrf1 := hrf.1
  have hrf2 := hrf.2
  refine lv_iload_n hx hb dX8_answerTo_0 rfl (lv_at hl 1 rfl) ?_
  have hz1 := zI_toInt (z := rf) ⟨by omega, by omega⟩
  rcases g_sw (0) (3) rf with c1 | c1
  · refine lv_tableOut (tgt := 67) hx hb dX8_answerTo_1 (by rw [hz1]; exact c1) (by decide) ?_
    refine gx_throwS (is := 88) (text := "there is not enough money") hx hb hl9 hown hlk hts hxt hE hK hM (hl.1.trans hml.symm) (by decide +kernel) u_690 u_16 (by decide +kernel) xk_1 xg_1 dX8_answerTo_67 dX8_answerTo_70 dX8_answerTo_71 dX8_answerTo_73 dX8_answerTo_76 ⟨by decide, by decide, by decide, by decide⟩ (by decide) (by decide) ?_
    exact ⟨Or.inr (Or.inr ⟨by omega, rfl⟩), rfl⟩
  · rcases (show rf = 0 ∨ rf = 1 ∨ rf = 2 ∨ rf = 3 by omega) with c1 | c1 | c1 | c1
    · refine lv_tableIn (off := 31) (tgt := 32) hx hb dX8_answerTo_1 (by rw [hz1, c1]; decide) (by rw [hz1, c1]; decide) (by rw [hz1, c1]; decide) (by decide) ?_
      refine lv_aload_n hx hb dX8_answerTo_32 rfl (lv_at hl 0 rfl) ?_
      refine g_get (ci := 10) (v := .int (zI an)) (C := RX8) (T := TX8) (N := 9) hx hb hts iU_X8 hown hK hM ⟨by omega, by omega⟩ hO rfl 6 (by decide) (hts _ u_281) (fun _ h9 => h9) rfl dX8_answerTo_33 ?_
      refine gx_iret hx hb hr hlk hK hM dX8_answerTo_36 (by decide) (by decide) ?_
      exact ⟨by omega, rfl, rfl⟩
    · refine lv_tableIn (off := 36) (tgt := 37) hx hb dX8_answerTo_1 (by rw [hz1, c1]; decide) (by rw [hz1, c1]; decide) (by rw [hz1, c1]; decide) (by decide) ?_
      refine gx_throwS (is := 73) (text := "no such part of the plan") hx hb hl9 hown hlk hts hxt hE hK hM (hl.1.trans hml.symm) (by decide +kernel) u_602 u_14 (by decide +kernel) xk_2 xg_2 dX8_answerTo_37 dX8_answerTo_40 dX8_answerTo_41 dX8_answerTo_43 dX8_answerTo_46 ⟨by decide, by decide, by decide, by decide⟩ (by decide) (by decide) ?_
      exact ⟨Or.inl ⟨by omega, rfl⟩, rfl⟩
    · refine lv_tableIn (off := 46) (tgt := 47) hx hb dX8_answerTo_1 (by rw [hz1, c1]; decide) (by rw [hz1, c1]; decide) (by rw [hz1, c1]; decide) (by decide) ?_
      refine gx_throwS (is := 80) (text := "an argument is out of range") hx hb hl9 hown hlk hts hxt hE hK hM (hl.1.trans hml.symm) (by decide +kernel) u_674 u_15 (by decide +kernel) xk_0 xg_0 dX8_answerTo_47 dX8_answerTo_50 dX8_answerTo_51 dX8_answerTo_53 dX8_answerTo_56 ⟨by decide, by decide, by decide, by decide⟩ (by decide) (by decide) ?_
      exact ⟨Or.inr (Or.inl ⟨by omega, rfl⟩), rfl⟩
    · refine lv_tableIn (off := 56) (tgt := 57) hx hb dX8_answerTo_1 (by rw [hz1, c1]; decide) (by rw [hz1, c1]; decide) (by rw [hz1, c1]; decide) (by decide) ?_
      refine gx_throwS (is := 85) (text := "there are as many as possible") hx hb hl9 hown hlk hts hxt hE hK hM (hl.1.trans hml.symm) (by decide +kernel) u_690 u_16 (by decide +kernel) xk_1 xg_1 dX8_answerTo_57 dX8_answerTo_60 dX8_answerTo_61 dX8_answerTo_63 dX8_answerTo_66 ⟨by decide, by decide, by decide, by decide⟩ (by decide) (by decide) ?_
      exact ⟨Or.inr (Or.inr ⟨by omega, rfl⟩), rfl⟩

def po_X8_addEnvelope (g : gE) (f : gF) (h : Nat) (B P T : Nat → Nat → Int) (sc : Nat → Nat) (pr ex : Nat → Int) (ps : Nat) (sv rs an cs cr : Int) (a b v0 : Int) : Int32 → gF → Prop := fun r f1 => tRf P T sc ps 0 a b 0 0 = 0 ∧ r = zI (tA P T sc ps 0 a b 0 0 an) ∧ brsAt g f1 (h + 1) B (tP P T sc ps 0 a b 0 0) (tT P T sc ps 0 a b 0 0) (fun k => (↑(tS P T sc ps 0 a b 0 0 k) : Int)) pr ex (↑ps : Int) ∧ obP f1 h sv (tR P T sc ps 0 a b 0 0 rs) (tA P T sc ps 0 a b 0 0 an) cs cr ∧ ∀ q, (q < h ∨ h + 291 ≤ q) → f1 q = f q
def px_X8_addEnvelope (g : gE) (f : gF) (h : Nat) (B P T : Nat → Nat → Int) (sc : Nat → Nat) (pr ex : Nat → Int) (ps : Nat) (sv rs an cs cr : Int) (a b v0 : Int) : String → gF → Prop := fun E f1 => ((tRf P T sc ps 0 a b 0 0 = 1 ∧ E = exN2) ∨ (tRf P T sc ps 0 a b 0 0 = 2 ∧ E = exN0) ∨ (3 ≤ tRf P T sc ps 0 a b 0 0 ∧ E = exN1)) ∧ brsAt g f1 (h + 1) B (tP P T sc ps 0 a b 0 0) (tT P T sc ps 0 a b 0 0) (fun k => (↑(tS P T sc ps 0 a b 0 0 k) : Int)) pr ex (↑ps : Int) ∧ obP f1 h sv (tR P T sc ps 0 a b 0 0 rs) (tA P T sc ps 0 a b 0 0 an) cs cr ∧ ∀ q, (q < h ∨ h + 291 ≤ q) → f1 q = f q
set_option maxRecDepth 100000 in
set_option maxHeartbeats 1000000 in
/-- addEnvelope -/
theorem c_X8_addEnvelope (l : Launch) (g : gE) (b0 n : Nat) (f : gF) (h : Nat) (B P T : Nat → Nat → Int) (sc : Nat → Nat) (pr ex : Nat → Int) (ps : Nat) (sv rs an cs cr : Int) (a b v0 : Int) (hl9 : l.stackTraces = false) (hO : obP f h sv rs an cs cr) (hrg : b0 ≤ h ∧ h + 607 ≤ b0 + n) (hS : brsAt g f (h + 1) B P T (fun k => (↑(sc k) : Int)) pr ex (↑ps : Int)) (hex : ∀ k, k < 6 → ex k = 0 ∨ ex k = 1) (hps : ps < 6) (hpx : ex ps = 1) (hok : ∀ k, k < 6 → pOk (P k) v0) (hv1 : 0 ≤ v0) (hv0 : v0 + 541 ≤ 800000000) (hsc : ∀ k, k < 6 → sc k ≤ 60) (hra : rI a) (hrb : rI b) : cxI l yX8_addEnvelope cX8_addEnvelope 3 (some .int) 7 161 1 [.ref h, .int (zI a), .int (zI b)] g b0 n f (po_X8_addEnvelope g f h B P T sc pr ex ps sv rs an cs cr a b v0) (px_X8_addEnvelope g f h B P T sc pr ex ps sv rs an cs cr a b v0) := by
  refine gs_xi (cc := cX8_addEnvelope) (maxL := 3) (ret := (some .int)) (by decide) (Nat.le_of_ble_eq_true rfl) ?_
  intro p e0 s m args below meth c ls hx hb hr hml hown hts hlk hxt hE hK hM hl
  have hl : lv_has ls 3 [(0, .ref h), (1, .int (zI a)), (2, .int (zI b))] := hl
  refine lv_aload_n hx hb dX8_addEnvelope_0 rfl (lv_at hl 0 rfl) ?_
  refine lv_aload_n hx hb dX8_addEnvelope_1 rfl (lv_at hl 0 rfl) ?_
  refine g_iconst hx hb dX8_addEnvelope_2 ?_
  refine lv_iload_n hx hb dX8_addEnvelope_3 rfl (lv_at hl 1 rfl) ?_
  refine lv_iload_n hx hb dX8_addEnvelope_4 rfl (lv_at hl 2 rfl) ?_
  refine g_iconst hx hb dX8_addEnvelope_5 ?_
  refine g_iconst hx hb dX8_addEnvelope_6 ?_
  have hC1 := c_X8_tryStep l g b0 n f h B P T sc pr ex ps sv rs an cs cr 0 a b 0 0 v0 hO hrg hS hex hps hpx hok hv1 hv0 (by decide) (by decide) hra hrb rI_0 rI_0 hsc
  refine g_callVi (ci := 10) (C := RX8) (T := TX8) (N := 9) (As := [.int (zI 0), .int (zI a), .int (zI b), .int (zI 0), .int (zI 0)]) (rest := [.ref h]) ⟨hx, hb, hml, hown, hts⟩ hK hM hC1 (cuV (n := 5) hts u_362 u_359 u_1 (by decide) u_361 us_10 ⟨Nat.le_of_ble_eq_true rfl, Nat.le_of_ble_eq_true rfl⟩) ⟨by omega, by omega⟩ hO rfl rfl hl.1 rfl (Nat.le_of_ble_eq_true rfl) dX8_addEnvelope_7 ⟨Nat.le_of_ble_eq_true rfl, Nat.le_of_ble_eq_true rfl⟩ (fun r7 f2 H locs hM hp3 => ?_)
  obtain ⟨rfl, hs4, ho5, o6⟩ := hp3
  have hrf9 : 0 ≤ tRf P T sc ps 0 a b 0 0 ∧ tRf P T sc ps 0 a b 0 0 ≤ 4 := by unfold tRf; exact ref_in
  have hC7 := c_X8_answerTo l g b0 n f2 h sv (tR P T sc ps 0 a b 0 0 rs) (tA P T sc ps 0 a b 0 0 an) cs cr (tRf P T sc ps 0 a b 0 0) hl9 ho5 hrg hrf9
  refine gx_callVi (ci := 10) (C := RX8) (T := TX8) (N := 9) (As := [.int (zI (tRf P T sc ps 0 a b 0 0))]) (rest := []) ⟨hx, hb, hml, hown, hts⟩ hK hM hE hC7 (cuVx (n := 1) hts u_601 u_598 u_1 (by decide) u_600 us_22 ⟨Nat.le_of_ble_eq_true rfl, Nat.le_of_ble_eq_true rfl⟩) ⟨by omega, by omega⟩ ho5 rfl rfl hl.1 rfl (Nat.le_of_ble_eq_true rfl) dX8_addEnvelope_10 ⟨(Nat.le_of_ble_eq_true rfl), (Nat.le_of_ble_eq_true rfl)⟩ (fun E9 ce9 q9 f8 H locs hM hp9 h91 h92 h93 => gx_pass hxt hlk hK hM ?_ h91 h92 h93 (by decide) (by decide)) (fun r10 f8 H locs hM hp9 => ?_)
  · skip
    obtain ⟨hE9, rfl⟩ := hp9
    exact ⟨hE9, hs4, ho5, o6⟩
  · skip
    obtain ⟨hz9, rfl, rfl⟩ := hp9
    refine gx_iret hx hb hr hlk hK hM dX8_addEnvelope_13 (by decide) (by decide) ?_
    exact ⟨hz9, rfl, hs4, ho5, o6⟩

def po_X8_setCap (g : gE) (f : gF) (h : Nat) (B P T : Nat → Nat → Int) (sc : Nat → Nat) (pr ex : Nat → Int) (ps : Nat) (sv rs an cs cr : Int) (a b v0 : Int) : Int32 → gF → Prop := fun r f1 => tRf P T sc ps 1 a b 0 0 = 0 ∧ r = zI (tA P T sc ps 1 a b 0 0 an) ∧ brsAt g f1 (h + 1) B (tP P T sc ps 1 a b 0 0) (tT P T sc ps 1 a b 0 0) (fun k => (↑(tS P T sc ps 1 a b 0 0 k) : Int)) pr ex (↑ps : Int) ∧ obP f1 h sv (tR P T sc ps 1 a b 0 0 rs) (tA P T sc ps 1 a b 0 0 an) cs cr ∧ ∀ q, (q < h ∨ h + 291 ≤ q) → f1 q = f q
def px_X8_setCap (g : gE) (f : gF) (h : Nat) (B P T : Nat → Nat → Int) (sc : Nat → Nat) (pr ex : Nat → Int) (ps : Nat) (sv rs an cs cr : Int) (a b v0 : Int) : String → gF → Prop := fun E f1 => ((tRf P T sc ps 1 a b 0 0 = 1 ∧ E = exN2) ∨ (tRf P T sc ps 1 a b 0 0 = 2 ∧ E = exN0) ∨ (3 ≤ tRf P T sc ps 1 a b 0 0 ∧ E = exN1)) ∧ brsAt g f1 (h + 1) B (tP P T sc ps 1 a b 0 0) (tT P T sc ps 1 a b 0 0) (fun k => (↑(tS P T sc ps 1 a b 0 0 k) : Int)) pr ex (↑ps : Int) ∧ obP f1 h sv (tR P T sc ps 1 a b 0 0 rs) (tA P T sc ps 1 a b 0 0 an) cs cr ∧ ∀ q, (q < h ∨ h + 291 ≤ q) → f1 q = f q
set_option maxRecDepth 100000 in
set_option maxHeartbeats 1000000 in
/-- setCap -/
theorem c_X8_setCap (l : Launch) (g : gE) (b0 n : Nat) (f : gF) (h : Nat) (B P T : Nat → Nat → Int) (sc : Nat → Nat) (pr ex : Nat → Int) (ps : Nat) (sv rs an cs cr : Int) (a b v0 : Int) (hl9 : l.stackTraces = false) (hO : obP f h sv rs an cs cr) (hrg : b0 ≤ h ∧ h + 607 ≤ b0 + n) (hS : brsAt g f (h + 1) B P T (fun k => (↑(sc k) : Int)) pr ex (↑ps : Int)) (hex : ∀ k, k < 6 → ex k = 0 ∨ ex k = 1) (hps : ps < 6) (hpx : ex ps = 1) (hok : ∀ k, k < 6 → pOk (P k) v0) (hv1 : 0 ≤ v0) (hv0 : v0 + 541 ≤ 800000000) (hsc : ∀ k, k < 6 → sc k ≤ 60) (hra : rI a) (hrb : rI b) : cxI l yX8_setCap cX8_setCap 3 (some .int) 7 161 1 [.ref h, .int (zI a), .int (zI b)] g b0 n f (po_X8_setCap g f h B P T sc pr ex ps sv rs an cs cr a b v0) (px_X8_setCap g f h B P T sc pr ex ps sv rs an cs cr a b v0) := by
  refine gs_xi (cc := cX8_setCap) (maxL := 3) (ret := (some .int)) (by decide) (Nat.le_of_ble_eq_true rfl) ?_
  intro p e0 s m args below meth c ls hx hb hr hml hown hts hlk hxt hE hK hM hl
  have hl : lv_has ls 3 [(0, .ref h), (1, .int (zI a)), (2, .int (zI b))] := hl
  refine lv_aload_n hx hb dX8_setCap_0 rfl (lv_at hl 0 rfl) ?_
  refine lv_aload_n hx hb dX8_setCap_1 rfl (lv_at hl 0 rfl) ?_
  refine g_iconst hx hb dX8_setCap_2 ?_
  refine lv_iload_n hx hb dX8_setCap_3 rfl (lv_at hl 1 rfl) ?_
  refine lv_iload_n hx hb dX8_setCap_4 rfl (lv_at hl 2 rfl) ?_
  refine g_iconst hx hb dX8_setCap_5 ?_
  refine g_iconst hx hb dX8_setCap_6 ?_
  have hC1 := c_X8_tryStep l g b0 n f h B P T sc pr ex ps sv rs an cs cr 1 a b 0 0 v0 hO hrg hS hex hps hpx hok hv1 hv0 (by decide) (by decide) hra hrb rI_0 rI_0 hsc
  refine g_callVi (ci := 10) (C := RX8) (T := TX8) (N := 9) (As := [.int (zI 1), .int (zI a), .int (zI b), .int (zI 0), .int (zI 0)]) (rest := [.ref h]) ⟨hx, hb, hml, hown, hts⟩ hK hM hC1 (cuV (n := 5) hts u_362 u_359 u_1 (by decide) u_361 us_10 ⟨Nat.le_of_ble_eq_true rfl, Nat.le_of_ble_eq_true rfl⟩) ⟨by omega, by omega⟩ hO rfl rfl hl.1 rfl (Nat.le_of_ble_eq_true rfl) dX8_setCap_7 ⟨Nat.le_of_ble_eq_true rfl, Nat.le_of_ble_eq_true rfl⟩ (fun r7 f2 H locs hM hp3 => ?_)
  obtain ⟨rfl, hs4, ho5, o6⟩ := hp3
  have hrf9 : 0 ≤ tRf P T sc ps 1 a b 0 0 ∧ tRf P T sc ps 1 a b 0 0 ≤ 4 := by unfold tRf; exact ref_in
  have hC7 := c_X8_answerTo l g b0 n f2 h sv (tR P T sc ps 1 a b 0 0 rs) (tA P T sc ps 1 a b 0 0 an) cs cr (tRf P T sc ps 1 a b 0 0) hl9 ho5 hrg hrf9
  refine gx_callVi (ci := 10) (C := RX8) (T := TX8) (N := 9) (As := [.int (zI (tRf P T sc ps 1 a b 0 0))]) (rest := []) ⟨hx, hb, hml, hown, hts⟩ hK hM hE hC7 (cuVx (n := 1) hts u_601 u_598 u_1 (by decide) u_600 us_22 ⟨Nat.le_of_ble_eq_true rfl, Nat.le_of_ble_eq_true rfl⟩) ⟨by omega, by omega⟩ ho5 rfl rfl hl.1 rfl (Nat.le_of_ble_eq_true rfl) dX8_setCap_10 ⟨(Nat.le_of_ble_eq_true rfl), (Nat.le_of_ble_eq_true rfl)⟩ (fun E9 ce9 q9 f8 H locs hM hp9 h91 h92 h93 => gx_pass hxt hlk hK hM ?_ h91 h92 h93 (by decide) (by decide)) (fun r10 f8 H locs hM hp9 => ?_)
  · skip
    obtain ⟨hE9, rfl⟩ := hp9
    exact ⟨hE9, hs4, ho5, o6⟩
  · skip
    obtain ⟨hz9, rfl, rfl⟩ := hp9
    refine gx_iret hx hb hr hlk hK hM dX8_setCap_13 (by decide) (by decide) ?_
    exact ⟨hz9, rfl, hs4, ho5, o6⟩

def po_X8_setRollover (g : gE) (f : gF) (h : Nat) (B P T : Nat → Nat → Int) (sc : Nat → Nat) (pr ex : Nat → Int) (ps : Nat) (sv rs an cs cr : Int) (a b v0 : Int) : Int32 → gF → Prop := fun r f1 => tRf P T sc ps 2 a b 0 0 = 0 ∧ r = zI (tA P T sc ps 2 a b 0 0 an) ∧ brsAt g f1 (h + 1) B (tP P T sc ps 2 a b 0 0) (tT P T sc ps 2 a b 0 0) (fun k => (↑(tS P T sc ps 2 a b 0 0 k) : Int)) pr ex (↑ps : Int) ∧ obP f1 h sv (tR P T sc ps 2 a b 0 0 rs) (tA P T sc ps 2 a b 0 0 an) cs cr ∧ ∀ q, (q < h ∨ h + 291 ≤ q) → f1 q = f q
def px_X8_setRollover (g : gE) (f : gF) (h : Nat) (B P T : Nat → Nat → Int) (sc : Nat → Nat) (pr ex : Nat → Int) (ps : Nat) (sv rs an cs cr : Int) (a b v0 : Int) : String → gF → Prop := fun E f1 => ((tRf P T sc ps 2 a b 0 0 = 1 ∧ E = exN2) ∨ (tRf P T sc ps 2 a b 0 0 = 2 ∧ E = exN0) ∨ (3 ≤ tRf P T sc ps 2 a b 0 0 ∧ E = exN1)) ∧ brsAt g f1 (h + 1) B (tP P T sc ps 2 a b 0 0) (tT P T sc ps 2 a b 0 0) (fun k => (↑(tS P T sc ps 2 a b 0 0 k) : Int)) pr ex (↑ps : Int) ∧ obP f1 h sv (tR P T sc ps 2 a b 0 0 rs) (tA P T sc ps 2 a b 0 0 an) cs cr ∧ ∀ q, (q < h ∨ h + 291 ≤ q) → f1 q = f q
set_option maxRecDepth 100000 in
set_option maxHeartbeats 1000000 in
/-- setRollover -/
theorem c_X8_setRollover (l : Launch) (g : gE) (b0 n : Nat) (f : gF) (h : Nat) (B P T : Nat → Nat → Int) (sc : Nat → Nat) (pr ex : Nat → Int) (ps : Nat) (sv rs an cs cr : Int) (a b v0 : Int) (hl9 : l.stackTraces = false) (hO : obP f h sv rs an cs cr) (hrg : b0 ≤ h ∧ h + 607 ≤ b0 + n) (hS : brsAt g f (h + 1) B P T (fun k => (↑(sc k) : Int)) pr ex (↑ps : Int)) (hex : ∀ k, k < 6 → ex k = 0 ∨ ex k = 1) (hps : ps < 6) (hpx : ex ps = 1) (hok : ∀ k, k < 6 → pOk (P k) v0) (hv1 : 0 ≤ v0) (hv0 : v0 + 541 ≤ 800000000) (hsc : ∀ k, k < 6 → sc k ≤ 60) (hra : rI a) (hrb : rI b) : cxI l yX8_setRollover cX8_setRollover 3 (some .int) 7 161 1 [.ref h, .int (zI a), .int (zI b)] g b0 n f (po_X8_setRollover g f h B P T sc pr ex ps sv rs an cs cr a b v0) (px_X8_setRollover g f h B P T sc pr ex ps sv rs an cs cr a b v0) := by
  refine gs_xi (cc := cX8_setRollover) (maxL := 3) (ret := (some .int)) (by decide) (Nat.le_of_ble_eq_true rfl) ?_
  intro p e0 s m args below meth c ls hx hb hr hml hown hts hlk hxt hE hK hM hl
  have hl : lv_has ls 3 [(0, .ref h), (1, .int (zI a)), (2, .int (zI b))] := hl
  refine lv_aload_n hx hb dX8_setRollover_0 rfl (lv_at hl 0 rfl) ?_
  refine lv_aload_n hx hb dX8_setRollover_1 rfl (lv_at hl 0 rfl) ?_
  refine g_iconst hx hb dX8_setRollover_2 ?_
  refine lv_iload_n hx hb dX8_setRollover_3 rfl (lv_at hl 1 rfl) ?_
  refine lv_iload_n hx hb dX8_setRollover_4 rfl (lv_at hl 2 rfl) ?_
  refine g_iconst hx hb dX8_setRollover_5 ?_
  refine g_iconst hx hb dX8_setRollover_6 ?_
  have hC1 := c_X8_tryStep l g b0 n f h B P T sc pr ex ps sv rs an cs cr 2 a b 0 0 v0 hO hrg hS hex hps hpx hok hv1 hv0 (by decide) (by decide) hra hrb rI_0 rI_0 hsc
  refine g_callVi (ci := 10) (C := RX8) (T := TX8) (N := 9) (As := [.int (zI 2), .int (zI a), .int (zI b), .int (zI 0), .int (zI 0)]) (rest := [.ref h]) ⟨hx, hb, hml, hown, hts⟩ hK hM hC1 (cuV (n := 5) hts u_362 u_359 u_1 (by decide) u_361 us_10 ⟨Nat.le_of_ble_eq_true rfl, Nat.le_of_ble_eq_true rfl⟩) ⟨by omega, by omega⟩ hO rfl rfl hl.1 rfl (Nat.le_of_ble_eq_true rfl) dX8_setRollover_7 ⟨Nat.le_of_ble_eq_true rfl, Nat.le_of_ble_eq_true rfl⟩ (fun r7 f2 H locs hM hp3 => ?_)
  obtain ⟨rfl, hs4, ho5, o6⟩ := hp3
  have hrf9 : 0 ≤ tRf P T sc ps 2 a b 0 0 ∧ tRf P T sc ps 2 a b 0 0 ≤ 4 := by unfold tRf; exact ref_in
  have hC7 := c_X8_answerTo l g b0 n f2 h sv (tR P T sc ps 2 a b 0 0 rs) (tA P T sc ps 2 a b 0 0 an) cs cr (tRf P T sc ps 2 a b 0 0) hl9 ho5 hrg hrf9
  refine gx_callVi (ci := 10) (C := RX8) (T := TX8) (N := 9) (As := [.int (zI (tRf P T sc ps 2 a b 0 0))]) (rest := []) ⟨hx, hb, hml, hown, hts⟩ hK hM hE hC7 (cuVx (n := 1) hts u_601 u_598 u_1 (by decide) u_600 us_22 ⟨Nat.le_of_ble_eq_true rfl, Nat.le_of_ble_eq_true rfl⟩) ⟨by omega, by omega⟩ ho5 rfl rfl hl.1 rfl (Nat.le_of_ble_eq_true rfl) dX8_setRollover_10 ⟨(Nat.le_of_ble_eq_true rfl), (Nat.le_of_ble_eq_true rfl)⟩ (fun E9 ce9 q9 f8 H locs hM hp9 h91 h92 h93 => gx_pass hxt hlk hK hM ?_ h91 h92 h93 (by decide) (by decide)) (fun r10 f8 H locs hM hp9 => ?_)
  · skip
    obtain ⟨hE9, rfl⟩ := hp9
    exact ⟨hE9, hs4, ho5, o6⟩
  · skip
    obtain ⟨hz9, rfl, rfl⟩ := hp9
    refine gx_iret hx hb hr hlk hK hM dX8_setRollover_13 (by decide) (by decide) ?_
    exact ⟨hz9, rfl, hs4, ho5, o6⟩

def po_X8_addRule (g : gE) (f : gF) (h : Nat) (B P T : Nat → Nat → Int) (sc : Nat → Nat) (pr ex : Nat → Int) (ps : Nat) (sv rs an cs cr : Int) (a b x v0 : Int) : Int32 → gF → Prop := fun r f1 => tRf P T sc ps 3 a b x 0 = 0 ∧ r = zI (tA P T sc ps 3 a b x 0 an) ∧ brsAt g f1 (h + 1) B (tP P T sc ps 3 a b x 0) (tT P T sc ps 3 a b x 0) (fun k => (↑(tS P T sc ps 3 a b x 0 k) : Int)) pr ex (↑ps : Int) ∧ obP f1 h sv (tR P T sc ps 3 a b x 0 rs) (tA P T sc ps 3 a b x 0 an) cs cr ∧ ∀ q, (q < h ∨ h + 291 ≤ q) → f1 q = f q
def px_X8_addRule (g : gE) (f : gF) (h : Nat) (B P T : Nat → Nat → Int) (sc : Nat → Nat) (pr ex : Nat → Int) (ps : Nat) (sv rs an cs cr : Int) (a b x v0 : Int) : String → gF → Prop := fun E f1 => ((tRf P T sc ps 3 a b x 0 = 1 ∧ E = exN2) ∨ (tRf P T sc ps 3 a b x 0 = 2 ∧ E = exN0) ∨ (3 ≤ tRf P T sc ps 3 a b x 0 ∧ E = exN1)) ∧ brsAt g f1 (h + 1) B (tP P T sc ps 3 a b x 0) (tT P T sc ps 3 a b x 0) (fun k => (↑(tS P T sc ps 3 a b x 0 k) : Int)) pr ex (↑ps : Int) ∧ obP f1 h sv (tR P T sc ps 3 a b x 0 rs) (tA P T sc ps 3 a b x 0 an) cs cr ∧ ∀ q, (q < h ∨ h + 291 ≤ q) → f1 q = f q
set_option maxRecDepth 100000 in
set_option maxHeartbeats 1000000 in
/-- addRule -/
theorem c_X8_addRule (l : Launch) (g : gE) (b0 n : Nat) (f : gF) (h : Nat) (B P T : Nat → Nat → Int) (sc : Nat → Nat) (pr ex : Nat → Int) (ps : Nat) (sv rs an cs cr : Int) (a b x v0 : Int) (hl9 : l.stackTraces = false) (hO : obP f h sv rs an cs cr) (hrg : b0 ≤ h ∧ h + 607 ≤ b0 + n) (hS : brsAt g f (h + 1) B P T (fun k => (↑(sc k) : Int)) pr ex (↑ps : Int)) (hex : ∀ k, k < 6 → ex k = 0 ∨ ex k = 1) (hps : ps < 6) (hpx : ex ps = 1) (hok : ∀ k, k < 6 → pOk (P k) v0) (hv1 : 0 ≤ v0) (hv0 : v0 + 541 ≤ 800000000) (hsc : ∀ k, k < 6 → sc k ≤ 60) (hra : rI a) (hrb : rI b) (hrx : rI x) : cxI l yX8_addRule cX8_addRule 4 (some .int) 7 161 1 [.ref h, .int (zI a), .int (zI b), .int (zI x)] g b0 n f (po_X8_addRule g f h B P T sc pr ex ps sv rs an cs cr a b x v0) (px_X8_addRule g f h B P T sc pr ex ps sv rs an cs cr a b x v0) := by
  refine gs_xi (cc := cX8_addRule) (maxL := 4) (ret := (some .int)) (by decide) (Nat.le_of_ble_eq_true rfl) ?_
  intro p e0 s m args below meth c ls hx hb hr hml hown hts hlk hxt hE hK hM hl
  have hl : lv_has ls 4 [(0, .ref h), (1, .int (zI a)), (2, .int (zI b)), (3, .int (zI x))] := hl
  refine lv_aload_n hx hb dX8_addRule_0 rfl (lv_at hl 0 rfl) ?_
  refine lv_aload_n hx hb dX8_addRule_1 rfl (lv_at hl 0 rfl) ?_
  refine g_iconst hx hb dX8_addRule_2 ?_
  refine lv_iload_n hx hb dX8_addRule_3 rfl (lv_at hl 1 rfl) ?_
  refine lv_iload_n hx hb dX8_addRule_4 rfl (lv_at hl 2 rfl) ?_
  refine lv_iload_n hx hb dX8_addRule_5 rfl (lv_at hl 3 rfl) ?_
  refine g_iconst hx hb dX8_addRule_6 ?_
  have hC1 := c_X8_tryStep l g b0 n f h B P T sc pr ex ps sv rs an cs cr 3 a b x 0 v0 hO hrg hS hex hps hpx hok hv1 hv0 (by decide) (by decide) hra hrb hrx rI_0 hsc
  refine g_callVi (ci := 10) (C := RX8) (T := TX8) (N := 9) (As := [.int (zI 3), .int (zI a), .int (zI b), .int (zI x), .int (zI 0)]) (rest := [.ref h]) ⟨hx, hb, hml, hown, hts⟩ hK hM hC1 (cuV (n := 5) hts u_362 u_359 u_1 (by decide) u_361 us_10 ⟨Nat.le_of_ble_eq_true rfl, Nat.le_of_ble_eq_true rfl⟩) ⟨by omega, by omega⟩ hO rfl rfl hl.1 rfl (Nat.le_of_ble_eq_true rfl) dX8_addRule_7 ⟨Nat.le_of_ble_eq_true rfl, Nat.le_of_ble_eq_true rfl⟩ (fun r7 f2 H locs hM hp3 => ?_)
  obtain ⟨rfl, hs4, ho5, o6⟩ := hp3
  have hrf9 : 0 ≤ tRf P T sc ps 3 a b x 0 ∧ tRf P T sc ps 3 a b x 0 ≤ 4 := by unfold tRf; exact ref_in
  have hC7 := c_X8_answerTo l g b0 n f2 h sv (tR P T sc ps 3 a b x 0 rs) (tA P T sc ps 3 a b x 0 an) cs cr (tRf P T sc ps 3 a b x 0) hl9 ho5 hrg hrf9
  refine gx_callVi (ci := 10) (C := RX8) (T := TX8) (N := 9) (As := [.int (zI (tRf P T sc ps 3 a b x 0))]) (rest := []) ⟨hx, hb, hml, hown, hts⟩ hK hM hE hC7 (cuVx (n := 1) hts u_601 u_598 u_1 (by decide) u_600 us_22 ⟨Nat.le_of_ble_eq_true rfl, Nat.le_of_ble_eq_true rfl⟩) ⟨by omega, by omega⟩ ho5 rfl rfl hl.1 rfl (Nat.le_of_ble_eq_true rfl) dX8_addRule_10 ⟨(Nat.le_of_ble_eq_true rfl), (Nat.le_of_ble_eq_true rfl)⟩ (fun E9 ce9 q9 f8 H locs hM hp9 h91 h92 h93 => gx_pass hxt hlk hK hM ?_ h91 h92 h93 (by decide) (by decide)) (fun r10 f8 H locs hM hp9 => ?_)
  · skip
    obtain ⟨hE9, rfl⟩ := hp9
    exact ⟨hE9, hs4, ho5, o6⟩
  · skip
    obtain ⟨hz9, rfl, rfl⟩ := hp9
    refine gx_iret hx hb hr hlk hK hM dX8_addRule_13 (by decide) (by decide) ?_
    exact ⟨hz9, rfl, hs4, ho5, o6⟩

def po_X8_removeRule (g : gE) (f : gF) (h : Nat) (B P T : Nat → Nat → Int) (sc : Nat → Nat) (pr ex : Nat → Int) (ps : Nat) (sv rs an cs cr : Int) (a v0 : Int) : Int32 → gF → Prop := fun r f1 => tRf P T sc ps 4 a 0 0 0 = 0 ∧ r = zI (tA P T sc ps 4 a 0 0 0 an) ∧ brsAt g f1 (h + 1) B (tP P T sc ps 4 a 0 0 0) (tT P T sc ps 4 a 0 0 0) (fun k => (↑(tS P T sc ps 4 a 0 0 0 k) : Int)) pr ex (↑ps : Int) ∧ obP f1 h sv (tR P T sc ps 4 a 0 0 0 rs) (tA P T sc ps 4 a 0 0 0 an) cs cr ∧ ∀ q, (q < h ∨ h + 291 ≤ q) → f1 q = f q
def px_X8_removeRule (g : gE) (f : gF) (h : Nat) (B P T : Nat → Nat → Int) (sc : Nat → Nat) (pr ex : Nat → Int) (ps : Nat) (sv rs an cs cr : Int) (a v0 : Int) : String → gF → Prop := fun E f1 => ((tRf P T sc ps 4 a 0 0 0 = 1 ∧ E = exN2) ∨ (tRf P T sc ps 4 a 0 0 0 = 2 ∧ E = exN0) ∨ (3 ≤ tRf P T sc ps 4 a 0 0 0 ∧ E = exN1)) ∧ brsAt g f1 (h + 1) B (tP P T sc ps 4 a 0 0 0) (tT P T sc ps 4 a 0 0 0) (fun k => (↑(tS P T sc ps 4 a 0 0 0 k) : Int)) pr ex (↑ps : Int) ∧ obP f1 h sv (tR P T sc ps 4 a 0 0 0 rs) (tA P T sc ps 4 a 0 0 0 an) cs cr ∧ ∀ q, (q < h ∨ h + 291 ≤ q) → f1 q = f q
set_option maxRecDepth 100000 in
set_option maxHeartbeats 1000000 in
/-- removeRule -/
theorem c_X8_removeRule (l : Launch) (g : gE) (b0 n : Nat) (f : gF) (h : Nat) (B P T : Nat → Nat → Int) (sc : Nat → Nat) (pr ex : Nat → Int) (ps : Nat) (sv rs an cs cr : Int) (a v0 : Int) (hl9 : l.stackTraces = false) (hO : obP f h sv rs an cs cr) (hrg : b0 ≤ h ∧ h + 607 ≤ b0 + n) (hS : brsAt g f (h + 1) B P T (fun k => (↑(sc k) : Int)) pr ex (↑ps : Int)) (hex : ∀ k, k < 6 → ex k = 0 ∨ ex k = 1) (hps : ps < 6) (hpx : ex ps = 1) (hok : ∀ k, k < 6 → pOk (P k) v0) (hv1 : 0 ≤ v0) (hv0 : v0 + 541 ≤ 800000000) (hsc : ∀ k, k < 6 → sc k ≤ 60) (hra : rI a) : cxI l yX8_removeRule cX8_removeRule 2 (some .int) 7 161 1 [.ref h, .int (zI a)] g b0 n f (po_X8_removeRule g f h B P T sc pr ex ps sv rs an cs cr a v0) (px_X8_removeRule g f h B P T sc pr ex ps sv rs an cs cr a v0) := by
  refine gs_xi (cc := cX8_removeRule) (maxL := 2) (ret := (some .int)) (by decide) (Nat.le_of_ble_eq_true rfl) ?_
  intro p e0 s m args below meth c ls hx hb hr hml hown hts hlk hxt hE hK hM hl
  have hl : lv_has ls 2 [(0, .ref h), (1, .int (zI a))] := hl
  refine lv_aload_n hx hb dX8_removeRule_0 rfl (lv_at hl 0 rfl) ?_
  refine lv_aload_n hx hb dX8_removeRule_1 rfl (lv_at hl 0 rfl) ?_
  refine g_iconst hx hb dX8_removeRule_2 ?_
  refine lv_iload_n hx hb dX8_removeRule_3 rfl (lv_at hl 1 rfl) ?_
  refine g_iconst hx hb dX8_removeRule_4 ?_
  refine g_iconst hx hb dX8_removeRule_5 ?_
  refine g_iconst hx hb dX8_removeRule_6 ?_
  have hC1 := c_X8_tryStep l g b0 n f h B P T sc pr ex ps sv rs an cs cr 4 a 0 0 0 v0 hO hrg hS hex hps hpx hok hv1 hv0 (by decide) (by decide) hra rI_0 rI_0 rI_0 hsc
  refine g_callVi (ci := 10) (C := RX8) (T := TX8) (N := 9) (As := [.int (zI 4), .int (zI a), .int (zI 0), .int (zI 0), .int (zI 0)]) (rest := [.ref h]) ⟨hx, hb, hml, hown, hts⟩ hK hM hC1 (cuV (n := 5) hts u_362 u_359 u_1 (by decide) u_361 us_10 ⟨Nat.le_of_ble_eq_true rfl, Nat.le_of_ble_eq_true rfl⟩) ⟨by omega, by omega⟩ hO rfl rfl hl.1 rfl (Nat.le_of_ble_eq_true rfl) dX8_removeRule_7 ⟨Nat.le_of_ble_eq_true rfl, Nat.le_of_ble_eq_true rfl⟩ (fun r7 f2 H locs hM hp3 => ?_)
  obtain ⟨rfl, hs4, ho5, o6⟩ := hp3
  have hrf9 : 0 ≤ tRf P T sc ps 4 a 0 0 0 ∧ tRf P T sc ps 4 a 0 0 0 ≤ 4 := by unfold tRf; exact ref_in
  have hC7 := c_X8_answerTo l g b0 n f2 h sv (tR P T sc ps 4 a 0 0 0 rs) (tA P T sc ps 4 a 0 0 0 an) cs cr (tRf P T sc ps 4 a 0 0 0) hl9 ho5 hrg hrf9
  refine gx_callVi (ci := 10) (C := RX8) (T := TX8) (N := 9) (As := [.int (zI (tRf P T sc ps 4 a 0 0 0))]) (rest := []) ⟨hx, hb, hml, hown, hts⟩ hK hM hE hC7 (cuVx (n := 1) hts u_601 u_598 u_1 (by decide) u_600 us_22 ⟨Nat.le_of_ble_eq_true rfl, Nat.le_of_ble_eq_true rfl⟩) ⟨by omega, by omega⟩ ho5 rfl rfl hl.1 rfl (Nat.le_of_ble_eq_true rfl) dX8_removeRule_10 ⟨(Nat.le_of_ble_eq_true rfl), (Nat.le_of_ble_eq_true rfl)⟩ (fun E9 ce9 q9 f8 H locs hM hp9 h91 h92 h93 => gx_pass hxt hlk hK hM ?_ h91 h92 h93 (by decide) (by decide)) (fun r10 f8 H locs hM hp9 => ?_)
  · skip
    obtain ⟨hE9, rfl⟩ := hp9
    exact ⟨hE9, hs4, ho5, o6⟩
  · skip
    obtain ⟨hz9, rfl, rfl⟩ := hp9
    refine gx_iret hx hb hr hlk hK hM dX8_removeRule_13 (by decide) (by decide) ?_
    exact ⟨hz9, rfl, hs4, ho5, o6⟩

def po_X8_addLink (g : gE) (f : gF) (h : Nat) (B P T : Nat → Nat → Int) (sc : Nat → Nat) (pr ex : Nat → Int) (ps : Nat) (sv rs an cs cr : Int) (a b x y v0 : Int) : Int32 → gF → Prop := fun r f1 => tRf P T sc ps 5 a b x y = 0 ∧ r = zI (tA P T sc ps 5 a b x y an) ∧ brsAt g f1 (h + 1) B (tP P T sc ps 5 a b x y) (tT P T sc ps 5 a b x y) (fun k => (↑(tS P T sc ps 5 a b x y k) : Int)) pr ex (↑ps : Int) ∧ obP f1 h sv (tR P T sc ps 5 a b x y rs) (tA P T sc ps 5 a b x y an) cs cr ∧ ∀ q, (q < h ∨ h + 291 ≤ q) → f1 q = f q
def px_X8_addLink (g : gE) (f : gF) (h : Nat) (B P T : Nat → Nat → Int) (sc : Nat → Nat) (pr ex : Nat → Int) (ps : Nat) (sv rs an cs cr : Int) (a b x y v0 : Int) : String → gF → Prop := fun E f1 => ((tRf P T sc ps 5 a b x y = 1 ∧ E = exN2) ∨ (tRf P T sc ps 5 a b x y = 2 ∧ E = exN0) ∨ (3 ≤ tRf P T sc ps 5 a b x y ∧ E = exN1)) ∧ brsAt g f1 (h + 1) B (tP P T sc ps 5 a b x y) (tT P T sc ps 5 a b x y) (fun k => (↑(tS P T sc ps 5 a b x y k) : Int)) pr ex (↑ps : Int) ∧ obP f1 h sv (tR P T sc ps 5 a b x y rs) (tA P T sc ps 5 a b x y an) cs cr ∧ ∀ q, (q < h ∨ h + 291 ≤ q) → f1 q = f q
set_option maxRecDepth 100000 in
set_option maxHeartbeats 1000000 in
/-- addLink -/
theorem c_X8_addLink (l : Launch) (g : gE) (b0 n : Nat) (f : gF) (h : Nat) (B P T : Nat → Nat → Int) (sc : Nat → Nat) (pr ex : Nat → Int) (ps : Nat) (sv rs an cs cr : Int) (a b x y v0 : Int) (hl9 : l.stackTraces = false) (hO : obP f h sv rs an cs cr) (hrg : b0 ≤ h ∧ h + 607 ≤ b0 + n) (hS : brsAt g f (h + 1) B P T (fun k => (↑(sc k) : Int)) pr ex (↑ps : Int)) (hex : ∀ k, k < 6 → ex k = 0 ∨ ex k = 1) (hps : ps < 6) (hpx : ex ps = 1) (hok : ∀ k, k < 6 → pOk (P k) v0) (hv1 : 0 ≤ v0) (hv0 : v0 + 541 ≤ 800000000) (hsc : ∀ k, k < 6 → sc k ≤ 60) (hra : rI a) (hrb : rI b) (hrx : rI x) (hry : rI y) : cxI l yX8_addLink cX8_addLink 5 (some .int) 7 161 1 [.ref h, .int (zI a), .int (zI b), .int (zI x), .int (zI y)] g b0 n f (po_X8_addLink g f h B P T sc pr ex ps sv rs an cs cr a b x y v0) (px_X8_addLink g f h B P T sc pr ex ps sv rs an cs cr a b x y v0) := by
  refine gs_xi (cc := cX8_addLink) (maxL := 5) (ret := (some .int)) (by decide) (Nat.le_of_ble_eq_true rfl) ?_
  intro p e0 s m args below meth c ls hx hb hr hml hown hts hlk hxt hE hK hM hl
  have hl : lv_has ls 5 [(0, .ref h), (1, .int (zI a)), (2, .int (zI b)), (3, .int (zI x)), (4, .int (zI y))] := hl
  refine lv_aload_n hx hb dX8_addLink_0 rfl (lv_at hl 0 rfl) ?_
  refine lv_aload_n hx hb dX8_addLink_1 rfl (lv_at hl 0 rfl) ?_
  refine g_iconst hx hb dX8_addLink_2 ?_
  refine lv_iload_n hx hb dX8_addLink_3 rfl (lv_at hl 1 rfl) ?_
  refine lv_iload_n hx hb dX8_addLink_4 rfl (lv_at hl 2 rfl) ?_
  refine lv_iload_n hx hb dX8_addLink_5 rfl (lv_at hl 3 rfl) ?_
  refine lv_iload hx hb dX8_addLink_6 (lv_at hl 4 rfl) ?_
  have hC1 := c_X8_tryStep l g b0 n f h B P T sc pr ex ps sv rs an cs cr 5 a b x y v0 hO hrg hS hex hps hpx hok hv1 hv0 (by decide) (by decide) hra hrb hrx hry hsc
  refine g_callVi (ci := 10) (C := RX8) (T := TX8) (N := 9) (As := [.int (zI 5), .int (zI a), .int (zI b), .int (zI x), .int (zI y)]) (rest := [.ref h]) ⟨hx, hb, hml, hown, hts⟩ hK hM hC1 (cuV (n := 5) hts u_362 u_359 u_1 (by decide) u_361 us_10 ⟨Nat.le_of_ble_eq_true rfl, Nat.le_of_ble_eq_true rfl⟩) ⟨by omega, by omega⟩ hO rfl rfl hl.1 rfl (Nat.le_of_ble_eq_true rfl) dX8_addLink_8 ⟨Nat.le_of_ble_eq_true rfl, Nat.le_of_ble_eq_true rfl⟩ (fun r8 f2 H locs hM hp3 => ?_)
  obtain ⟨rfl, hs4, ho5, o6⟩ := hp3
  have hrf9 : 0 ≤ tRf P T sc ps 5 a b x y ∧ tRf P T sc ps 5 a b x y ≤ 4 := by unfold tRf; exact ref_in
  have hC7 := c_X8_answerTo l g b0 n f2 h sv (tR P T sc ps 5 a b x y rs) (tA P T sc ps 5 a b x y an) cs cr (tRf P T sc ps 5 a b x y) hl9 ho5 hrg hrf9
  refine gx_callVi (ci := 10) (C := RX8) (T := TX8) (N := 9) (As := [.int (zI (tRf P T sc ps 5 a b x y))]) (rest := []) ⟨hx, hb, hml, hown, hts⟩ hK hM hE hC7 (cuVx (n := 1) hts u_601 u_598 u_1 (by decide) u_600 us_22 ⟨Nat.le_of_ble_eq_true rfl, Nat.le_of_ble_eq_true rfl⟩) ⟨by omega, by omega⟩ ho5 rfl rfl hl.1 rfl (Nat.le_of_ble_eq_true rfl) dX8_addLink_11 ⟨(Nat.le_of_ble_eq_true rfl), (Nat.le_of_ble_eq_true rfl)⟩ (fun E9 ce9 q9 f8 H locs hM hp9 h91 h92 h93 => gx_pass hxt hlk hK hM ?_ h91 h92 h93 (by decide) (by decide)) (fun r11 f8 H locs hM hp9 => ?_)
  · skip
    obtain ⟨hE9, rfl⟩ := hp9
    exact ⟨hE9, hs4, ho5, o6⟩
  · skip
    obtain ⟨hz9, rfl, rfl⟩ := hp9
    refine gx_iret hx hb hr hlk hK hM dX8_addLink_14 (by decide) (by decide) ?_
    exact ⟨hz9, rfl, hs4, ho5, o6⟩

def po_X8_removeLink (g : gE) (f : gF) (h : Nat) (B P T : Nat → Nat → Int) (sc : Nat → Nat) (pr ex : Nat → Int) (ps : Nat) (sv rs an cs cr : Int) (a v0 : Int) : Int32 → gF → Prop := fun r f1 => tRf P T sc ps 6 a 0 0 0 = 0 ∧ r = zI (tA P T sc ps 6 a 0 0 0 an) ∧ brsAt g f1 (h + 1) B (tP P T sc ps 6 a 0 0 0) (tT P T sc ps 6 a 0 0 0) (fun k => (↑(tS P T sc ps 6 a 0 0 0 k) : Int)) pr ex (↑ps : Int) ∧ obP f1 h sv (tR P T sc ps 6 a 0 0 0 rs) (tA P T sc ps 6 a 0 0 0 an) cs cr ∧ ∀ q, (q < h ∨ h + 291 ≤ q) → f1 q = f q
def px_X8_removeLink (g : gE) (f : gF) (h : Nat) (B P T : Nat → Nat → Int) (sc : Nat → Nat) (pr ex : Nat → Int) (ps : Nat) (sv rs an cs cr : Int) (a v0 : Int) : String → gF → Prop := fun E f1 => ((tRf P T sc ps 6 a 0 0 0 = 1 ∧ E = exN2) ∨ (tRf P T sc ps 6 a 0 0 0 = 2 ∧ E = exN0) ∨ (3 ≤ tRf P T sc ps 6 a 0 0 0 ∧ E = exN1)) ∧ brsAt g f1 (h + 1) B (tP P T sc ps 6 a 0 0 0) (tT P T sc ps 6 a 0 0 0) (fun k => (↑(tS P T sc ps 6 a 0 0 0 k) : Int)) pr ex (↑ps : Int) ∧ obP f1 h sv (tR P T sc ps 6 a 0 0 0 rs) (tA P T sc ps 6 a 0 0 0 an) cs cr ∧ ∀ q, (q < h ∨ h + 291 ≤ q) → f1 q = f q
set_option maxRecDepth 100000 in
set_option maxHeartbeats 1000000 in
/-- removeLink -/
theorem c_X8_removeLink (l : Launch) (g : gE) (b0 n : Nat) (f : gF) (h : Nat) (B P T : Nat → Nat → Int) (sc : Nat → Nat) (pr ex : Nat → Int) (ps : Nat) (sv rs an cs cr : Int) (a v0 : Int) (hl9 : l.stackTraces = false) (hO : obP f h sv rs an cs cr) (hrg : b0 ≤ h ∧ h + 607 ≤ b0 + n) (hS : brsAt g f (h + 1) B P T (fun k => (↑(sc k) : Int)) pr ex (↑ps : Int)) (hex : ∀ k, k < 6 → ex k = 0 ∨ ex k = 1) (hps : ps < 6) (hpx : ex ps = 1) (hok : ∀ k, k < 6 → pOk (P k) v0) (hv1 : 0 ≤ v0) (hv0 : v0 + 541 ≤ 800000000) (hsc : ∀ k, k < 6 → sc k ≤ 60) (hra : rI a) : cxI l yX8_removeLink cX8_removeLink 2 (some .int) 7 161 1 [.ref h, .int (zI a)] g b0 n f (po_X8_removeLink g f h B P T sc pr ex ps sv rs an cs cr a v0) (px_X8_removeLink g f h B P T sc pr ex ps sv rs an cs cr a v0) := by
  refine gs_xi (cc := cX8_removeLink) (maxL := 2) (ret := (some .int)) (by decide) (Nat.le_of_ble_eq_true rfl) ?_
  intro p e0 s m args below meth c ls hx hb hr hml hown hts hlk hxt hE hK hM hl
  have hl : lv_has ls 2 [(0, .ref h), (1, .int (zI a))] := hl
  refine lv_aload_n hx hb dX8_removeLink_0 rfl (lv_at hl 0 rfl) ?_
  refine lv_aload_n hx hb dX8_removeLink_1 rfl (lv_at hl 0 rfl) ?_
  refine g_bipush hx hb dX8_removeLink_2 (by decide) ?_
  refine lv_iload_n hx hb dX8_removeLink_4 rfl (lv_at hl 1 rfl) ?_
  refine g_iconst hx hb dX8_removeLink_5 ?_
  refine g_iconst hx hb dX8_removeLink_6 ?_
  refine g_iconst hx hb dX8_removeLink_7 ?_
  have hC1 := c_X8_tryStep l g b0 n f h B P T sc pr ex ps sv rs an cs cr 6 a 0 0 0 v0 hO hrg hS hex hps hpx hok hv1 hv0 (by decide) (by decide) hra rI_0 rI_0 rI_0 hsc
  refine g_callVi (ci := 10) (C := RX8) (T := TX8) (N := 9) (As := [.int (zI 6), .int (zI a), .int (zI 0), .int (zI 0), .int (zI 0)]) (rest := [.ref h]) ⟨hx, hb, hml, hown, hts⟩ hK hM hC1 (cuV (n := 5) hts u_362 u_359 u_1 (by decide) u_361 us_10 ⟨Nat.le_of_ble_eq_true rfl, Nat.le_of_ble_eq_true rfl⟩) ⟨by omega, by omega⟩ hO rfl rfl hl.1 rfl (Nat.le_of_ble_eq_true rfl) dX8_removeLink_8 ⟨Nat.le_of_ble_eq_true rfl, Nat.le_of_ble_eq_true rfl⟩ (fun r8 f2 H locs hM hp3 => ?_)
  obtain ⟨rfl, hs4, ho5, o6⟩ := hp3
  have hrf9 : 0 ≤ tRf P T sc ps 6 a 0 0 0 ∧ tRf P T sc ps 6 a 0 0 0 ≤ 4 := by unfold tRf; exact ref_in
  have hC7 := c_X8_answerTo l g b0 n f2 h sv (tR P T sc ps 6 a 0 0 0 rs) (tA P T sc ps 6 a 0 0 0 an) cs cr (tRf P T sc ps 6 a 0 0 0) hl9 ho5 hrg hrf9
  refine gx_callVi (ci := 10) (C := RX8) (T := TX8) (N := 9) (As := [.int (zI (tRf P T sc ps 6 a 0 0 0))]) (rest := []) ⟨hx, hb, hml, hown, hts⟩ hK hM hE hC7 (cuVx (n := 1) hts u_601 u_598 u_1 (by decide) u_600 us_22 ⟨Nat.le_of_ble_eq_true rfl, Nat.le_of_ble_eq_true rfl⟩) ⟨by omega, by omega⟩ ho5 rfl rfl hl.1 rfl (Nat.le_of_ble_eq_true rfl) dX8_removeLink_11 ⟨(Nat.le_of_ble_eq_true rfl), (Nat.le_of_ble_eq_true rfl)⟩ (fun E9 ce9 q9 f8 H locs hM hp9 h91 h92 h93 => gx_pass hxt hlk hK hM ?_ h91 h92 h93 (by decide) (by decide)) (fun r11 f8 H locs hM hp9 => ?_)
  · skip
    obtain ⟨hE9, rfl⟩ := hp9
    exact ⟨hE9, hs4, ho5, o6⟩
  · skip
    obtain ⟨hz9, rfl, rfl⟩ := hp9
    refine gx_iret hx hb hr hlk hK hM dX8_removeLink_14 (by decide) (by decide) ?_
    exact ⟨hz9, rfl, hs4, ho5, o6⟩

def po_X8_addItem (g : gE) (f : gF) (h : Nat) (B P T : Nat → Nat → Int) (sc : Nat → Nat) (pr ex : Nat → Int) (ps : Nat) (sv rs an cs cr : Int) (a b x y v0 : Int) : Int32 → gF → Prop := fun r f1 => tRf P T sc ps 7 a b x y = 0 ∧ r = zI (tA P T sc ps 7 a b x y an) ∧ brsAt g f1 (h + 1) B (tP P T sc ps 7 a b x y) (tT P T sc ps 7 a b x y) (fun k => (↑(tS P T sc ps 7 a b x y k) : Int)) pr ex (↑ps : Int) ∧ obP f1 h sv (tR P T sc ps 7 a b x y rs) (tA P T sc ps 7 a b x y an) cs cr ∧ ∀ q, (q < h ∨ h + 291 ≤ q) → f1 q = f q
def px_X8_addItem (g : gE) (f : gF) (h : Nat) (B P T : Nat → Nat → Int) (sc : Nat → Nat) (pr ex : Nat → Int) (ps : Nat) (sv rs an cs cr : Int) (a b x y v0 : Int) : String → gF → Prop := fun E f1 => ((tRf P T sc ps 7 a b x y = 1 ∧ E = exN2) ∨ (tRf P T sc ps 7 a b x y = 2 ∧ E = exN0) ∨ (3 ≤ tRf P T sc ps 7 a b x y ∧ E = exN1)) ∧ brsAt g f1 (h + 1) B (tP P T sc ps 7 a b x y) (tT P T sc ps 7 a b x y) (fun k => (↑(tS P T sc ps 7 a b x y k) : Int)) pr ex (↑ps : Int) ∧ obP f1 h sv (tR P T sc ps 7 a b x y rs) (tA P T sc ps 7 a b x y an) cs cr ∧ ∀ q, (q < h ∨ h + 291 ≤ q) → f1 q = f q
set_option maxRecDepth 100000 in
set_option maxHeartbeats 1000000 in
/-- addItem -/
theorem c_X8_addItem (l : Launch) (g : gE) (b0 n : Nat) (f : gF) (h : Nat) (B P T : Nat → Nat → Int) (sc : Nat → Nat) (pr ex : Nat → Int) (ps : Nat) (sv rs an cs cr : Int) (a b x y v0 : Int) (hl9 : l.stackTraces = false) (hO : obP f h sv rs an cs cr) (hrg : b0 ≤ h ∧ h + 607 ≤ b0 + n) (hS : brsAt g f (h + 1) B P T (fun k => (↑(sc k) : Int)) pr ex (↑ps : Int)) (hex : ∀ k, k < 6 → ex k = 0 ∨ ex k = 1) (hps : ps < 6) (hpx : ex ps = 1) (hok : ∀ k, k < 6 → pOk (P k) v0) (hv1 : 0 ≤ v0) (hv0 : v0 + 541 ≤ 800000000) (hsc : ∀ k, k < 6 → sc k ≤ 60) (hra : rI a) (hrb : rI b) (hrx : rI x) (hry : rI y) : cxI l yX8_addItem cX8_addItem 5 (some .int) 7 161 1 [.ref h, .int (zI a), .int (zI b), .int (zI x), .int (zI y)] g b0 n f (po_X8_addItem g f h B P T sc pr ex ps sv rs an cs cr a b x y v0) (px_X8_addItem g f h B P T sc pr ex ps sv rs an cs cr a b x y v0) := by
  refine gs_xi (cc := cX8_addItem) (maxL := 5) (ret := (some .int)) (by decide) (Nat.le_of_ble_eq_true rfl) ?_
  intro p e0 s m args below meth c ls hx hb hr hml hown hts hlk hxt hE hK hM hl
  have hl : lv_has ls 5 [(0, .ref h), (1, .int (zI a)), (2, .int (zI b)), (3, .int (zI x)), (4, .int (zI y))] := hl
  refine lv_aload_n hx hb dX8_addItem_0 rfl (lv_at hl 0 rfl) ?_
  refine lv_aload_n hx hb dX8_addItem_1 rfl (lv_at hl 0 rfl) ?_
  refine g_bipush hx hb dX8_addItem_2 (by decide) ?_
  refine lv_iload_n hx hb dX8_addItem_4 rfl (lv_at hl 1 rfl) ?_
  refine lv_iload_n hx hb dX8_addItem_5 rfl (lv_at hl 2 rfl) ?_
  refine lv_iload_n hx hb dX8_addItem_6 rfl (lv_at hl 3 rfl) ?_
  refine lv_iload hx hb dX8_addItem_7 (lv_at hl 4 rfl) ?_
  have hC1 := c_X8_tryStep l g b0 n f h B P T sc pr ex ps sv rs an cs cr 7 a b x y v0 hO hrg hS hex hps hpx hok hv1 hv0 (by decide) (by decide) hra hrb hrx hry hsc
  refine g_callVi (ci := 10) (C := RX8) (T := TX8) (N := 9) (As := [.int (zI 7), .int (zI a), .int (zI b), .int (zI x), .int (zI y)]) (rest := [.ref h]) ⟨hx, hb, hml, hown, hts⟩ hK hM hC1 (cuV (n := 5) hts u_362 u_359 u_1 (by decide) u_361 us_10 ⟨Nat.le_of_ble_eq_true rfl, Nat.le_of_ble_eq_true rfl⟩) ⟨by omega, by omega⟩ hO rfl rfl hl.1 rfl (Nat.le_of_ble_eq_true rfl) dX8_addItem_9 ⟨Nat.le_of_ble_eq_true rfl, Nat.le_of_ble_eq_true rfl⟩ (fun r9 f2 H locs hM hp3 => ?_)
  obtain ⟨rfl, hs4, ho5, o6⟩ := hp3
  have hrf9 : 0 ≤ tRf P T sc ps 7 a b x y ∧ tRf P T sc ps 7 a b x y ≤ 4 := by unfold tRf; exact ref_in
  have hC7 := c_X8_answerTo l g b0 n f2 h sv (tR P T sc ps 7 a b x y rs) (tA P T sc ps 7 a b x y an) cs cr (tRf P T sc ps 7 a b x y) hl9 ho5 hrg hrf9
  refine gx_callVi (ci := 10) (C := RX8) (T := TX8) (N := 9) (As := [.int (zI (tRf P T sc ps 7 a b x y))]) (rest := []) ⟨hx, hb, hml, hown, hts⟩ hK hM hE hC7 (cuVx (n := 1) hts u_601 u_598 u_1 (by decide) u_600 us_22 ⟨Nat.le_of_ble_eq_true rfl, Nat.le_of_ble_eq_true rfl⟩) ⟨by omega, by omega⟩ ho5 rfl rfl hl.1 rfl (Nat.le_of_ble_eq_true rfl) dX8_addItem_12 ⟨(Nat.le_of_ble_eq_true rfl), (Nat.le_of_ble_eq_true rfl)⟩ (fun E9 ce9 q9 f8 H locs hM hp9 h91 h92 h93 => gx_pass hxt hlk hK hM ?_ h91 h92 h93 (by decide) (by decide)) (fun r12 f8 H locs hM hp9 => ?_)
  · skip
    obtain ⟨hE9, rfl⟩ := hp9
    exact ⟨hE9, hs4, ho5, o6⟩
  · skip
    obtain ⟨hz9, rfl, rfl⟩ := hp9
    refine gx_iret hx hb hr hlk hK hM dX8_addItem_15 (by decide) (by decide) ?_
    exact ⟨hz9, rfl, hs4, ho5, o6⟩

def po_X8_removeItem (g : gE) (f : gF) (h : Nat) (B P T : Nat → Nat → Int) (sc : Nat → Nat) (pr ex : Nat → Int) (ps : Nat) (sv rs an cs cr : Int) (a v0 : Int) : Int32 → gF → Prop := fun r f1 => tRf P T sc ps 8 a 0 0 0 = 0 ∧ r = zI (tA P T sc ps 8 a 0 0 0 an) ∧ brsAt g f1 (h + 1) B (tP P T sc ps 8 a 0 0 0) (tT P T sc ps 8 a 0 0 0) (fun k => (↑(tS P T sc ps 8 a 0 0 0 k) : Int)) pr ex (↑ps : Int) ∧ obP f1 h sv (tR P T sc ps 8 a 0 0 0 rs) (tA P T sc ps 8 a 0 0 0 an) cs cr ∧ ∀ q, (q < h ∨ h + 291 ≤ q) → f1 q = f q
def px_X8_removeItem (g : gE) (f : gF) (h : Nat) (B P T : Nat → Nat → Int) (sc : Nat → Nat) (pr ex : Nat → Int) (ps : Nat) (sv rs an cs cr : Int) (a v0 : Int) : String → gF → Prop := fun E f1 => ((tRf P T sc ps 8 a 0 0 0 = 1 ∧ E = exN2) ∨ (tRf P T sc ps 8 a 0 0 0 = 2 ∧ E = exN0) ∨ (3 ≤ tRf P T sc ps 8 a 0 0 0 ∧ E = exN1)) ∧ brsAt g f1 (h + 1) B (tP P T sc ps 8 a 0 0 0) (tT P T sc ps 8 a 0 0 0) (fun k => (↑(tS P T sc ps 8 a 0 0 0 k) : Int)) pr ex (↑ps : Int) ∧ obP f1 h sv (tR P T sc ps 8 a 0 0 0 rs) (tA P T sc ps 8 a 0 0 0 an) cs cr ∧ ∀ q, (q < h ∨ h + 291 ≤ q) → f1 q = f q
set_option maxRecDepth 100000 in
set_option maxHeartbeats 1000000 in
/-- removeItem -/
theorem c_X8_removeItem (l : Launch) (g : gE) (b0 n : Nat) (f : gF) (h : Nat) (B P T : Nat → Nat → Int) (sc : Nat → Nat) (pr ex : Nat → Int) (ps : Nat) (sv rs an cs cr : Int) (a v0 : Int) (hl9 : l.stackTraces = false) (hO : obP f h sv rs an cs cr) (hrg : b0 ≤ h ∧ h + 607 ≤ b0 + n) (hS : brsAt g f (h + 1) B P T (fun k => (↑(sc k) : Int)) pr ex (↑ps : Int)) (hex : ∀ k, k < 6 → ex k = 0 ∨ ex k = 1) (hps : ps < 6) (hpx : ex ps = 1) (hok : ∀ k, k < 6 → pOk (P k) v0) (hv1 : 0 ≤ v0) (hv0 : v0 + 541 ≤ 800000000) (hsc : ∀ k, k < 6 → sc k ≤ 60) (hra : rI a) : cxI l yX8_removeItem cX8_removeItem 2 (some .int) 7 161 1 [.ref h, .int (zI a)] g b0 n f (po_X8_removeItem g f h B P T sc pr ex ps sv rs an cs cr a v0) (px_X8_removeItem g f h B P T sc pr ex ps sv rs an cs cr a v0) := by
  refine gs_xi (cc := cX8_removeItem) (maxL := 2) (ret := (some .int)) (by decide) (Nat.le_of_ble_eq_true rfl) ?_
  intro p e0 s m args below meth c ls hx hb hr hml hown hts hlk hxt hE hK hM hl
  have hl : lv_has ls 2 [(0, .ref h), (1, .int (zI a))] := hl
  refine lv_aload_n hx hb dX8_removeItem_0 rfl (lv_at hl 0 rfl) ?_
  refine lv_aload_n hx hb dX8_removeItem_1 rfl (lv_at hl 0 rfl) ?_
  refine g_bipush hx hb dX8_removeItem_2 (by decide) ?_
  refine lv_iload_n hx hb dX8_removeItem_4 rfl (lv_at hl 1 rfl) ?_
  refine g_iconst hx hb dX8_removeItem_5 ?_
  refine g_iconst hx hb dX8_removeItem_6 ?_
  refine g_iconst hx hb dX8_removeItem_7 ?_
  have hC1 := c_X8_tryStep l g b0 n f h B P T sc pr ex ps sv rs an cs cr 8 a 0 0 0 v0 hO hrg hS hex hps hpx hok hv1 hv0 (by decide) (by decide) hra rI_0 rI_0 rI_0 hsc
  refine g_callVi (ci := 10) (C := RX8) (T := TX8) (N := 9) (As := [.int (zI 8), .int (zI a), .int (zI 0), .int (zI 0), .int (zI 0)]) (rest := [.ref h]) ⟨hx, hb, hml, hown, hts⟩ hK hM hC1 (cuV (n := 5) hts u_362 u_359 u_1 (by decide) u_361 us_10 ⟨Nat.le_of_ble_eq_true rfl, Nat.le_of_ble_eq_true rfl⟩) ⟨by omega, by omega⟩ hO rfl rfl hl.1 rfl (Nat.le_of_ble_eq_true rfl) dX8_removeItem_8 ⟨Nat.le_of_ble_eq_true rfl, Nat.le_of_ble_eq_true rfl⟩ (fun r8 f2 H locs hM hp3 => ?_)
  obtain ⟨rfl, hs4, ho5, o6⟩ := hp3
  have hrf9 : 0 ≤ tRf P T sc ps 8 a 0 0 0 ∧ tRf P T sc ps 8 a 0 0 0 ≤ 4 := by unfold tRf; exact ref_in
  have hC7 := c_X8_answerTo l g b0 n f2 h sv (tR P T sc ps 8 a 0 0 0 rs) (tA P T sc ps 8 a 0 0 0 an) cs cr (tRf P T sc ps 8 a 0 0 0) hl9 ho5 hrg hrf9
  refine gx_callVi (ci := 10) (C := RX8) (T := TX8) (N := 9) (As := [.int (zI (tRf P T sc ps 8 a 0 0 0))]) (rest := []) ⟨hx, hb, hml, hown, hts⟩ hK hM hE hC7 (cuVx (n := 1) hts u_601 u_598 u_1 (by decide) u_600 us_22 ⟨Nat.le_of_ble_eq_true rfl, Nat.le_of_ble_eq_true rfl⟩) ⟨by omega, by omega⟩ ho5 rfl rfl hl.1 rfl (Nat.le_of_ble_eq_true rfl) dX8_removeItem_11 ⟨(Nat.le_of_ble_eq_true rfl), (Nat.le_of_ble_eq_true rfl)⟩ (fun E9 ce9 q9 f8 H locs hM hp9 h91 h92 h93 => gx_pass hxt hlk hK hM ?_ h91 h92 h93 (by decide) (by decide)) (fun r11 f8 H locs hM hp9 => ?_)
  · skip
    obtain ⟨hE9, rfl⟩ := hp9
    exact ⟨hE9, hs4, ho5, o6⟩
  · skip
    obtain ⟨hz9, rfl, rfl⟩ := hp9
    refine gx_iret hx hb hr hlk hK hM dX8_removeItem_14 (by decide) (by decide) ?_
    exact ⟨hz9, rfl, hs4, ho5, o6⟩

def po_X8_receive (g : gE) (f : gF) (h : Nat) (B P T : Nat → Nat → Int) (sc : Nat → Nat) (pr ex : Nat → Int) (ps : Nat) (sv rs an cs cr : Int) (a v0 : Int) : Int32 → gF → Prop := fun r f1 => tRf P T sc ps 9 a 0 0 0 = 0 ∧ r = zI (tA P T sc ps 9 a 0 0 0 an) ∧ brsAt g f1 (h + 1) B (tP P T sc ps 9 a 0 0 0) (tT P T sc ps 9 a 0 0 0) (fun k => (↑(tS P T sc ps 9 a 0 0 0 k) : Int)) pr ex (↑ps : Int) ∧ obP f1 h sv (tR P T sc ps 9 a 0 0 0 rs) (tA P T sc ps 9 a 0 0 0 an) cs cr ∧ ∀ q, (q < h ∨ h + 291 ≤ q) → f1 q = f q
def px_X8_receive (g : gE) (f : gF) (h : Nat) (B P T : Nat → Nat → Int) (sc : Nat → Nat) (pr ex : Nat → Int) (ps : Nat) (sv rs an cs cr : Int) (a v0 : Int) : String → gF → Prop := fun E f1 => ((tRf P T sc ps 9 a 0 0 0 = 1 ∧ E = exN2) ∨ (tRf P T sc ps 9 a 0 0 0 = 2 ∧ E = exN0) ∨ (3 ≤ tRf P T sc ps 9 a 0 0 0 ∧ E = exN1)) ∧ brsAt g f1 (h + 1) B (tP P T sc ps 9 a 0 0 0) (tT P T sc ps 9 a 0 0 0) (fun k => (↑(tS P T sc ps 9 a 0 0 0 k) : Int)) pr ex (↑ps : Int) ∧ obP f1 h sv (tR P T sc ps 9 a 0 0 0 rs) (tA P T sc ps 9 a 0 0 0 an) cs cr ∧ ∀ q, (q < h ∨ h + 291 ≤ q) → f1 q = f q
set_option maxRecDepth 100000 in
set_option maxHeartbeats 1000000 in
/-- receive -/
theorem c_X8_receive (l : Launch) (g : gE) (b0 n : Nat) (f : gF) (h : Nat) (B P T : Nat → Nat → Int) (sc : Nat → Nat) (pr ex : Nat → Int) (ps : Nat) (sv rs an cs cr : Int) (a v0 : Int) (hl9 : l.stackTraces = false) (hO : obP f h sv rs an cs cr) (hrg : b0 ≤ h ∧ h + 607 ≤ b0 + n) (hS : brsAt g f (h + 1) B P T (fun k => (↑(sc k) : Int)) pr ex (↑ps : Int)) (hex : ∀ k, k < 6 → ex k = 0 ∨ ex k = 1) (hps : ps < 6) (hpx : ex ps = 1) (hok : ∀ k, k < 6 → pOk (P k) v0) (hv1 : 0 ≤ v0) (hv0 : v0 + 541 ≤ 800000000) (hsc : ∀ k, k < 6 → sc k ≤ 60) (hra : rI a) : cxI l yX8_receive cX8_receive 2 (some .int) 7 161 1 [.ref h, .int (zI a)] g b0 n f (po_X8_receive g f h B P T sc pr ex ps sv rs an cs cr a v0) (px_X8_receive g f h B P T sc pr ex ps sv rs an cs cr a v0) := by
  refine gs_xi (cc := cX8_receive) (maxL := 2) (ret := (some .int)) (by decide) (Nat.le_of_ble_eq_true rfl) ?_
  intro p e0 s m args below meth c ls hx hb hr hml hown hts hlk hxt hE hK hM hl
  have hl : lv_has ls 2 [(0, .ref h), (1, .int (zI a))] := hl
  refine lv_aload_n hx hb dX8_receive_0 rfl (lv_at hl 0 rfl) ?_
  refine lv_aload_n hx hb dX8_receive_1 rfl (lv_at hl 0 rfl) ?_
  refine g_bipush hx hb dX8_receive_2 (by decide) ?_
  refine lv_iload_n hx hb dX8_receive_4 rfl (lv_at hl 1 rfl) ?_
  refine g_iconst hx hb dX8_receive_5 ?_
  refine g_iconst hx hb dX8_receive_6 ?_
  refine g_iconst hx hb dX8_receive_7 ?_
  have hC1 := c_X8_tryStep l g b0 n f h B P T sc pr ex ps sv rs an cs cr 9 a 0 0 0 v0 hO hrg hS hex hps hpx hok hv1 hv0 (by decide) (by decide) hra rI_0 rI_0 rI_0 hsc
  refine g_callVi (ci := 10) (C := RX8) (T := TX8) (N := 9) (As := [.int (zI 9), .int (zI a), .int (zI 0), .int (zI 0), .int (zI 0)]) (rest := [.ref h]) ⟨hx, hb, hml, hown, hts⟩ hK hM hC1 (cuV (n := 5) hts u_362 u_359 u_1 (by decide) u_361 us_10 ⟨Nat.le_of_ble_eq_true rfl, Nat.le_of_ble_eq_true rfl⟩) ⟨by omega, by omega⟩ hO rfl rfl hl.1 rfl (Nat.le_of_ble_eq_true rfl) dX8_receive_8 ⟨Nat.le_of_ble_eq_true rfl, Nat.le_of_ble_eq_true rfl⟩ (fun r8 f2 H locs hM hp3 => ?_)
  obtain ⟨rfl, hs4, ho5, o6⟩ := hp3
  have hrf9 : 0 ≤ tRf P T sc ps 9 a 0 0 0 ∧ tRf P T sc ps 9 a 0 0 0 ≤ 4 := by unfold tRf; exact ref_in
  have hC7 := c_X8_answerTo l g b0 n f2 h sv (tR P T sc ps 9 a 0 0 0 rs) (tA P T sc ps 9 a 0 0 0 an) cs cr (tRf P T sc ps 9 a 0 0 0) hl9 ho5 hrg hrf9
  refine gx_callVi (ci := 10) (C := RX8) (T := TX8) (N := 9) (As := [.int (zI (tRf P T sc ps 9 a 0 0 0))]) (rest := []) ⟨hx, hb, hml, hown, hts⟩ hK hM hE hC7 (cuVx (n := 1) hts u_601 u_598 u_1 (by decide) u_600 us_22 ⟨Nat.le_of_ble_eq_true rfl, Nat.le_of_ble_eq_true rfl⟩) ⟨by omega, by omega⟩ ho5 rfl rfl hl.1 rfl (Nat.le_of_ble_eq_true rfl) dX8_receive_11 ⟨(Nat.le_of_ble_eq_true rfl), (Nat.le_of_ble_eq_true rfl)⟩ (fun E9 ce9 q9 f8 H locs hM hp9 h91 h92 h93 => gx_pass hxt hlk hK hM ?_ h91 h92 h93 (by decide) (by decide)) (fun r11 f8 H locs hM hp9 => ?_)
  · skip
    obtain ⟨hE9, rfl⟩ := hp9
    exact ⟨hE9, hs4, ho5, o6⟩
  · skip
    obtain ⟨hz9, rfl, rfl⟩ := hp9
    refine gx_iret hx hb hr hlk hK hM dX8_receive_14 (by decide) (by decide) ?_
    exact ⟨hz9, rfl, hs4, ho5, o6⟩

def po_X8_spend (g : gE) (f : gF) (h : Nat) (B P T : Nat → Nat → Int) (sc : Nat → Nat) (pr ex : Nat → Int) (ps : Nat) (sv rs an cs cr : Int) (a b v0 : Int) : Int32 → gF → Prop := fun r f1 => tRf P T sc ps 10 a b 0 0 = 0 ∧ r = zI (tA P T sc ps 10 a b 0 0 an) ∧ brsAt g f1 (h + 1) B (tP P T sc ps 10 a b 0 0) (tT P T sc ps 10 a b 0 0) (fun k => (↑(tS P T sc ps 10 a b 0 0 k) : Int)) pr ex (↑ps : Int) ∧ obP f1 h sv (tR P T sc ps 10 a b 0 0 rs) (tA P T sc ps 10 a b 0 0 an) cs cr ∧ ∀ q, (q < h ∨ h + 291 ≤ q) → f1 q = f q
def px_X8_spend (g : gE) (f : gF) (h : Nat) (B P T : Nat → Nat → Int) (sc : Nat → Nat) (pr ex : Nat → Int) (ps : Nat) (sv rs an cs cr : Int) (a b v0 : Int) : String → gF → Prop := fun E f1 => ((tRf P T sc ps 10 a b 0 0 = 1 ∧ E = exN2) ∨ (tRf P T sc ps 10 a b 0 0 = 2 ∧ E = exN0) ∨ (3 ≤ tRf P T sc ps 10 a b 0 0 ∧ E = exN1)) ∧ brsAt g f1 (h + 1) B (tP P T sc ps 10 a b 0 0) (tT P T sc ps 10 a b 0 0) (fun k => (↑(tS P T sc ps 10 a b 0 0 k) : Int)) pr ex (↑ps : Int) ∧ obP f1 h sv (tR P T sc ps 10 a b 0 0 rs) (tA P T sc ps 10 a b 0 0 an) cs cr ∧ ∀ q, (q < h ∨ h + 291 ≤ q) → f1 q = f q
set_option maxRecDepth 100000 in
set_option maxHeartbeats 1000000 in
/-- spend -/
theorem c_X8_spend (l : Launch) (g : gE) (b0 n : Nat) (f : gF) (h : Nat) (B P T : Nat → Nat → Int) (sc : Nat → Nat) (pr ex : Nat → Int) (ps : Nat) (sv rs an cs cr : Int) (a b v0 : Int) (hl9 : l.stackTraces = false) (hO : obP f h sv rs an cs cr) (hrg : b0 ≤ h ∧ h + 607 ≤ b0 + n) (hS : brsAt g f (h + 1) B P T (fun k => (↑(sc k) : Int)) pr ex (↑ps : Int)) (hex : ∀ k, k < 6 → ex k = 0 ∨ ex k = 1) (hps : ps < 6) (hpx : ex ps = 1) (hok : ∀ k, k < 6 → pOk (P k) v0) (hv1 : 0 ≤ v0) (hv0 : v0 + 541 ≤ 800000000) (hsc : ∀ k, k < 6 → sc k ≤ 60) (hra : rI a) (hrb : rI b) : cxI l yX8_spend cX8_spend 3 (some .int) 7 161 1 [.ref h, .int (zI a), .int (zI b)] g b0 n f (po_X8_spend g f h B P T sc pr ex ps sv rs an cs cr a b v0) (px_X8_spend g f h B P T sc pr ex ps sv rs an cs cr a b v0) := by
  refine gs_xi (cc := cX8_spend) (maxL := 3) (ret := (some .int)) (by decide) (Nat.le_of_ble_eq_true rfl) ?_
  intro p e0 s m args below meth c ls hx hb hr hml hown hts hlk hxt hE hK hM hl
  have hl : lv_has ls 3 [(0, .ref h), (1, .int (zI a)), (2, .int (zI b))] := hl
  refine lv_aload_n hx hb dX8_spend_0 rfl (lv_at hl 0 rfl) ?_
  refine lv_aload_n hx hb dX8_spend_1 rfl (lv_at hl 0 rfl) ?_
  refine g_bipush hx hb dX8_spend_2 (by decide) ?_
  refine lv_iload_n hx hb dX8_spend_4 rfl (lv_at hl 1 rfl) ?_
  refine lv_iload_n hx hb dX8_spend_5 rfl (lv_at hl 2 rfl) ?_
  refine g_iconst hx hb dX8_spend_6 ?_
  refine g_iconst hx hb dX8_spend_7 ?_
  have hC1 := c_X8_tryStep l g b0 n f h B P T sc pr ex ps sv rs an cs cr 10 a b 0 0 v0 hO hrg hS hex hps hpx hok hv1 hv0 (by decide) (by decide) hra hrb rI_0 rI_0 hsc
  refine g_callVi (ci := 10) (C := RX8) (T := TX8) (N := 9) (As := [.int (zI 10), .int (zI a), .int (zI b), .int (zI 0), .int (zI 0)]) (rest := [.ref h]) ⟨hx, hb, hml, hown, hts⟩ hK hM hC1 (cuV (n := 5) hts u_362 u_359 u_1 (by decide) u_361 us_10 ⟨Nat.le_of_ble_eq_true rfl, Nat.le_of_ble_eq_true rfl⟩) ⟨by omega, by omega⟩ hO rfl rfl hl.1 rfl (Nat.le_of_ble_eq_true rfl) dX8_spend_8 ⟨Nat.le_of_ble_eq_true rfl, Nat.le_of_ble_eq_true rfl⟩ (fun r8 f2 H locs hM hp3 => ?_)
  obtain ⟨rfl, hs4, ho5, o6⟩ := hp3
  have hrf9 : 0 ≤ tRf P T sc ps 10 a b 0 0 ∧ tRf P T sc ps 10 a b 0 0 ≤ 4 := by unfold tRf; exact ref_in
  have hC7 := c_X8_answerTo l g b0 n f2 h sv (tR P T sc ps 10 a b 0 0 rs) (tA P T sc ps 10 a b 0 0 an) cs cr (tRf P T sc ps 10 a b 0 0) hl9 ho5 hrg hrf9
  refine gx_callVi (ci := 10) (C := RX8) (T := TX8) (N := 9) (As := [.int (zI (tRf P T sc ps 10 a b 0 0))]) (rest := []) ⟨hx, hb, hml, hown, hts⟩ hK hM hE hC7 (cuVx (n := 1) hts u_601 u_598 u_1 (by decide) u_600 us_22 ⟨Nat.le_of_ble_eq_true rfl, Nat.le_of_ble_eq_true rfl⟩) ⟨by omega, by omega⟩ ho5 rfl rfl hl.1 rfl (Nat.le_of_ble_eq_true rfl) dX8_spend_11 ⟨(Nat.le_of_ble_eq_true rfl), (Nat.le_of_ble_eq_true rfl)⟩ (fun E9 ce9 q9 f8 H locs hM hp9 h91 h92 h93 => gx_pass hxt hlk hK hM ?_ h91 h92 h93 (by decide) (by decide)) (fun r11 f8 H locs hM hp9 => ?_)
  · skip
    obtain ⟨hE9, rfl⟩ := hp9
    exact ⟨hE9, hs4, ho5, o6⟩
  · skip
    obtain ⟨hz9, rfl, rfl⟩ := hp9
    refine gx_iret hx hb hr hlk hK hM dX8_spend_14 (by decide) (by decide) ?_
    exact ⟨hz9, rfl, hs4, ho5, o6⟩

def po_X8_move (g : gE) (f : gF) (h : Nat) (B P T : Nat → Nat → Int) (sc : Nat → Nat) (pr ex : Nat → Int) (ps : Nat) (sv rs an cs cr : Int) (a b x v0 : Int) : Int32 → gF → Prop := fun r f1 => tRf P T sc ps 11 a b x 0 = 0 ∧ r = zI (tA P T sc ps 11 a b x 0 an) ∧ brsAt g f1 (h + 1) B (tP P T sc ps 11 a b x 0) (tT P T sc ps 11 a b x 0) (fun k => (↑(tS P T sc ps 11 a b x 0 k) : Int)) pr ex (↑ps : Int) ∧ obP f1 h sv (tR P T sc ps 11 a b x 0 rs) (tA P T sc ps 11 a b x 0 an) cs cr ∧ ∀ q, (q < h ∨ h + 291 ≤ q) → f1 q = f q
def px_X8_move (g : gE) (f : gF) (h : Nat) (B P T : Nat → Nat → Int) (sc : Nat → Nat) (pr ex : Nat → Int) (ps : Nat) (sv rs an cs cr : Int) (a b x v0 : Int) : String → gF → Prop := fun E f1 => ((tRf P T sc ps 11 a b x 0 = 1 ∧ E = exN2) ∨ (tRf P T sc ps 11 a b x 0 = 2 ∧ E = exN0) ∨ (3 ≤ tRf P T sc ps 11 a b x 0 ∧ E = exN1)) ∧ brsAt g f1 (h + 1) B (tP P T sc ps 11 a b x 0) (tT P T sc ps 11 a b x 0) (fun k => (↑(tS P T sc ps 11 a b x 0 k) : Int)) pr ex (↑ps : Int) ∧ obP f1 h sv (tR P T sc ps 11 a b x 0 rs) (tA P T sc ps 11 a b x 0 an) cs cr ∧ ∀ q, (q < h ∨ h + 291 ≤ q) → f1 q = f q
set_option maxRecDepth 100000 in
set_option maxHeartbeats 1000000 in
/-- move -/
theorem c_X8_move (l : Launch) (g : gE) (b0 n : Nat) (f : gF) (h : Nat) (B P T : Nat → Nat → Int) (sc : Nat → Nat) (pr ex : Nat → Int) (ps : Nat) (sv rs an cs cr : Int) (a b x v0 : Int) (hl9 : l.stackTraces = false) (hO : obP f h sv rs an cs cr) (hrg : b0 ≤ h ∧ h + 607 ≤ b0 + n) (hS : brsAt g f (h + 1) B P T (fun k => (↑(sc k) : Int)) pr ex (↑ps : Int)) (hex : ∀ k, k < 6 → ex k = 0 ∨ ex k = 1) (hps : ps < 6) (hpx : ex ps = 1) (hok : ∀ k, k < 6 → pOk (P k) v0) (hv1 : 0 ≤ v0) (hv0 : v0 + 541 ≤ 800000000) (hsc : ∀ k, k < 6 → sc k ≤ 60) (hra : rI a) (hrb : rI b) (hrx : rI x) : cxI l yX8_move cX8_move 4 (some .int) 7 161 1 [.ref h, .int (zI a), .int (zI b), .int (zI x)] g b0 n f (po_X8_move g f h B P T sc pr ex ps sv rs an cs cr a b x v0) (px_X8_move g f h B P T sc pr ex ps sv rs an cs cr a b x v0) := by
  refine gs_xi (cc := cX8_move) (maxL := 4) (ret := (some .int)) (by decide) (Nat.le_of_ble_eq_true rfl) ?_
  intro p e0 s m args below meth c ls hx hb hr hml hown hts hlk hxt hE hK hM hl
  have hl : lv_has ls 4 [(0, .ref h), (1, .int (zI a)), (2, .int (zI b)), (3, .int (zI x))] := hl
  refine lv_aload_n hx hb dX8_move_0 rfl (lv_at hl 0 rfl) ?_
  refine lv_aload_n hx hb dX8_move_1 rfl (lv_at hl 0 rfl) ?_
  refine g_bipush hx hb dX8_move_2 (by decide) ?_
  refine lv_iload_n hx hb dX8_move_4 rfl (lv_at hl 1 rfl) ?_
  refine lv_iload_n hx hb dX8_move_5 rfl (lv_at hl 2 rfl) ?_
  refine lv_iload_n hx hb dX8_move_6 rfl (lv_at hl 3 rfl) ?_
  refine g_iconst hx hb dX8_move_7 ?_
  have hC1 := c_X8_tryStep l g b0 n f h B P T sc pr ex ps sv rs an cs cr 11 a b x 0 v0 hO hrg hS hex hps hpx hok hv1 hv0 (by decide) (by decide) hra hrb hrx rI_0 hsc
  refine g_callVi (ci := 10) (C := RX8) (T := TX8) (N := 9) (As := [.int (zI 11), .int (zI a), .int (zI b), .int (zI x), .int (zI 0)]) (rest := [.ref h]) ⟨hx, hb, hml, hown, hts⟩ hK hM hC1 (cuV (n := 5) hts u_362 u_359 u_1 (by decide) u_361 us_10 ⟨Nat.le_of_ble_eq_true rfl, Nat.le_of_ble_eq_true rfl⟩) ⟨by omega, by omega⟩ hO rfl rfl hl.1 rfl (Nat.le_of_ble_eq_true rfl) dX8_move_8 ⟨Nat.le_of_ble_eq_true rfl, Nat.le_of_ble_eq_true rfl⟩ (fun r8 f2 H locs hM hp3 => ?_)
  obtain ⟨rfl, hs4, ho5, o6⟩ := hp3
  have hrf9 : 0 ≤ tRf P T sc ps 11 a b x 0 ∧ tRf P T sc ps 11 a b x 0 ≤ 4 := by unfold tRf; exact ref_in
  have hC7 := c_X8_answerTo l g b0 n f2 h sv (tR P T sc ps 11 a b x 0 rs) (tA P T sc ps 11 a b x 0 an) cs cr (tRf P T sc ps 11 a b x 0) hl9 ho5 hrg hrf9
  refine gx_callVi (ci := 10) (C := RX8) (T := TX8) (N := 9) (As := [.int (zI (tRf P T sc ps 11 a b x 0))]) (rest := []) ⟨hx, hb, hml, hown, hts⟩ hK hM hE hC7 (cuVx (n := 1) hts u_601 u_598 u_1 (by decide) u_600 us_22 ⟨Nat.le_of_ble_eq_true rfl, Nat.le_of_ble_eq_true rfl⟩) ⟨by omega, by omega⟩ ho5 rfl rfl hl.1 rfl (Nat.le_of_ble_eq_true rfl) dX8_move_11 ⟨(Nat.le_of_ble_eq_true rfl), (Nat.le_of_ble_eq_true rfl)⟩ (fun E9 ce9 q9 f8 H locs hM hp9 h91 h92 h93 => gx_pass hxt hlk hK hM ?_ h91 h92 h93 (by decide) (by decide)) (fun r11 f8 H locs hM hp9 => ?_)
  · skip
    obtain ⟨hE9, rfl⟩ := hp9
    exact ⟨hE9, hs4, ho5, o6⟩
  · skip
    obtain ⟨hz9, rfl, rfl⟩ := hp9
    refine gx_iret hx hb hr hlk hK hM dX8_move_14 (by decide) (by decide) ?_
    exact ⟨hz9, rfl, hs4, ho5, o6⟩

def po_X8_advance (g : gE) (f : gF) (h : Nat) (B P T : Nat → Nat → Int) (sc : Nat → Nat) (pr ex : Nat → Int) (ps : Nat) (sv rs an cs cr : Int) (a v0 : Int) : Int32 → gF → Prop := fun r f1 => tRf P T sc ps 12 a 0 0 0 = 0 ∧ r = zI (tA P T sc ps 12 a 0 0 0 an) ∧ brsAt g f1 (h + 1) B (tP P T sc ps 12 a 0 0 0) (tT P T sc ps 12 a 0 0 0) (fun k => (↑(tS P T sc ps 12 a 0 0 0 k) : Int)) pr ex (↑ps : Int) ∧ obP f1 h sv (tR P T sc ps 12 a 0 0 0 rs) (tA P T sc ps 12 a 0 0 0 an) cs cr ∧ ∀ q, (q < h ∨ h + 291 ≤ q) → f1 q = f q
def px_X8_advance (g : gE) (f : gF) (h : Nat) (B P T : Nat → Nat → Int) (sc : Nat → Nat) (pr ex : Nat → Int) (ps : Nat) (sv rs an cs cr : Int) (a v0 : Int) : String → gF → Prop := fun E f1 => ((tRf P T sc ps 12 a 0 0 0 = 1 ∧ E = exN2) ∨ (tRf P T sc ps 12 a 0 0 0 = 2 ∧ E = exN0) ∨ (3 ≤ tRf P T sc ps 12 a 0 0 0 ∧ E = exN1)) ∧ brsAt g f1 (h + 1) B (tP P T sc ps 12 a 0 0 0) (tT P T sc ps 12 a 0 0 0) (fun k => (↑(tS P T sc ps 12 a 0 0 0 k) : Int)) pr ex (↑ps : Int) ∧ obP f1 h sv (tR P T sc ps 12 a 0 0 0 rs) (tA P T sc ps 12 a 0 0 0 an) cs cr ∧ ∀ q, (q < h ∨ h + 291 ≤ q) → f1 q = f q
set_option maxRecDepth 100000 in
set_option maxHeartbeats 1000000 in
/-- advance -/
theorem c_X8_advance (l : Launch) (g : gE) (b0 n : Nat) (f : gF) (h : Nat) (B P T : Nat → Nat → Int) (sc : Nat → Nat) (pr ex : Nat → Int) (ps : Nat) (sv rs an cs cr : Int) (a v0 : Int) (hl9 : l.stackTraces = false) (hO : obP f h sv rs an cs cr) (hrg : b0 ≤ h ∧ h + 607 ≤ b0 + n) (hS : brsAt g f (h + 1) B P T (fun k => (↑(sc k) : Int)) pr ex (↑ps : Int)) (hex : ∀ k, k < 6 → ex k = 0 ∨ ex k = 1) (hps : ps < 6) (hpx : ex ps = 1) (hok : ∀ k, k < 6 → pOk (P k) v0) (hv1 : 0 ≤ v0) (hv0 : v0 + 541 ≤ 800000000) (hsc : ∀ k, k < 6 → sc k ≤ 60) (hra : rI a) : cxI l yX8_advance cX8_advance 2 (some .int) 7 161 1 [.ref h, .int (zI a)] g b0 n f (po_X8_advance g f h B P T sc pr ex ps sv rs an cs cr a v0) (px_X8_advance g f h B P T sc pr ex ps sv rs an cs cr a v0) := by
  refine gs_xi (cc := cX8_advance) (maxL := 2) (ret := (some .int)) (by decide) (Nat.le_of_ble_eq_true rfl) ?_
  intro p e0 s m args below meth c ls hx hb hr hml hown hts hlk hxt hE hK hM hl
  have hl : lv_has ls 2 [(0, .ref h), (1, .int (zI a))] := hl
  refine lv_aload_n hx hb dX8_advance_0 rfl (lv_at hl 0 rfl) ?_
  refine lv_aload_n hx hb dX8_advance_1 rfl (lv_at hl 0 rfl) ?_
  refine g_bipush hx hb dX8_advance_2 (by decide) ?_
  refine lv_iload_n hx hb dX8_advance_4 rfl (lv_at hl 1 rfl) ?_
  refine g_iconst hx hb dX8_advance_5 ?_
  refine g_iconst hx hb dX8_advance_6 ?_
  refine g_iconst hx hb dX8_advance_7 ?_
  have hC1 := c_X8_tryStep l g b0 n f h B P T sc pr ex ps sv rs an cs cr 12 a 0 0 0 v0 hO hrg hS hex hps hpx hok hv1 hv0 (by decide) (by decide) hra rI_0 rI_0 rI_0 hsc
  refine g_callVi (ci := 10) (C := RX8) (T := TX8) (N := 9) (As := [.int (zI 12), .int (zI a), .int (zI 0), .int (zI 0), .int (zI 0)]) (rest := [.ref h]) ⟨hx, hb, hml, hown, hts⟩ hK hM hC1 (cuV (n := 5) hts u_362 u_359 u_1 (by decide) u_361 us_10 ⟨Nat.le_of_ble_eq_true rfl, Nat.le_of_ble_eq_true rfl⟩) ⟨by omega, by omega⟩ hO rfl rfl hl.1 rfl (Nat.le_of_ble_eq_true rfl) dX8_advance_8 ⟨Nat.le_of_ble_eq_true rfl, Nat.le_of_ble_eq_true rfl⟩ (fun r8 f2 H locs hM hp3 => ?_)
  obtain ⟨rfl, hs4, ho5, o6⟩ := hp3
  have hrf9 : 0 ≤ tRf P T sc ps 12 a 0 0 0 ∧ tRf P T sc ps 12 a 0 0 0 ≤ 4 := by unfold tRf; exact ref_in
  have hC7 := c_X8_answerTo l g b0 n f2 h sv (tR P T sc ps 12 a 0 0 0 rs) (tA P T sc ps 12 a 0 0 0 an) cs cr (tRf P T sc ps 12 a 0 0 0) hl9 ho5 hrg hrf9
  refine gx_callVi (ci := 10) (C := RX8) (T := TX8) (N := 9) (As := [.int (zI (tRf P T sc ps 12 a 0 0 0))]) (rest := []) ⟨hx, hb, hml, hown, hts⟩ hK hM hE hC7 (cuVx (n := 1) hts u_601 u_598 u_1 (by decide) u_600 us_22 ⟨Nat.le_of_ble_eq_true rfl, Nat.le_of_ble_eq_true rfl⟩) ⟨by omega, by omega⟩ ho5 rfl rfl hl.1 rfl (Nat.le_of_ble_eq_true rfl) dX8_advance_11 ⟨(Nat.le_of_ble_eq_true rfl), (Nat.le_of_ble_eq_true rfl)⟩ (fun E9 ce9 q9 f8 H locs hM hp9 h91 h92 h93 => gx_pass hxt hlk hK hM ?_ h91 h92 h93 (by decide) (by decide)) (fun r11 f8 H locs hM hp9 => ?_)
  · skip
    obtain ⟨hE9, rfl⟩ := hp9
    exact ⟨hE9, hs4, ho5, o6⟩
  · skip
    obtain ⟨hz9, rfl, rfl⟩ := hp9
    refine gx_iret hx hb hr hlk hK hM dX8_advance_14 (by decide) (by decide) ?_
    exact ⟨hz9, rfl, hs4, ho5, o6⟩
