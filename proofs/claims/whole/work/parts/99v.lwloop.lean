/-! ===== the law's loop ===== -/
set_option maxRecDepth 100000 in
set_option maxHeartbeats 4000000 in
theorem lw_loop {p : Program} {l : Launch} {e : Env} {s : State} {m : MethodId} {below : List Frame} {meth : Method} {c : Code} {g : gE} {b0 bs L : Nat} {xs : Nat → Int32} (C : LWC p l s m #[Value.ref bs] c g b0 bs L xs) (hr : meth.sig.returnType = ret) (hlk : meth.locks = false) (hb0 : s.heap.size = b0) : ∀ (k j : Nat), j + k = 513 → ∀ (f : gF) (H : Heap) (locs : List Loc) (ls : Array Slot) (cells slots : Nat) (cd : Int), gH g b0 622 f s.heap H locs → lwI g b0 (33542 * (j : Int)) cd f → lv_has ls 9 (lwL bs b0 (5 * (j : Int))) → cells + 3 * k ≤ 3000 → slots + 18 * k ≤ 30000 → W p l e room_1 s m #[Value.ref bs] below meth c H locs cells slots (lw_Z below #[Value.ref bs] s) (F0 m 28 ls []) := by
  intro k
  induction k with
  | zero =>
    intro j hj f H locs ls cells slots cd hM hI hl hc1 hc2
    obtain ⟨hx, hb, hml, hown, hts, hK, hE, hX, hbs, hbb, hl9, hL⟩ := id C
    have hL9 : Int32.ofNat L = zI (↑L : Int) := rfl
    refine lv_iload hx hb dL_law_28 (lv_at hl 0 rfl) ?_
    refine lv_aload_n hx hb dL_law_30 rfl (lv_at hl 5 rfl) ?_
    refine va_slen (A := gA b0) hx hb hX hbs (Nat.not_le.mpr hbb) hM.2 dL_law_31 ?_
    rw [hL9]
    refine g_iconst hx hb dL_law_32 ?_
    refine g_isub hx hb dL_law_33 ?_
    refine g_icmp_gt (tgt := 2514) hx hb dL_law_34 (by decide) ⟨by omega, by omega⟩ ⟨by omega, by omega⟩ (fun h1 => ?_) (fun h1 => by omega)
    refine g_iconst hx hb dL_law_2514 ?_
    refine va_forget (fun q hq => by rw [hb0]; exact hM.2.2.2 q hq) ?_
    refine W.widen (k := 603072) (n := 7186538) (by omega) (by omega) ?_
    exact lw_ret (d0 := s.drawn) (Drawn.sameBut.refl s.drawn lw_cs) hx hb hr hlk dL_law_2515
  | succ k ih =>
    intro j hj f H locs ls cells slots cd hM hI hl hc1 hc2
    obtain ⟨hx, hb, hml, hown, hts, hK, hE, hX, hbs, hbb, hl9, hL⟩ := id C
    have hL9 : Int32.ofNat L = zI (↑L : Int) := rfl
    refine lv_iload hx hb dL_law_28 (lv_at hl 0 rfl) ?_
    refine lv_aload_n hx hb dL_law_30 rfl (lv_at hl 5 rfl) ?_
    refine va_slen (A := gA b0) hx hb hX hbs (Nat.not_le.mpr hbb) hM.2 dL_law_31 ?_
    rw [hL9]
    refine g_iconst hx hb dL_law_32 ?_
    refine g_isub hx hb dL_law_33 ?_
    refine g_icmp_gt (tgt := 2514) hx hb dL_law_34 (by decide) ⟨by omega, by omega⟩ ⟨by omega, by omega⟩ (fun h1 => ?_) (fun h1 => ?_)
    · refine g_iconst hx hb dL_law_2514 ?_
      refine va_forget (fun q hq => by rw [hb0]; exact hM.2.2.2 q hq) ?_
      refine W.widen (k := 603072) (n := 7186538) (by omega) (by omega) ?_
      exact lw_ret (d0 := s.drawn) (Drawn.sameBut.refl s.drawn lw_cs) hx hb hr hlk dL_law_2515
    · have hi : 0 ≤ 5 * (j : Int) ∧ 5 * (j : Int) + 5 ≤ L := ⟨by omega, by omega⟩
      have hv0 : 0 ≤ 33542 * (j : Int) := by omega
      have hv1 : 33542 * (j : Int) ≤ 20000000 := by omega
      have hcs : cells + 3 ≤ 603072 ∧ slots + 18 ≤ 7186538 := ⟨by omega, by omega⟩
      have hend : ∀ (f1 : gF) (H1 : Heap) (locs1 : List Loc) (ls1 : Array Slot) (cd1 : Int), gH g b0 622 f1 s.heap H1 locs1 → lwI g b0 (33542 * (j : Int) + 33542) cd1 f1 → lv_has ls1 9 (lwL bs b0 (5 * (j : Int))) → W p l e room_1 s m #[Value.ref bs] below meth c H1 locs1 (cells + 3) (slots + 18) (lw_Z below #[Value.ref bs] s) (F0 m 2508 ls1 []) := by
        intro f1 H1 locs1 ls1 cd1 hM1 hI1 hl1
        refine lv_iinc (v := zI (5 * (j : Int) + 5)) (lv' := lwL bs b0 (5 * (j : Int) + 5)) hx hb dL_law_2508 hl1 (k := 0) rfl (zI_add _ _) (by decide) rfl (fun ls2 hl2 => ?_)
        refine lv_goto (tgt := 28) hx hb dL_law_2511 (by decide) ?_
        have e1 : 33542 * (j : Int) + 33542 = 33542 * ((j + 1 : Nat) : Int) := by omega
        have e2 : 5 * (j : Int) + 5 = 5 * ((j + 1 : Nat) : Int) := by omega
        rw [e1] at hI1
        rw [e2] at hl2
        exact ih (j + 1) (by omega) f1 H1 locs1 ls2 (cells + 3) (slots + 18) cd1 hM1 hI1 hl2 (by omega) (by omega)
      refine lv_aload_n hx hb dL_law_37 rfl (lv_at hl 5 rfl) ?_
      refine lv_iload hx hb dL_law_38 (lv_at hl 0 rfl) ?_
      refine lr_ld C hM hi.1 (by omega) dL_law_40 ?_
      refine g_bipush hx hb dL_law_41 (by decide) ?_
      refine lv_iand hx hb dL_law_43 ?_
      generalize zI (xs (5 * (j : Int)).toNat).toInt &&& zI 63 = w
      rcases g_sw 0 37 w.toInt with h | h
      · refine lv_tableOut (tgt := 2508) hx hb dL_law_44 h (by decide) ?_
        exact W.widen (k := cells + 3) (n := slots + 18) (by omega) (by omega) (hend f H locs ls cd hM (hI.mono (by omega)) hl)
      · rcases (show w.toInt = 0 ∨ w.toInt = 1 ∨ w.toInt = 2 ∨ w.toInt = 3 ∨ w.toInt = 4 ∨ w.toInt = 5 ∨ w.toInt = 6 ∨ w.toInt = 7 ∨ w.toInt = 8 ∨ w.toInt = 9 ∨ w.toInt = 10 ∨ w.toInt = 11 ∨ w.toInt = 12 ∨ w.toInt = 13 ∨ w.toInt = 14 ∨ w.toInt = 15 ∨ w.toInt = 16 ∨ w.toInt = 17 ∨ w.toInt = 18 ∨ w.toInt = 19 ∨ w.toInt = 20 ∨ w.toInt = 21 ∨ w.toInt = 22 ∨ w.toInt = 23 ∨ w.toInt = 24 ∨ w.toInt = 25 ∨ w.toInt = 26 ∨ w.toInt = 27 ∨ w.toInt = 28 ∨ w.toInt = 29 ∨ w.toInt = 30 ∨ w.toInt = 31 ∨ w.toInt = 32 ∨ w.toInt = 33 ∨ w.toInt = 34 ∨ w.toInt = 35 ∨ w.toInt = 36 ∨ w.toInt = 37 by omega) with h | h | h | h | h | h | h | h | h | h | h | h | h | h | h | h | h | h | h | h | h | h | h | h | h | h | h | h | h | h | h | h | h | h | h | h | h | h
        · refine lv_tableIn (off := 168) (tgt := 212) hx hb dL_law_44 (by rw [h]; decide) (by rw [h]; decide) (by rw [h]; rfl) (by decide) ?_
          exact lc_0 C hM hI hv0 hv1 hi hl hcs hend
        · refine lv_tableIn (off := 236) (tgt := 280) hx hb dL_law_44 (by rw [h]; decide) (by rw [h]; decide) (by rw [h]; rfl) (by decide) ?_
          exact lc_1 C hM hI hv0 hv1 hi hl hcs hend
        · refine lv_tableIn (off := 304) (tgt := 348) hx hb dL_law_44 (by rw [h]; decide) (by rw [h]; decide) (by rw [h]; rfl) (by decide) ?_
          exact lc_2 C hM hI hv0 hv1 hi hl hcs hend
        · refine lv_tableIn (off := 372) (tgt := 416) hx hb dL_law_44 (by rw [h]; decide) (by rw [h]; decide) (by rw [h]; rfl) (by decide) ?_
          exact lc_3 C hM hI hv0 hv1 hi hl hcs hend
        · refine lv_tableIn (off := 452) (tgt := 496) hx hb dL_law_44 (by rw [h]; decide) (by rw [h]; decide) (by rw [h]; rfl) (by decide) ?_
          exact lc_4 C hM hI hv0 hv1 hi hl hcs hend
        · refine lv_tableIn (off := 508) (tgt := 552) hx hb dL_law_44 (by rw [h]; decide) (by rw [h]; decide) (by rw [h]; rfl) (by decide) ?_
          exact lc_5 C hM hI hv0 hv1 hi hl hcs hend
        · refine lv_tableIn (off := 600) (tgt := 644) hx hb dL_law_44 (by rw [h]; decide) (by rw [h]; decide) (by rw [h]; rfl) (by decide) ?_
          exact lc_6 C hM hI hv0 hv1 hi hl hcs hend
        · refine lv_tableIn (off := 656) (tgt := 700) hx hb dL_law_44 (by rw [h]; decide) (by rw [h]; decide) (by rw [h]; rfl) (by decide) ?_
          exact lc_7 C hM hI hv0 hv1 hi hl hcs hend
        · refine lv_tableIn (off := 748) (tgt := 792) hx hb dL_law_44 (by rw [h]; decide) (by rw [h]; decide) (by rw [h]; rfl) (by decide) ?_
          exact lc_8 C hM hI hv0 hv1 hi hl hcs hend
        · refine lv_tableIn (off := 804) (tgt := 848) hx hb dL_law_44 (by rw [h]; decide) (by rw [h]; decide) (by rw [h]; rfl) (by decide) ?_
          exact lc_9 C hM hI hv0 hv1 hi hl hcs hend
        · refine lv_tableIn (off := 860) (tgt := 904) hx hb dL_law_44 (by rw [h]; decide) (by rw [h]; decide) (by rw [h]; rfl) (by decide) ?_
          exact lc_10 C hM hI hv0 hv1 hi hl hcs hend
        · refine lv_tableIn (off := 928) (tgt := 972) hx hb dL_law_44 (by rw [h]; decide) (by rw [h]; decide) (by rw [h]; rfl) (by decide) ?_
          exact lc_11 C hM hI hv0 hv1 hi hl hcs hend
        · refine lv_tableIn (off := 1008) (tgt := 1052) hx hb dL_law_44 (by rw [h]; decide) (by rw [h]; decide) (by rw [h]; rfl) (by decide) ?_
          exact lc_12 C hM hI hv0 hv1 hi hl hcs hend
        · refine lv_tableIn (off := 1064) (tgt := 1108) hx hb dL_law_44 (by rw [h]; decide) (by rw [h]; decide) (by rw [h]; rfl) (by decide) ?_
          exact lc_13 C hM hI hv0 hv1 hi hl hcs hend
        · refine lv_tableIn (off := 1131) (tgt := 1175) hx hb dL_law_44 (by rw [h]; decide) (by rw [h]; decide) (by rw [h]; rfl) (by decide) ?_
          exact lc_14 C hM hI hv0 hv1 hi hl hcs hend
        · refine lv_tableIn (off := 1199) (tgt := 1243) hx hb dL_law_44 (by rw [h]; decide) (by rw [h]; decide) (by rw [h]; rfl) (by decide) ?_
          exact lc_15 C hM hI hv0 hv1 hi hl hcs hend
        · refine lv_tableIn (off := 1267) (tgt := 1311) hx hb dL_law_44 (by rw [h]; decide) (by rw [h]; decide) (by rw [h]; rfl) (by decide) ?_
          exact lc_16 C hM hI hv0 hv1 hi hl hcs hend
        · refine lv_tableIn (off := 1334) (tgt := 1378) hx hb dL_law_44 (by rw [h]; decide) (by rw [h]; decide) (by rw [h]; rfl) (by decide) ?_
          exact lc_17 C hM hI hv0 hv1 hi hl hcs hend
        · refine lv_tableIn (off := 1402) (tgt := 1446) hx hb dL_law_44 (by rw [h]; decide) (by rw [h]; decide) (by rw [h]; rfl) (by decide) ?_
          exact lc_18 C hM hI hv0 hv1 hi hl hcs hend
        · refine lv_tableIn (off := 1457) (tgt := 1501) hx hb dL_law_44 (by rw [h]; decide) (by rw [h]; decide) (by rw [h]; rfl) (by decide) ?_
          exact lc_19 C hM hI hv0 hv1 hi hl hcs hend
        · refine lv_tableIn (off := 1522) (tgt := 1566) hx hb dL_law_44 (by rw [h]; decide) (by rw [h]; decide) (by rw [h]; rfl) (by decide) ?_
          exact lc_20 C hM hI hv0 hv1 hi hl hcs hend
        · refine lv_tableIn (off := 1589) (tgt := 1633) hx hb dL_law_44 (by rw [h]; decide) (by rw [h]; decide) (by rw [h]; rfl) (by decide) ?_
          exact lc_21 C hM hI hv0 hv1 hi hl hcs hend
        · refine lv_tableIn (off := 1657) (tgt := 1701) hx hb dL_law_44 (by rw [h]; decide) (by rw [h]; decide) (by rw [h]; rfl) (by decide) ?_
          exact lc_22 C hM hI hv0 hv1 hi hl hcs hend
        · refine lv_tableIn (off := 1725) (tgt := 1769) hx hb dL_law_44 (by rw [h]; decide) (by rw [h]; decide) (by rw [h]; rfl) (by decide) ?_
          exact lc_23 C hM hI hv0 hv1 hi hl hcs hend
        · refine lv_tableIn (off := 1769) (tgt := 1813) hx hb dL_law_44 (by rw [h]; decide) (by rw [h]; decide) (by rw [h]; rfl) (by decide) ?_
          exact lc_24 C hM hI hv0 hv1 hi hl hcs hend
        · refine lv_tableIn (off := 1825) (tgt := 1869) hx hb dL_law_44 (by rw [h]; decide) (by rw [h]; decide) (by rw [h]; rfl) (by decide) ?_
          exact lc_25 C hM hI hv0 hv1 hi hl hcs hend
        · refine lv_tableIn (off := 1881) (tgt := 1925) hx hb dL_law_44 (by rw [h]; decide) (by rw [h]; decide) (by rw [h]; rfl) (by decide) ?_
          exact lc_26 C hM hI hv0 hv1 hi hl hcs hend
        · refine lv_tableIn (off := 1937) (tgt := 1981) hx hb dL_law_44 (by rw [h]; decide) (by rw [h]; decide) (by rw [h]; rfl) (by decide) ?_
          exact lc_27 C hM hI hv0 hv1 hi hl hcs hend
        · refine lv_tableIn (off := 2009) (tgt := 2053) hx hb dL_law_44 (by rw [h]; decide) (by rw [h]; decide) (by rw [h]; rfl) (by decide) ?_
          exact lc_28 C hM hI hv0 hv1 hi hl hcs hend
        · refine lv_tableIn (off := 2076) (tgt := 2120) hx hb dL_law_44 (by rw [h]; decide) (by rw [h]; decide) (by rw [h]; rfl) (by decide) ?_
          exact lc_29 C hM hI hv0 hv1 hi hl hcs hend
        · refine lv_tableIn (off := 2155) (tgt := 2199) hx hb dL_law_44 (by rw [h]; decide) (by rw [h]; decide) (by rw [h]; rfl) (by decide) ?_
          exact lc_30 C hM hI hv0 hv1 hi hl hcs hend
        · refine lv_tableIn (off := 2223) (tgt := 2267) hx hb dL_law_44 (by rw [h]; decide) (by rw [h]; decide) (by rw [h]; rfl) (by decide) ?_
          exact lc_31 C hM hI hv0 hv1 hi hl hcs hend
        · refine lv_tableIn (off := 2267) (tgt := 2311) hx hb dL_law_44 (by rw [h]; decide) (by rw [h]; decide) (by rw [h]; rfl) (by decide) ?_
          exact lc_32 C hM hI hv0 hv1 hi hl hcs hend
        · refine lv_tableIn (off := 2323) (tgt := 2367) hx hb dL_law_44 (by rw [h]; decide) (by rw [h]; decide) (by rw [h]; rfl) (by decide) ?_
          exact lc_33 C hM hI hv0 hv1 hi hl hcs hend
        · refine lv_tableIn (off := 2336) (tgt := 2380) hx hb dL_law_44 (by rw [h]; decide) (by rw [h]; decide) (by rw [h]; rfl) (by decide) ?_
          exact lc_34 C hM hI hv0 hv1 hi hl hcs hend
        · refine lv_tableIn (off := 2394) (tgt := 2438) hx hb dL_law_44 (by rw [h]; decide) (by rw [h]; decide) (by rw [h]; rfl) (by decide) ?_
          exact lc_35 C hM hI hv0 hv1 hi hl hcs hend
        · refine lv_tableIn (off := 2407) (tgt := 2451) hx hb dL_law_44 (by rw [h]; decide) (by rw [h]; decide) (by rw [h]; rfl) (by decide) ?_
          exact lc_36 C hM hI hv0 hv1 hi hl hcs hend
        · refine lv_tableIn (off := 2420) (tgt := 2464) hx hb dL_law_44 (by rw [h]; decide) (by rw [h]; decide) (by rw [h]; rfl) (by decide) ?_
          exact lc_37 C hM hI hv0 hv1 hi hl hcs hend
