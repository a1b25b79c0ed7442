/-! ===== the law: rows ===== -/
/-- what stays so all along the law's body -/
def LWC (p : Program) (l : Launch) (s : State) (m : MethodId) (args : Array Value) (c : Code) (g : gE) (b0 bs L : Nat) (xs : Nat → Int32) : Prop :=
  p.tables.exec = Jvm.exec ∧ c.code = cL_law ∧ c.maxLocals = 9 ∧ s.vm.findClass RL = some m.cls ∧ (∀ w ∈ wU, w.before args s = true) ∧ va_K g.1 vwCl (gT g) s ∧ xW b0 s s.heap ∧ va_X bs L xs s s.heap ∧ bs < s.heap.size ∧ bs < b0 ∧ l.stackTraces = false ∧ L ≤ 2560
abbrev lwL (bs b0 : Nat) (i : Int) : List (Nat × Value) := [(5, .int (zI i)), (4, .ref (b0 + 621)), (3, .ref (b0 + 620)), (2, .ref (b0 + 607)), (1, .ref b0), (0, .ref bs)]
theorem rm_c {a : Nat} (h : a ≤ 603072) : a ≤ room_1.cells := h
theorem rm_s {a : Nat} (h : a ≤ 7186538) : a ≤ room_1.slots := h
section LR
variable {p : Program} {l : Launch} {e : Env} {s : State} {m : MethodId} {args : Array Value} {below : List Frame} {meth : Method} {c : Code} {H : Heap} {locs : List Loc} {cells slots : Nat} {Q : State → Prop}
variable {pc : Nat} {ls : Array Slot} {rest : List Value} {g : gE} {b0 bs L : Nat} {f : gF} {xs : Nat → Int32}
theorem lr_ld {i : Int} (C : LWC p l s m args c g b0 bs L xs) (hM : gH g b0 622 f s.heap H locs) (h0 : 0 ≤ i) (h1 : i < L) (hdg : decode cL_law pc = .ok (.iaload, 1))
    (kk : W p l e room_1 s m args below meth c H locs cells slots Q (F0 m (pc + 1) ls (.int (zI (xs i.toNat).toInt) :: rest))) : W p l e room_1 s m args below meth c H locs cells slots Q (F0 m pc ls (.int (zI i) :: .ref bs :: rest)) := by
  obtain ⟨hx, hb, hml, hown, hts, hK, hE, hX, hbs, hbb, hl9, hL⟩ := C
  refine va_sld (A := gA b0) hx hb hX hbs (Nat.not_le.mpr hbb) hM.2 (zI_in h0 h1 (by omega)) hdg ?_
  rw [zI_clamp h0 (by omega)]
  rw [zI_self] at kk
  exact kk
theorem lr_arg {i j : Int} (C : LWC p l s m args c g b0 bs L xs) (hM : gH g b0 622 f s.heap H locs) (h0 : ls[0]? = some (.val (.ref bs))) (h5 : ls[5]? = some (.val (.int (zI i)))) (hi : 0 ≤ i + j) (hi2 : i + j < L)
    (d0 : decode cL_law pc = .ok (.aload_n 0, 1)) (d1 : decode cL_law (pc + 1) = .ok (.iload 5, 2)) (d3 : decode cL_law (pc + 3) = .ok (.iconst j, 1)) (d4 : decode cL_law (pc + 4) = .ok (.iadd, 1)) (d5 : decode cL_law (pc + 5) = .ok (.iaload, 1))
    (kk : W p l e room_1 s m args below meth c H locs cells slots Q (F0 m (pc + 6) ls (.int (zI (xs (i + j).toNat).toInt) :: rest))) : W p l e room_1 s m args below meth c H locs cells slots Q (F0 m pc ls rest) := by
  have hx := C.1
  have hb := C.2.1
  refine lv_aload_n hx hb d0 rfl h0 ?_
  refine lv_iload hx hb d1 h5 ?_
  refine g_iconst hx hb d3 ?_
  refine g_iadd hx hb d4 ?_
  exact lr_ld C hM hi hi2 d5 kk
/-- the code that the reference tells is the component's -/
theorem lr_tell {v cd : Int} (C : LWC p l s m args c g b0 bs L xs) (hM : gH g b0 622 f s.heap H locs) (hI : lwI g b0 v cd f) (hcd : rI cd) (hls : ls.size = 9) (h2 : ls[2]? = some (.val (.ref (b0 + 607)))) (h6 : ls[6]? = some (.val (.int (zI cd)))) (hc : cells ≤ 603072 ∧ slots ≤ 7186538)
    (d0 : decode cL_law pc = .ok (.aload_n 2, 1)) (d1 : decode cL_law (pc + 1) = .ok (.invokevirtual 147, 3)) (d4 : decode cL_law (pc + 4) = .ok (.iload 6, 2)) (d6 : decode cL_law (pc + 6) = .ok (.if_icmp .eq 5, 3))
    (kk : ∀ (H1 : Heap) (locs1 : List Loc), gH g b0 622 f s.heap H1 locs1 → W p l e room_1 s m args below meth c H1 locs1 cells slots Q (F0 m (pc + 11) ls [])) : W p l e room_1 s m args below meth c H locs cells slots Q (F0 m pc ls []) := by
  obtain ⟨hx, hb, hml, hown, hts, hK, hE, hX, hbs, hbb, hl9, hL⟩ := C
  obtain ⟨Z, hZ, hZ0⟩ := hI.tell
  refine lv_aload_n hx hb d0 rfl h2 ?_
  have hC := c_X9_thrown l g b0 622 f (b0 + 607) Z hZ ⟨by omega, by omega⟩
  refine g_callVi (ci := 11) (C := RX9) (T := TX9) (N := 24) (As := []) (rest := []) ⟨hx, hb, hml, hown, hts⟩ hK hM hC (cuV (n := 0) hts u_1137 u_1134 u_10 (by decide) u_1135 u_1136 ⟨Nat.le_of_ble_eq_true rfl, Nat.le_of_ble_eq_true rfl⟩) ⟨by omega, by omega⟩ hZ rfl rfl hls rfl (Nat.le_of_ble_eq_true rfl) d1 hc (fun r f1 H locs hM hp => ?_)
  obtain ⟨rfl, rfl⟩ := hp
  rw [hZ0]
  refine lv_iload hx hb d4 h6 ?_
  refine g_icmp_eq (tgt := pc + 11) hx hb d6 (by omega) hcd hcd (fun _ => ?_) (fun hn => absurd rfl hn)
  exact kk H locs hM
/-- the value that the helper laid is the reference's -/
theorem lr_valI {cd off : Int} {r : Int32} {tgt : Nat} (C : LWC p l s m args c g b0 bs L xs) (hM : gH g b0 622 f s.heap H locs) (hcd : rI cd) (hv : cd = 0 → ∃ z : Int, arJ g f (b0 + 620) 1 (fun _ => z) ∧ rI z ∧ r = zI z) (h3 : ls[3]? = some (.val (.ref (b0 + 620)))) (h6 : ls[6]? = some (.val (.int (zI cd)))) (h7 : ls[7]? = some (.val (.int r)))
    (d0 : decode cL_law pc = .ok (.iload 6, 2)) (d2 : decode cL_law (pc + 2) = .ok (.ifCond .ne 15, 3)) (d5 : decode cL_law (pc + 5) = .ok (.aload_n 3, 1)) (d6 : decode cL_law (pc + 6) = .ok (.iconst 0, 1)) (d7 : decode cL_law (pc + 7) = .ok (.laload, 1)) (d8 : decode cL_law (pc + 8) = .ok (.iload 7, 2)) (d10 : decode cL_law (pc + 10) = .ok (.i2l, 1)) (d11 : decode cL_law (pc + 11) = .ok (.lcmp, 1)) (d12 : decode cL_law (pc + 12) = .ok (.ifCond .eq 5, 3)) (d17 : decode cL_law (pc + 17) = .ok (.goto off, 3)) (ht : ((pc + 17 : Nat) : Int) + off = (tgt : Int))
    (kk : W p l e room_1 s m args below meth c H locs cells slots Q (F0 m tgt ls [])) : W p l e room_1 s m args below meth c H locs cells slots Q (F0 m pc ls []) := by
  obtain ⟨hx, hb, hml, hown, hts, hK, hE, hX, hbs, hbb, hl9, hL⟩ := C
  have hgo : W p l e room_1 s m args below meth c H locs cells slots Q (F0 m (pc + 17) ls []) := lv_goto (tgt := tgt) hx hb d17 ht kk
  refine lv_iload hx hb d0 h6 ?_
  refine g_if_ne (tgt := pc + 17) hx hb d2 (by omega) hcd (fun _ => hgo) (fun h0 => ?_)
  obtain ⟨z, hz1, hz2, hz3⟩ := hv h0
  subst hz3
  refine lv_aload_n hx hb d5 rfl h3 ?_
  refine g_iconst hx hb d6 ?_
  refine g_lald hx hb hK hM ⟨by omega, by omega⟩ hz1 (by decide) (by decide) (by decide) d7 ?_
  refine lv_iload hx hb d8 h7 ?_
  refine g_i2l hx hb d10 hz2 ?_
  exact g_lcmp_eq (tgt := pc + 17) hx hb d11 d12 (by omega) (rI_L hz2) (rI_L hz2) (fun _ => hgo) (fun hn => absurd rfl hn)
theorem lr_valL {cd off : Int} {r : Int64} {tgt : Nat} (C : LWC p l s m args c g b0 bs L xs) (hM : gH g b0 622 f s.heap H locs) (hcd : rI cd) (hv : cd = 0 → ∃ z : Int, arJ g f (b0 + 620) 1 (fun _ => z) ∧ rL z ∧ r = zL z) (h3 : ls[3]? = some (.val (.ref (b0 + 620)))) (h6 : ls[6]? = some (.val (.int (zI cd)))) (h7 : ls[7]? = some (.val (.long r)))
    (d0 : decode cL_law pc = .ok (.iload 6, 2)) (d2 : decode cL_law (pc + 2) = .ok (.ifCond .ne 14, 3)) (d5 : decode cL_law (pc + 5) = .ok (.aload_n 3, 1)) (d6 : decode cL_law (pc + 6) = .ok (.iconst 0, 1)) (d7 : decode cL_law (pc + 7) = .ok (.laload, 1)) (d8 : decode cL_law (pc + 8) = .ok (.lload 7, 2)) (d10 : decode cL_law (pc + 10) = .ok (.lcmp, 1)) (d11 : decode cL_law (pc + 11) = .ok (.ifCond .eq 5, 3)) (d16 : decode cL_law (pc + 16) = .ok (.goto off, 3)) (ht : ((pc + 16 : Nat) : Int) + off = (tgt : Int))
    (kk : W p l e room_1 s m args below meth c H locs cells slots Q (F0 m tgt ls [])) : W p l e room_1 s m args below meth c H locs cells slots Q (F0 m pc ls []) := by
  obtain ⟨hx, hb, hml, hown, hts, hK, hE, hX, hbs, hbb, hl9, hL⟩ := C
  have hgo : W p l e room_1 s m args below meth c H locs cells slots Q (F0 m (pc + 16) ls []) := lv_goto (tgt := tgt) hx hb d16 ht kk
  refine lv_iload hx hb d0 h6 ?_
  refine g_if_ne (tgt := pc + 16) hx hb d2 (by omega) hcd (fun _ => hgo) (fun h0 => ?_)
  obtain ⟨z, hz1, hz2, hz3⟩ := hv h0
  subst hz3
  refine lv_aload_n hx hb d5 rfl h3 ?_
  refine g_iconst hx hb d6 ?_
  refine g_lald hx hb hK hM ⟨by omega, by omega⟩ hz1 (by decide) (by decide) (by decide) d7 ?_
  refine lv_lload hx hb d8 h7 ?_
  exact g_lcmp_eq (tgt := pc + 16) hx hb d10 d11 (by omega) hz2 hz2 (fun _ => hgo) (fun hn => absurd rfl hn)
theorem dcmp_rf {x : UInt64} (h : vf_n64 x) : Op.cmpValue (FP.dcmp x x) .l = zI 0 := by
  rw [show FP.dcmp x x = some .eq from Jvm.FP.Core.dcmp_self (Jvm.Free.Fl.val64_no.mp h)]
  rfl
theorem i2c_in (x : Int32) : ∃ z : Int, 0 ≤ z ∧ z < 65536 ∧ (x.toUInt32 % 65536).toInt32 = zI z := by
  refine ⟨((x.toUInt32 % 65536).toNat : Int), by omega, ?_, ?_⟩
  · have h := UInt32.toNat_mod x.toUInt32 65536
    rw [h]
    have h9 : (65536 : UInt32).toNat = 65536 := rfl
    rw [h9]
    omega
  · apply Int32.toBitVec_inj.mp
    show (x.toUInt32 % 65536).toBitVec = BitVec.ofInt 32 ↑(x.toUInt32 % 65536).toNat
    apply BitVec.eq_of_toNat_eq
    rw [BitVec.ofInt_natCast, BitVec.toNat_ofNat]
    exact (Nat.mod_eq_of_lt (UInt32.toNat_lt _)).symm
end LR
