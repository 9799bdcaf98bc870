theorem dL_law_0 : decode cL_law 0 = .ok (.new 7, 3) := by decide +kernel
theorem dL_law_3 : decode cL_law 3 = .ok (.dup, 1) := by decide +kernel
theorem dL_law_4 : decode cL_law 4 = .ok (.invokespecial 9, 3) := by decide +kernel
theorem dL_law_7 : decode cL_law 7 = .ok (.astore_n 1, 1) := by decide +kernel
theorem dL_law_8 : decode cL_law 8 = .ok (.new 10, 3) := by decide +kernel
theorem dL_law_11 : decode cL_law 11 = .ok (.dup, 1) := by decide +kernel
theorem dL_law_12 : decode cL_law 12 = .ok (.invokespecial 12, 3) := by decide +kernel
theorem dL_law_15 : decode cL_law 15 = .ok (.astore_n 2, 1) := by decide +kernel
theorem dL_law_16 : decode cL_law 16 = .ok (.iconst 0, 1) := by decide +kernel
theorem dL_law_17 : decode cL_law 17 = .ok (.istore_n 3, 1) := by decide +kernel
theorem dL_law_18 : decode cL_law 18 = .ok (.iload_n 3, 1) := by decide +kernel
theorem dL_law_19 : decode cL_law 19 = .ok (.aload_n 0, 1) := by decide +kernel
theorem dL_law_20 : decode cL_law 20 = .ok (.arraylength, 1) := by decide +kernel
theorem dL_law_21 : decode cL_law 21 = .ok (.iconst 4, 1) := by decide +kernel
theorem dL_law_22 : decode cL_law 22 = .ok (.isub, 1) := by decide +kernel
theorem dL_law_23 : decode cL_law 23 = .ok (.if_icmp .gt 992, 3) := by decide +kernel
theorem dL_law_26 : decode cL_law 26 = .ok (.aload_n 0, 1) := by decide +kernel
theorem dL_law_27 : decode cL_law 27 = .ok (.iload_n 3, 1) := by decide +kernel
theorem dL_law_28 : decode cL_law 28 = .ok (.iaload, 1) := by decide +kernel
theorem dL_law_29 : decode cL_law 29 = .ok (.bipush 31, 2) := by decide +kernel
theorem dL_law_31 : decode cL_law 31 = .ok (.iand, 1) := by decide +kernel
theorem dL_law_32 : decode cL_law 32 = .ok (.tableswitch 977 0 31 #[144, 167, 180, 193, 206, 229, 262, 295, 318, 341, 374, 397, 420, 443, 456, 479, 502, 535, 568, 591, 614, 647, 680, 693, 726, 739, 772, 831, 885, 908, 931, 954], 144) := by decide +kernel
theorem dL_law_1009 : decode cL_law 1009 = .ok (.iinc 3 4, 3) := by decide +kernel
theorem dL_law_1012 : decode cL_law 1012 = .ok (.goto (-994), 3) := by decide +kernel
theorem dL_law_1015 : decode cL_law 1015 = .ok (.iconst 1, 1) := by decide +kernel
theorem dL_law_1016 : decode cL_law 1016 = .ok (.ireturn, 1) := by decide +kernel
set_option maxRecDepth 20000 in
theorem hL_wX0 : ∀ w ∈ wsX00, w ∈ lw_tbl := fun w h => (goodIn_r (big := lw_tbl) wsX00 [215, 217, 219] (by decide +kernel) (by decide +kernel) w h).1
set_option maxRecDepth 20000 in
theorem hL_wX1 : ∀ w ∈ wsX10, w ∈ lw_tbl := fun w h => (goodIn_r (big := lw_tbl) wsX10 [167, 169, 171, 173] (by decide +kernel) (by decide +kernel) w h).1
set_option maxRecDepth 20000 in
theorem hL_wX2 : ∀ w ∈ wsX20, w ∈ lw_tbl := fun w h => (goodIn_r (big := lw_tbl) wsX20 [128, 130, 132, 134, 136, 138, 140, 142, 144, 146, 148] (by decide +kernel) (by decide +kernel) w h).1
set_option maxRecDepth 20000 in
theorem hL_wX3 : ∀ w ∈ wsX30, w ∈ lw_tbl := fun w h => (goodIn_r (big := lw_tbl) wsX30 [271, 273, 275, 277, 279] (by decide +kernel) (by decide +kernel) w h).1
set_option maxRecDepth 20000 in
theorem hL_wX4 : ∀ w ∈ wsX40, w ∈ lw_tbl := fun w h => (goodIn_r (big := lw_tbl) wsX40 [185, 187, 189, 191, 193, 195] (by decide +kernel) (by decide +kernel) w h).1
set_option maxRecDepth 20000 in
theorem hL_wX5 : ∀ w ∈ wsX50, w ∈ lw_tbl := fun w h => (goodIn_r (big := lw_tbl) wsX50 [232, 234, 236] (by decide +kernel) (by decide +kernel) w h).1
set_option maxRecDepth 20000 in
theorem hL_wX6 : ∀ w ∈ wsX60, w ∈ lw_tbl := fun w h => (goodIn_r (big := lw_tbl) wsX60 [249, 251] (by decide +kernel) (by decide +kernel) w h).1
set_option maxRecDepth 20000 in
theorem hL_wX7 : ∀ w ∈ wsX70, w ∈ lw_tbl := fun w h => (goodIn_r (big := lw_tbl) wsX70 [291, 293, 295, 297, 299, 301, 303, 305, 307] (by decide +kernel) (by decide +kernel) w h).1
set_option maxRecDepth 20000 in
theorem hL_wX8 : ∀ w ∈ wsX80, w ∈ lw_tbl := fun w h => (goodIn_r (big := lw_tbl) wsX80 [698, 700, 702, 704, 706, 708, 710, 712, 714, 716, 718, 720, 722, 724, 726, 728, 730, 732, 734, 736, 738, 740, 742, 744, 746, 748, 750, 752, 754, 756, 758] (by decide +kernel) (by decide +kernel) w h).1
set_option maxRecDepth 20000 in
theorem hL_NF : NFl.map (fun q => Cond.fieldLinkNest q.1 q.2.1 q.2.2.1 q.2.2.2.1 q.2.2.2.2.1 q.2.2.2.2.2) = [96, 97, 98, 100, 101, 103, 105, 107, 109, 110, 111, 113, 114, 116, 117, 119, 120, 122, 123, 125, 126, 127, 159, 161, 163, 165, 166, 178, 180, 182, 214, 231, 264, 266, 268, 270].filterMap (fun i => lw_tbl[i]?) := by decide +kernel
set_option maxRecDepth 20000 in
theorem hL_NM : NMl.map (fun q => Cond.methodLinkNest q.1 q.2.1 q.2.2.1 q.2.2.2) = [85, 91, 154, 199, 201, 204, 210, 224, 241, 246, 256, 261, 314, 318, 329, 333, 337, 344, 356, 363, 367, 368, 372, 377, 381, 386, 390, 393, 397, 398, 402, 418, 427, 431, 435, 436, 440, 445, 449, 450, 455, 468, 485, 493, 504, 513, 517, 522, 527, 528, 529, 530, 535, 546, 551, 566, 570, 579, 583, 584, 585, 625, 631, 639, 643, 648, 652, 657].filterMap (fun i => lw_tbl[i]?) := by decide +kernel
theorem hL_mem {ws : List Cond} {ps : List Nat} (h : ws = ps.filterMap (fun i => lw_tbl[i]?)) : ∀ w ∈ ws, w ∈ lw_tbl := by
  intro w hw
  rw [h] at hw
  obtain ⟨i, -, hi⟩ := List.mem_filterMap.mp hw
  exact List.mem_of_getElem? hi
theorem lw_NW {s : State} {b : Nat} (hts : ∀ w ∈ lw_tbl, w.before #[Value.ref b] s = true) : NW s := by
  refine ⟨fun q hq => va_Nw.of rfl (hts _ (hL_mem hL_NF _ (List.mem_map.mpr ⟨q, hq, rfl⟩))), fun q hq => va_Nw.of rfl (hts _ (hL_mem hL_NM _ (List.mem_map.mpr ⟨q, hq, rfl⟩)))⟩
set_option maxRecDepth 20000 in
theorem lw_K {s : State} {b : Nat} (hts : ∀ w ∈ lw_tbl, w.before #[Value.ref b] s = true) : ∃ G : Ge, va_K G.1 vwCl (TY G) s := by
  obtain ⟨c0, i0, k0⟩ := u_known (C := RX0) (T := TX0) (N := 3) (n := 3) hts hL_wX0 (hts (.instantiable RX0 3) (List.mem_of_getElem? (i := 203) (by decide +kernel)))
  obtain ⟨c1, i1, k1⟩ := u_known (C := RX1) (T := TX1) (N := 4) (n := 4) hts hL_wX1 (hts (.instantiable RX1 4) (List.mem_of_getElem? (i := 153) (by decide +kernel)))
  obtain ⟨c2, i2, k2⟩ := u_known (C := RX2) (T := TX2) (N := 11) (n := 11) hts hL_wX2 (hts (.instantiable RX2 11) (List.mem_of_getElem? (i := 90) (by decide +kernel)))
  obtain ⟨c3, i3, k3⟩ := u_known (C := RX3) (T := TX3) (N := 5) (n := 5) hts hL_wX3 (hts (.instantiable RX3 5) (List.mem_of_getElem? (i := 255) (by decide +kernel)))
  obtain ⟨c4, i4, k4⟩ := u_known (C := RX4) (T := TX4) (N := 6) (n := 6) hts hL_wX4 (hts (.instantiable RX4 6) (List.mem_of_getElem? (i := 84) (by decide +kernel)))
  obtain ⟨c5, i5, k5⟩ := u_known (C := RX5) (T := TX5) (N := 3) (n := 3) hts hL_wX5 (hts (.instantiable RX5 3) (List.mem_of_getElem? (i := 223) (by decide +kernel)))
  obtain ⟨c6, i6, k6⟩ := u_known (C := RX6) (T := TX6) (N := 2) (n := 2) hts hL_wX6 (hts (.instantiable RX6 2) (List.mem_of_getElem? (i := 240) (by decide +kernel)))
  obtain ⟨c7, i7, k7⟩ := u_known (C := RX7) (T := TX7) (N := 9) (n := 9) hts hL_wX7 (hts (.instantiable RX7 9) (List.mem_of_getElem? (i := 76) (by decide +kernel)))
  obtain ⟨c8, i8, k8⟩ := u_known (C := RX8) (T := TX8) (N := 31) (n := 31) hts hL_wX8 (hts (.instantiable RX8 31) (List.mem_of_getElem? (i := 662) (by decide +kernel)))
  obtain ⟨ai, ki, pi, a1, a2, a3⟩ := Cond.arrayClass_spec (hts (.arrayClass .int) (List.mem_of_getElem? (i := 151) (by decide +kernel)))
  obtain ⟨az, kz, pz, z1, z2, z3⟩ := Cond.arrayClass_spec (hts (.arrayClass .boolean) (List.mem_of_getElem? (i := 761) (by decide +kernel)))
  obtain ⟨po, ao, ko, o1, o2, o3, o4, o5⟩ := Cond.arrayOver_spec (n := RX2) (hts (.arrayOver (.object RX2)) (List.mem_of_getElem? (i := 209) (by decide +kernel)))
  refine ⟨((gL 0 [c0, c1, c2, c3, c4, c5, c6, c7, c8], gL (fun _ => 0) [i0, i1, i2, i3, i4, i5, i6, i7, i8]), ai, az, ao), ?_, ?_⟩
  · intro k q hq
    match k, hq with
    | 0, hq => cases hq; exact k0
    | 1, hq => cases hq; exact k1
    | 2, hq => cases hq; exact k2
    | 3, hq => cases hq; exact k3
    | 4, hq => cases hq; exact k4
    | 5, hq => cases hq; exact k5
    | 6, hq => cases hq; exact k6
    | 7, hq => cases hq; exact k7
    | 8, hq => cases hq; exact k8
    | k + 9, hq => simp [vwCl] at hq
  · intro k q hq
    match k, hq with
    | 0, hq => cases hq; exact ⟨fun n z => ⟨fun k h => (by cases h), ki, a2, pi, a3⟩, a1⟩
    | 1, hq => cases hq; exact ⟨fun n z => ⟨fun k h => (by cases h), kz, z2, pz, z3⟩, z1⟩
    | 2, hq => cases hq; exact ⟨fun n z => ⟨fun k h => (by cases h), ko, o3, po, o4⟩, ko, po, o3, o4, o1, o5⟩
    | k + 3, hq => simp [TY] at hq
theorem lw_rln0 : RLN 0 0 0 oZ oZ oZ oZ oZ oZ oZ (fun _ => oZ) (fun _ => oZ) oZ := by
  have no : ∀ {P : Prop} (k : Nat), k < 0 → P := fun k h => absurd h (Nat.not_lt_zero _)
  refine ⟨by omega, by omega, ⟨0, by omega, nI_0.symm, nI_0.symm, fun j h => no j h⟩, ?_, nI_0.symm, fun k h => no k h, ?_, ⟨0, 0, 0, by omega, by omega, by omega, nI_0.symm, nI_0.symm, nI_0.symm, nI_0.symm, fun i h => no i h⟩, ⟨0, by omega, nI_0.symm, nI_0.symm, fun i h => no i h⟩, fun i hi => ?_, rfl⟩
  · exact ⟨nI_0.symm, fun k h => no k h, fun k h => no k h, fun k h => no k h, fun k h => no k h, fun _ _ => rfl, rfl, rfl, rfl, rfl, rfl, fun k h => no k h, Or.inl rfl, 0, Nat.le_refl _, nI_0.symm⟩
  · exact ⟨nI_0.symm, nI_0.symm, fun w h => no w h, fun w h => no w h, fun w h => no w h, fun w h => no w h⟩
  · have hb : bt (oZ.2.1 1) i = false := by rcases (show i = 0 ∨ i = 1 by omega) with rfl | rfl <;> decide
    refine ⟨⟨fun h => ?_, fun h => absurd rfl h⟩, fun h => ?_⟩
    · rw [hb] at h; cases h
    · rw [hb] at h; cases h
theorem lw_and31 (v : Int32) : ∃ k, k < 32 ∧ v &&& 31 = nI k := by
  refine ⟨(v &&& 31).toBitVec.toNat, ?_, ?_⟩
  · rw [Int32.toBitVec_and, BitVec.toNat_and]
    exact Nat.lt_of_le_of_lt Nat.and_le_right (by decide)
  · apply Int32.toBitVec_inj.mp
    show _ = BitVec.ofNat 32 _
    rw [BitVec.ofNat_toNat, BitVec.setWidth_eq]
theorem lw_len {L : Nat} (hL : L ≤ 256) : (nI L - 4 : Int32).toInt = (L : Int) - 4 := by
  rw [Int32.toInt_sub, nI_toInt (by omega), show ((4 : Int32).toInt) = 4 from rfl]
  exact Int.bmod_eq_of_le (by omega) (by omega)
set_option maxHeartbeats 4000000 in
set_option maxRecDepth 100000 in
theorem law_loop {p : Program} {l : Launch} {e : Env} {s : State} {m : MethodId} {below : List Frame} {meth : Method} {c : Code} {cells slots : Nat} {G : Ge} {b L : Nat} {xs : Nat → Int32} {γ : Nat → Nat → Nat} {γh : Nat → Nat → Nat → Nat} {g8 : Nat → Nat} (C : LC p s m c b L xs G (fun q => s.heap.size ≤ q)) (hr : meth.sig.returnType = ret) (hlocks : meth.locks = false) (hL : L ≤ 256) (hcs : cells ≤ room_1.cells ∧ slots ≤ room_1.slots) :
    ∀ (n T : Nat) (H : Heap) (locs : List Loc) (ls : Array Slot), L ≤ 4 * T + 4 * n → T ≤ 64 → lv_has ls 4 [(3, .int (nI (4 * T))), (2, .ref (g8 0)), (1, .ref (γ 0 0)), (0, .ref b)] → LINV G γ γh g8 (fun q => s.heap.size ≤ q) s.heap T H locs → W p l e room_1 s m #[Value.ref b] below meth c H locs cells slots (lw_Z below #[Value.ref b] s) (F0 m 18 ls []) := by
  obtain ⟨hx, hb, hml, hown, hts, hK, hN, hX, hbl, hbA, hA⟩ := id C
  have out : ∀ (T : Nat) (H : Heap) (locs : List Loc) (ls : Array Slot), LINV G γ γh g8 (fun q => s.heap.size ≤ q) s.heap T H locs → W p l e room_1 s m #[Value.ref b] below meth c H locs cells slots (lw_Z below #[Value.ref b] s) (F0 m 1015 ls []) := by
    intro T H locs ls hI
    obtain ⟨_, _, _, _, _, _, _, _, _, _, _, _, _, _, _, _, _, _, hH⟩ := hI
    refine lv_iconst (v := 1) hx hb dL_law_1015 (by decide) ?_
    refine va_forget (fun q hq => hH.2.2.2.2 q hq) ?_
    refine W.widen (k := 600000) (n := 7302250) hcs.1 hcs.2 ?_
    exact lw_ret hx hb hr hlocks dL_law_1016
  intro n
  induction n with
  | zero =>
    intro T H locs ls hn hT hl hI
    have hI2 := hI
    obtain ⟨_, _, _, _, _, _, _, _, _, _, _, _, _, _, _, _, _, _, hH⟩ := hI2
    refine lv_iload_n hx hb dL_law_18 rfl (lv_at hl 0 rfl) ?_
    refine lv_aload_n hx hb dL_law_19 rfl (lv_at hl 3 rfl) ?_
    refine va_slen hx hb hX hbl hbA hH.2.2 dL_law_20 ?_
    refine lv_iconst (v := 4) hx hb dL_law_21 (by decide) ?_
    refine lv_isub hx hb dL_law_22 ?_
    refine lv_icmp_gt (tgt := 1015) hx hb dL_law_23 (by decide) (fun _ => out T H locs ls hI) (fun c2 => absurd ?_ c2)
    show nI L - 4 < nI (4 * T)
    rw [Int32.lt_iff_toInt_lt, lw_len hL, nI_toInt (by omega)]
    omega
  | succ n ih =>
    intro T H locs ls hn hT hl hI
    have hI2 := hI
    obtain ⟨_, _, _, _, _, _, _, _, _, _, _, _, _, _, _, _, _, _, hH⟩ := hI2
    refine lv_iload_n hx hb dL_law_18 rfl (lv_at hl 0 rfl) ?_
    refine lv_aload_n hx hb dL_law_19 rfl (lv_at hl 3 rfl) ?_
    refine va_slen hx hb hX hbl hbA hH.2.2 dL_law_20 ?_
    refine lv_iconst (v := 4) hx hb dL_law_21 (by decide) ?_
    refine lv_isub hx hb dL_law_22 ?_
    refine lv_icmp_gt (tgt := 1015) hx hb dL_law_23 (by decide) (fun _ => out T H locs ls hI) (fun c2 => ?_)
    have c2 : ¬ nI L - 4 < nI (4 * T) := c2
    rw [Int32.lt_iff_toInt_lt, lw_len hL, nI_toInt (by omega)] at c2
    have h0 : vp_in (nI (4 * T)) L := nI_in (by omega) (by omega)
    have h1 : vp_in (nI (4 * T) + 1) L := by rw [nI_1]; exact nI_in (by omega) (by omega)
    have h2 : vp_in (nI (4 * T) + 2) L := by
      rw [show nI (4 * T) + 2 = nI (4 * T + 2) from nI_add _ 2]; exact nI_in (by omega) (by omega)
    have h3 : vp_in (nI (4 * T) + 3) L := by
      rw [show nI (4 * T) + 3 = nI (4 * T + 3) from nI_add _ 3]; exact nI_in (by omega) (by omega)
    have kk : ∀ (H1 : Heap) (locs1 : List Loc), LINV G γ γh g8 (fun q => s.heap.size ≤ q) s.heap (T + 1) H1 locs1 → W p l e room_1 s m #[Value.ref b] below meth c H1 locs1 cells slots (lw_Z below #[Value.ref b] s) (F0 m 1009 ls []) := by
      intro H1 locs1 hI1
      refine lv_iinc (v := (nI (4 * (T + 1)))) (lv' := [(3, .int (nI (4 * (T + 1)))), (2, .ref (g8 0)), (1, .ref (γ 0 0)), (0, .ref b)]) hx hb dL_law_1009 hl (k := 0) rfl (nI_add _ 4) (by decide) rfl (fun ls hl => ?_)
      refine lv_goto (tgt := 18) hx hb dL_law_1012 (by decide) ?_
      exact ih (T + 1) H1 locs1 ls (by omega) (by omega) hl hI1
    refine lv_aload_n hx hb dL_law_26 rfl (lv_at hl 3 rfl) ?_
    refine lv_iload_n hx hb dL_law_27 rfl (lv_at hl 0 rfl) ?_
    refine va_sld hx hb hX hbl hbA hH.2.2 h0 dL_law_28 ?_
    refine lv_bipush (v := 31) hx hb dL_law_29 (by decide) ?_
    refine lv_iand hx hb dL_law_31 ?_
    obtain ⟨k, hk, ek⟩ := lw_and31 (xs (nI (4 * T)).toNatClampNeg)
    rw [ek]
    have hT2 : T < 2 ^ 31 := by omega
    rcases (show k = 0 ∨ k = 1 ∨ k = 2 ∨ k = 3 ∨ k = 4 ∨ k = 5 ∨ k = 6 ∨ k = 7 ∨ k = 8 ∨ k = 9 ∨ k = 10 ∨ k = 11 ∨ k = 12 ∨ k = 13 ∨ k = 14 ∨ k = 15 ∨ k = 16 ∨ k = 17 ∨ k = 18 ∨ k = 19 ∨ k = 20 ∨ k = 21 ∨ k = 22 ∨ k = 23 ∨ k = 24 ∨ k = 25 ∨ k = 26 ∨ k = 27 ∨ k = 28 ∨ k = 29 ∨ k = 30 ∨ k = 31 by omega) with rfl | rfl | rfl | rfl | rfl | rfl | rfl | rfl | rfl | rfl | rfl | rfl | rfl | rfl | rfl | rfl | rfl | rfl | rfl | rfl | rfl | rfl | rfl | rfl | rfl | rfl | rfl | rfl | rfl | rfl | rfl | rfl
    · exact lv_tableIn (tgt := 176) (off := 144) hx hb dL_law_32 (by decide) (by decide) (by rfl) (by decide) (law_0 C h1 h2 h3 hT2 hcs hl hI kk)
    · exact lv_tableIn (tgt := 199) (off := 167) hx hb dL_law_32 (by decide) (by decide) (by rfl) (by decide) (law_1 C h1 h2 h3 hT2 hcs hl hI kk)
    · exact lv_tableIn (tgt := 212) (off := 180) hx hb dL_law_32 (by decide) (by decide) (by rfl) (by decide) (law_2 C h1 h2 h3 hT2 hcs hl hI kk)
    · exact lv_tableIn (tgt := 225) (off := 193) hx hb dL_law_32 (by decide) (by decide) (by rfl) (by decide) (law_3 C h1 h2 h3 hT2 hcs hl hI kk)
    · exact lv_tableIn (tgt := 238) (off := 206) hx hb dL_law_32 (by decide) (by decide) (by rfl) (by decide) (law_4 C h1 h2 h3 hT2 hcs hl hI kk)
    · exact lv_tableIn (tgt := 261) (off := 229) hx hb dL_law_32 (by decide) (by decide) (by rfl) (by decide) (law_5 C h1 h2 h3 hT2 hcs hl hI kk)
    · exact lv_tableIn (tgt := 294) (off := 262) hx hb dL_law_32 (by decide) (by decide) (by rfl) (by decide) (law_6 C h1 h2 h3 hT2 hcs hl hI kk)
    · exact lv_tableIn (tgt := 327) (off := 295) hx hb dL_law_32 (by decide) (by decide) (by rfl) (by decide) (law_7 C h1 h2 h3 hT2 hcs hl hI kk)
    · exact lv_tableIn (tgt := 350) (off := 318) hx hb dL_law_32 (by decide) (by decide) (by rfl) (by decide) (law_8 C h1 h2 h3 hT2 hcs hl hI kk)
    · exact lv_tableIn (tgt := 373) (off := 341) hx hb dL_law_32 (by decide) (by decide) (by rfl) (by decide) (law_9 C h1 h2 h3 hT2 hcs hl hI kk)
    · exact lv_tableIn (tgt := 406) (off := 374) hx hb dL_law_32 (by decide) (by decide) (by rfl) (by decide) (law_10 C h1 h2 h3 hT2 hcs hl hI kk)
    · exact lv_tableIn (tgt := 429) (off := 397) hx hb dL_law_32 (by decide) (by decide) (by rfl) (by decide) (law_11 C h1 h2 h3 hT2 hcs hl hI kk)
    · exact lv_tableIn (tgt := 452) (off := 420) hx hb dL_law_32 (by decide) (by decide) (by rfl) (by decide) (law_12 C h1 h2 h3 hT2 hcs hl hI kk)
    · exact lv_tableIn (tgt := 475) (off := 443) hx hb dL_law_32 (by decide) (by decide) (by rfl) (by decide) (law_13 C h1 h2 h3 hT2 hcs hl hI kk)
    · exact lv_tableIn (tgt := 488) (off := 456) hx hb dL_law_32 (by decide) (by decide) (by rfl) (by decide) (law_14 C h1 h2 h3 hT2 hcs hl hI kk)
    · exact lv_tableIn (tgt := 511) (off := 479) hx hb dL_law_32 (by decide) (by decide) (by rfl) (by decide) (law_15 C h1 h2 h3 hT2 hcs hl hI kk)
    · exact lv_tableIn (tgt := 534) (off := 502) hx hb dL_law_32 (by decide) (by decide) (by rfl) (by decide) (law_16 C h1 h2 h3 hT2 hcs hl hI kk)
    · exact lv_tableIn (tgt := 567) (off := 535) hx hb dL_law_32 (by decide) (by decide) (by rfl) (by decide) (law_17 C h1 h2 h3 hT2 hcs hl hI kk)
    · exact lv_tableIn (tgt := 600) (off := 568) hx hb dL_law_32 (by decide) (by decide) (by rfl) (by decide) (law_18 C h1 h2 h3 hT2 hcs hl hI kk)
    · exact lv_tableIn (tgt := 623) (off := 591) hx hb dL_law_32 (by decide) (by decide) (by rfl) (by decide) (law_19 C h1 h2 h3 hT2 hcs hl hI kk)
    · exact lv_tableIn (tgt := 646) (off := 614) hx hb dL_law_32 (by decide) (by decide) (by rfl) (by decide) (law_20 C h1 h2 h3 hT2 hcs hl hI kk)
    · exact lv_tableIn (tgt := 679) (off := 647) hx hb dL_law_32 (by decide) (by decide) (by rfl) (by decide) (law_21 C h1 h2 h3 hT2 hcs hl hI kk)
    · exact lv_tableIn (tgt := 712) (off := 680) hx hb dL_law_32 (by decide) (by decide) (by rfl) (by decide) (law_22 C h1 h2 h3 hT2 hcs hl hI kk)
    · exact lv_tableIn (tgt := 725) (off := 693) hx hb dL_law_32 (by decide) (by decide) (by rfl) (by decide) (law_23 C h1 h2 h3 hT2 hcs hl hI kk)
    · exact lv_tableIn (tgt := 758) (off := 726) hx hb dL_law_32 (by decide) (by decide) (by rfl) (by decide) (law_24 C h1 h2 h3 hT2 hcs hl hI kk)
    · exact lv_tableIn (tgt := 771) (off := 739) hx hb dL_law_32 (by decide) (by decide) (by rfl) (by decide) (law_25 C h1 h2 h3 hT2 hcs hl hI kk)
    · exact lv_tableIn (tgt := 804) (off := 772) hx hb dL_law_32 (by decide) (by decide) (by rfl) (by decide) (law_26 C h1 h2 h3 hT2 hcs hl hI kk)
    · exact lv_tableIn (tgt := 863) (off := 831) hx hb dL_law_32 (by decide) (by decide) (by rfl) (by decide) (law_27 C h1 h2 h3 hT2 hcs hl hI kk)
    · exact lv_tableIn (tgt := 917) (off := 885) hx hb dL_law_32 (by decide) (by decide) (by rfl) (by decide) (law_28 C h1 h2 h3 hT2 hcs hl hI kk)
    · exact lv_tableIn (tgt := 940) (off := 908) hx hb dL_law_32 (by decide) (by decide) (by rfl) (by decide) (law_29 C h1 h2 h3 hT2 hcs hl hI kk)
    · exact lv_tableIn (tgt := 963) (off := 931) hx hb dL_law_32 (by decide) (by decide) (by rfl) (by decide) (law_30 C h1 h2 h3 hT2 hcs hl hI kk)
    · exact lv_tableIn (tgt := 986) (off := 954) hx hb dL_law_32 (by decide) (by decide) (by rfl) (by decide) (law_31 C h1 h2 h3 hT2 hcs hl hI kk)
set_option maxHeartbeats 4000000 in
set_option maxRecDepth 100000 in
/-- YOUR PART: from the entry, for every script of at most 256 ints, the law comes to its end with true ('hflags': the launch's flags, for a law that throws: no stack traces) -/
theorem whole_start {p : Program} {e : Env} {s : State} {m : MethodId} {below : List Frame} {meth : Method} {c : Code} (l : Launch) (hflags : l.flags = flags0) {b L : Nat} {xs : Nat → Int32} (hL : L ≤ 256) (C0 : lw_At p s m meth c b L xs) : W p l e room_1 s m #[Value.ref b] below meth c s.heap [] 0 0 (lw_Z below #[Value.ref b] s) (entryFrame m ([Value.ref b] : List Value).toArray 4) := by
  obtain ⟨hx, hb, hr, hml, hown, hts, hX, hbl, hlocks, hgv⟩ := id C0
  have hb : c.code = cL_law := hb
  have hown : s.vm.findClass RL = some m.cls := hown
  have hA : ∀ q : Nat, s.heap.size ≤ q → (fun q : Nat => s.heap.size ≤ q) q := fun _ h => h
  have hbA : ¬ (fun q : Nat => s.heap.size ≤ q) b := Nat.not_le.mpr hbl
  have hN := lw_NW hts
  obtain ⟨G, hK⟩ := lw_K hts
  have hO : va_AO RX2 s := va_AO.of (hts (.arrayOver (.object RX2)) (List.mem_of_getElem? (i := 209) (by decide +kernel)))
  have hH : HP G (fun q : Nat => s.heap.size ≤ q) s.heap [] s.heap [] := ⟨fun k q h => by simp at h, ⟨fun i j p q h => by simp at h, fun k q h => by simp at h⟩, va_S.rf⟩
  have hl := lv_entry ([.ref b]) (n := 4) (Nat.le_of_ble_eq_true rfl)
  rw [lg_entry_eq]
  generalize (lg_sl ([.ref b]) ++ List.replicate (4 - (lg_sl ([.ref b])).length) Slot.unset).toArray = ls at hl ⊢
  have hl : lv_has ls 4 [(0, .ref b)] := hl
  refine kb_newo (ci := 7) (fs := [.null, .null, .null, .null, .null, .null, .null, .null, .long 0]) (C := RX7) (T := TX7) (N := 9) hx hb hts hL_wX7 tyX7 tyX7_ok hown (hts (.classLink RL 7 RX7) (List.mem_of_getElem? (i := 75) (by decide +kernel))) (hts (.instantiable RX7 9) (List.mem_of_getElem? (i := 76) (by decide +kernel))) (hts (.initialized RX7) (List.mem_of_getElem? (i := 65) (by decide +kernel))) hK hH hA rfl (fun j hj => by rcases (show j = 0 ∨ j = 1 ∨ j = 2 ∨ j = 3 ∨ j = 4 ∨ j = 5 ∨ j = 6 ∨ j = 7 ∨ j = 8 by omega) with rfl | rfl | rfl | rfl | rfl | rfl | rfl | rfl | rfl <;> rfl) (Nat.le_of_ble_eq_true rfl) (Nat.le_of_ble_eq_true rfl) dL_law_0 (fun q0 H hH => ?_)
  have hH : HP G (fun q : Nat => s.heap.size ≤ q) s.heap [[(q0, .inr (7, [.null, .null, .null, .null, .null, .null, .null, .null, .long 0]))]] H _ := hH
  refine lv_dup hx hb dL_law_3 rfl ?_
  refine kb_cn hH hA 0 rfl (va_runI (As := []) (rest := [.ref q0]) ⟨hx, hb, hml, hown, hts⟩ (c_X7_init l G q0 H.size) (cwI 0 hts hL_X7_init rfl rfl rfl (hts (.initialized RX7) (List.mem_of_getElem? (i := 65) (by decide +kernel))) (hts (.methodLink RL 9 yX7_init) (List.mem_of_getElem? (i := 77) (by decide +kernel))) (hts (.instanceMethod yX7_init) (List.mem_of_getElem? (i := 78) (by decide +kernel))) rfl hd_X7_init ⟨Nat.le_of_ble_eq_true rfl, Nat.le_of_ble_eq_true rfl⟩) (kb_preA hH hK hN hO 0 rfl) rfl rfl hl.1 rfl (lv_room (Nat.le_of_ble_eq_true rfl)) dL_law_4 ⟨Nat.le_of_ble_eq_true rfl, Nat.le_of_ble_eq_true rfl⟩) (fun γ H locs hγ hH => ?_)
  obtain ⟨γ, γh⟩ := γ
  have hγ : γ 0 0 = q0 := hγ
  subst hγ
  have hH : HP G (fun q : Nat => s.heap.size ≤ q) s.heap [(w_C7 G γ γh).flatten] H _ := hH
  refine lv_astore_n (lv' := [(1, .ref (γ 0 0)), (0, .ref b)]) hx hb dL_law_7 rfl hl (by decide) rfl (fun ls hl => ?_)
  refine kb_newo (ci := 8) (fs := [.int 0, .int 0, .null, .null, .null, .null, .null, .null, .null, .null, .int 0, .int 0, .int 0, .int 0, .null, .int 0, .int 0, .int 0, .int 0, .int 0, .null, .int 0, .int 0, .int 0, .int 0, .int 0, .null, .null, .long 0, .null, .null]) (C := RX8) (T := TX8) (N := 31) hx hb hts hL_wX8 tyX8 tyX8_ok hown (hts (.classLink RL 10 RX8) (List.mem_of_getElem? (i := 661) (by decide +kernel))) (hts (.instantiable RX8 31) (List.mem_of_getElem? (i := 662) (by decide +kernel))) (hts (.initialized RX8) (List.mem_of_getElem? (i := 73) (by decide +kernel))) hK hH hA rfl (fun j hj => by rcases (show j = 0 ∨ j = 1 ∨ j = 2 ∨ j = 3 ∨ j = 4 ∨ j = 5 ∨ j = 6 ∨ j = 7 ∨ j = 8 ∨ j = 9 ∨ j = 10 ∨ j = 11 ∨ j = 12 ∨ j = 13 ∨ j = 14 ∨ j = 15 ∨ j = 16 ∨ j = 17 ∨ j = 18 ∨ j = 19 ∨ j = 20 ∨ j = 21 ∨ j = 22 ∨ j = 23 ∨ j = 24 ∨ j = 25 ∨ j = 26 ∨ j = 27 ∨ j = 28 ∨ j = 29 ∨ j = 30 by omega) with rfl | rfl | rfl | rfl | rfl | rfl | rfl | rfl | rfl | rfl | rfl | rfl | rfl | rfl | rfl | rfl | rfl | rfl | rfl | rfl | rfl | rfl | rfl | rfl | rfl | rfl | rfl | rfl | rfl | rfl | rfl <;> rfl) (Nat.le_of_ble_eq_true rfl) (Nat.le_of_ble_eq_true rfl) dL_law_8 (fun q8 H hH => ?_)
  have hH : HP G (fun q : Nat => s.heap.size ≤ q) s.heap [(w_C7 G γ γh).flatten, [(q8, .inr (8, [.int 0, .int 0, .null, .null, .null, .null, .null, .null, .null, .null, .int 0, .int 0, .int 0, .int 0, .null, .int 0, .int 0, .int 0, .int 0, .int 0, .null, .int 0, .int 0, .int 0, .int 0, .int 0, .null, .null, .long 0, .null, .null]))]] H _ := hH
  refine lv_dup hx hb dL_law_11 rfl ?_
  refine kb_cn hH hA 1 rfl (va_runI (As := []) (rest := [.ref q8]) ⟨hx, hb, hml, hown, hts⟩ (c_X8_init l G q8 H.size) (cwI 0 hts hL_X8_init rfl rfl rfl (hts (.initialized RX8) (List.mem_of_getElem? (i := 73) (by decide +kernel))) (hts (.methodLink RL 12 yX8_init) (List.mem_of_getElem? (i := 663) (by decide +kernel))) (hts (.instanceMethod yX8_init) (List.mem_of_getElem? (i := 664) (by decide +kernel))) rfl hd_X8_init ⟨Nat.le_of_ble_eq_true rfl, Nat.le_of_ble_eq_true rfl⟩) (kb_preA hH hK hN hO 1 rfl) rfl rfl hl.1 rfl (lv_room (Nat.le_of_ble_eq_true rfl)) dL_law_12 ⟨Nat.le_of_ble_eq_true rfl, Nat.le_of_ble_eq_true rfl⟩) (fun g8 H locs hg8 hH => ?_)
  have hg8 : g8 0 = q8 := hg8
  subst hg8
  have hH : HP G (fun q : Nat => s.heap.size ≤ q) s.heap [(w_C7 G γ γh).flatten, (w_O8 G g8 oZ).flatten] H _ := hH
  refine lv_astore_n (lv' := [(2, .ref (g8 0)), (1, .ref (γ 0 0)), (0, .ref b)]) hx hb dL_law_15 rfl hl (by decide) rfl (fun ls hl => ?_)
  refine lv_iconst (v := 0) hx hb dL_law_16 (by decide) ?_
  refine lv_istore_n (lv' := [(3, .int (0 : Int32)), (2, .ref (g8 0)), (1, .ref (γ 0 0)), (0, .ref b)]) hx hb dL_law_17 rfl hl (by decide) rfl (fun ls hl => ?_)
  refine law_loop (γ := γ) (γh := γh) (g8 := g8) ⟨hx, hb, hml, hown, hts, hK, hN, hX, hbl, hbA, hA⟩ hr hlocks hL ⟨by exact Nat.le_of_ble_eq_true rfl, by exact Nat.le_of_ble_eq_true rfl⟩ 64 0 H _ ls (by omega) (by omega) hl ⟨0, 0, oZ, oZ, oZ, oZ, oZ, oZ, oZ, fun _ => oZ, oZ, oZ, fun _ => oZ, oZ, oZ, oZ, oZ, lw_rln0, ?_⟩
  refine kb_perm (List.Perm.of_eq ?_) hH
  simp only [LW, w_C7, List.flatten_append, List.flatten_cons, List.flatten_nil, List.append_nil, List.append_assoc]
