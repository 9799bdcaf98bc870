theorem dL_law_452 : decode cL_law 452 = .ok (.aload_n 1, 1) := by decide +kernel
theorem dL_law_453 : decode cL_law 453 = .ok (.aload_n 0, 1) := by decide +kernel
theorem dL_law_454 : decode cL_law 454 = .ok (.iload_n 3, 1) := by decide +kernel
theorem dL_law_455 : decode cL_law 455 = .ok (.iconst 1, 1) := by decide +kernel
theorem dL_law_456 : decode cL_law 456 = .ok (.iadd, 1) := by decide +kernel
theorem dL_law_457 : decode cL_law 457 = .ok (.iaload, 1) := by decide +kernel
theorem dL_law_458 : decode cL_law 458 = .ok (.invokevirtual 64, 3) := by decide +kernel
theorem dL_law_461 : decode cL_law 461 = .ok (.aload_n 2, 1) := by decide +kernel
theorem dL_law_462 : decode cL_law 462 = .ok (.aload_n 0, 1) := by decide +kernel
theorem dL_law_463 : decode cL_law 463 = .ok (.iload_n 3, 1) := by decide +kernel
theorem dL_law_464 : decode cL_law 464 = .ok (.iconst 1, 1) := by decide +kernel
theorem dL_law_465 : decode cL_law 465 = .ok (.iadd, 1) := by decide +kernel
theorem dL_law_466 : decode cL_law 466 = .ok (.iaload, 1) := by decide +kernel
theorem dL_law_467 : decode cL_law 467 = .ok (.invokevirtual 67, 3) := by decide +kernel
theorem dL_law_470 : decode cL_law 470 = .ok (.if_icmp .eq 539, 3) := by decide +kernel
theorem dL_law_475 : decode cL_law 475 = .ok (.aload_n 1, 1) := by decide +kernel
theorem dL_law_476 : decode cL_law 476 = .ok (.invokevirtual 68, 3) := by decide +kernel
theorem dL_law_479 : decode cL_law 479 = .ok (.aload_n 2, 1) := by decide +kernel
theorem dL_law_480 : decode cL_law 480 = .ok (.invokevirtual 71, 3) := by decide +kernel
theorem dL_law_483 : decode cL_law 483 = .ok (.if_icmp .eq 526, 3) := by decide +kernel
theorem dL_law_488 : decode cL_law 488 = .ok (.aload_n 1, 1) := by decide +kernel
theorem dL_law_489 : decode cL_law 489 = .ok (.aload_n 0, 1) := by decide +kernel
theorem dL_law_490 : decode cL_law 490 = .ok (.iload_n 3, 1) := by decide +kernel
theorem dL_law_491 : decode cL_law 491 = .ok (.iconst 1, 1) := by decide +kernel
theorem dL_law_492 : decode cL_law 492 = .ok (.iadd, 1) := by decide +kernel
theorem dL_law_493 : decode cL_law 493 = .ok (.iaload, 1) := by decide +kernel
theorem dL_law_494 : decode cL_law 494 = .ok (.invokevirtual 72, 3) := by decide +kernel
theorem dL_law_497 : decode cL_law 497 = .ok (.aload_n 2, 1) := by decide +kernel
theorem dL_law_498 : decode cL_law 498 = .ok (.aload_n 0, 1) := by decide +kernel
theorem dL_law_499 : decode cL_law 499 = .ok (.iload_n 3, 1) := by decide +kernel
theorem dL_law_500 : decode cL_law 500 = .ok (.iconst 1, 1) := by decide +kernel
theorem dL_law_501 : decode cL_law 501 = .ok (.iadd, 1) := by decide +kernel
theorem dL_law_502 : decode cL_law 502 = .ok (.iaload, 1) := by decide +kernel
theorem dL_law_503 : decode cL_law 503 = .ok (.invokevirtual 75, 3) := by decide +kernel
theorem dL_law_506 : decode cL_law 506 = .ok (.if_icmp .eq 503, 3) := by decide +kernel
theorem dL_law_511 : decode cL_law 511 = .ok (.aload_n 1, 1) := by decide +kernel
theorem dL_law_512 : decode cL_law 512 = .ok (.aload_n 0, 1) := by decide +kernel
theorem dL_law_513 : decode cL_law 513 = .ok (.iload_n 3, 1) := by decide +kernel
theorem dL_law_514 : decode cL_law 514 = .ok (.iconst 1, 1) := by decide +kernel
theorem dL_law_515 : decode cL_law 515 = .ok (.iadd, 1) := by decide +kernel
theorem dL_law_516 : decode cL_law 516 = .ok (.iaload, 1) := by decide +kernel
theorem dL_law_517 : decode cL_law 517 = .ok (.invokevirtual 76, 3) := by decide +kernel
theorem dL_law_520 : decode cL_law 520 = .ok (.aload_n 2, 1) := by decide +kernel
theorem dL_law_521 : decode cL_law 521 = .ok (.aload_n 0, 1) := by decide +kernel
theorem dL_law_522 : decode cL_law 522 = .ok (.iload_n 3, 1) := by decide +kernel
theorem dL_law_523 : decode cL_law 523 = .ok (.iconst 1, 1) := by decide +kernel
theorem dL_law_524 : decode cL_law 524 = .ok (.iadd, 1) := by decide +kernel
theorem dL_law_525 : decode cL_law 525 = .ok (.iaload, 1) := by decide +kernel
theorem dL_law_526 : decode cL_law 526 = .ok (.invokevirtual 79, 3) := by decide +kernel
theorem dL_law_529 : decode cL_law 529 = .ok (.if_icmp .eq 480, 3) := by decide +kernel
set_option maxHeartbeats 4000000 in
set_option maxRecDepth 100000 in
theorem law_12 {p : Program} {l : Launch} {e : Env} {s : State} {m : MethodId} {below : List Frame} {meth : Method} {c : Code} {H : Heap} {locs : List Loc} {cells slots : Nat} {Q : State → Prop} {ls : Array Slot} {G : Ge} {A : Nat → Prop} {b L : Nat} {xs : Nat → Int32} {γ : Nat → Nat → Nat} {γh : Nat → Nat → Nat → Nat} {g8 : Nat → Nat} {i T : Nat} (C : LC p s m c b L xs G A) (h1 : vp_in (nI i + 1) L) (h2 : vp_in (nI i + 2) L) (h3 : vp_in (nI i + 3) L) (hT : T < 2 ^ 31) (hcs : cells ≤ room_1.cells ∧ slots ≤ room_1.slots) (hl : lv_has ls 4 [(3, .int (nI i)), (2, .ref (g8 0)), (1, .ref (γ 0 0)), (0, .ref b)]) (hI : LINV G γ γh g8 A s.heap T H locs)
    (kk : ∀ (H1 : Heap) (locs1 : List Loc), LINV G γ γh g8 A s.heap (T + 1) H1 locs1 → W p l e room_1 s m #[Value.ref b] below meth c H1 locs1 cells slots Q (F0 m 1009 ls [])) : W p l e room_1 s m #[Value.ref b] below meth c H locs cells slots Q (F0 m 452 ls []) := by
  obtain ⟨hx, hb, hml, hown, hts, hK, hN, hX, hbl, hbA, hA⟩ := C
  obtain ⟨co, wn, V7, Vr, Vg, Vga, Vn, Va, Vac, VHa, Vs, Vsl, VHs, Vp, Vpt, Vt, M, hR, hH⟩ := hI
  refine lv_aload_n hx hb dL_law_452 rfl (lv_at hl 2 rfl) ?_
  refine lv_aload_n hx hb dL_law_453 rfl (lv_at hl 3 rfl) ?_
  refine lv_iload_n hx hb dL_law_454 rfl (lv_at hl 0 rfl) ?_
  refine lv_iconst (v := 1) hx hb dL_law_455 (by decide) ?_
  refine lv_iadd hx hb dL_law_456 ?_
  refine va_sld hx hb hX hbl hbA hH.2.2 h1 dL_law_457 ?_
  have r := r_hold hR (xs (nI i + 1).toNatClampNeg)
  obtain ⟨F7, hF7⟩ : ∃ z, z = f_X7_hold V7 Vn Vac VHa (xs (nI i + 1).toNatClampNeg) := ⟨_, rfl⟩
  obtain ⟨F8, hF8⟩ : ∃ z, z = f_X8_hold M (xs (nI i + 1).toNatClampNeg) := ⟨_, rfl⟩
  rw [← hF7, ← hF8] at r
  obtain ⟨d8, e, hR2⟩ := r
  refine kb_ciC hH hA [0, 4, 6] (Wc := [(w_O7 G (γ 0) (γ 1 0) (γ 4 0) (γ 5 0) (γ 6 0) (γ 7 0) (γ 8 0) (γ 9 0) (γ 11 0) V7).flatten, (w_O2 G (γ 4) Vn).flatten, (w_O0 G (γ 6) (γh 0) Vac VHa).flatten]) (Wc' := [(w_O7 G (γ 0) (γ 1 0) (γ 4 0) (γ 5 0) (γ 6 0) (γ 7 0) (γ 8 0) (γ 9 0) (γ 11 0) V7).flatten, (w_O2 G (γ 4) F7.2.1).flatten, (w_O0 G (γ 6) (γh 0) F7.2.2.1 F7.2.2.2).flatten]) (WS' := (LW G γ γh g8 V7 Vr Vg Vga F7.2.1 Va F7.2.2.1 F7.2.2.2 Vs Vsl VHs Vp Vpt Vt M)) (Wf := (w_O7 G (γ 0) (γ 1 0) (γ 4 0) (γ 5 0) (γ 6 0) (γ 7 0) (γ 8 0) (γ 9 0) (γ 11 0) V7 ++ w_O2 G (γ 4) Vn ++ w_O0 G (γ 6) (γh 0) Vac VHa)) (Wf' := (w_O7 G (γ 0) (γ 1 0) (γ 4 0) (γ 5 0) (γ 6 0) (γ 7 0) (γ 8 0) (γ 9 0) (γ 11 0) V7 ++ w_O2 G (γ 4) F7.2.1 ++ w_O0 G (γ 6) (γh 0) F7.2.2.1 F7.2.2.2)) rfl (by decide) rfl rfl (kb_fl3 _ _ _) (kb_fl3 _ _ _) (va_runV (C := RX7) (As := [.int (xs (nI i + 1).toNatClampNeg)]) (rest := []) ⟨hx, hb, hml, hown, hts⟩ (c_X7_hold l G (γ 0) (γ 1 0) (γ 5 0) (γ 7 0) (γ 8 0) (γ 9 0) (γ 11 0) V7 (γ 4) Vn (γ 6) (γh 0) Vac VHa (xs (nI i + 1).toNatClampNeg) hF7.symm _) (cwV 1 hts hL_X7_hold rfl rfl rfl he_X7_hold ⟨Nat.le_of_ble_eq_true rfl, Nat.le_of_ble_eq_true rfl⟩) (kb_preVC (Wc := [(w_O7 G (γ 0) (γ 1 0) (γ 4 0) (γ 5 0) (γ 6 0) (γ 7 0) (γ 8 0) (γ 9 0) (γ 11 0) V7).flatten, (w_O2 G (γ 4) Vn).flatten, (w_O0 G (γ 6) (γh 0) Vac VHa).flatten]) hH hK hN [0, 4, 6] rfl (by decide) (kb_fl3 _ _ _) 0 rfl rfl rfl rfl) rfl rfl hl.1 rfl (lv_room (Nat.le_of_ble_eq_true rfl)) dL_law_458 ⟨hcs.1, hcs.2⟩) (fun H locs hH => ?_)
  have hH : HP G A s.heap (LW G γ γh g8 V7 Vr Vg Vga F7.2.1 Va F7.2.2.1 F7.2.2.2 Vs Vsl VHs Vp Vpt Vt M) H locs := hH
  refine lv_aload_n hx hb dL_law_461 rfl (lv_at hl 1 rfl) ?_
  refine lv_aload_n hx hb dL_law_462 rfl (lv_at hl 3 rfl) ?_
  refine lv_iload_n hx hb dL_law_463 rfl (lv_at hl 0 rfl) ?_
  refine lv_iconst (v := 1) hx hb dL_law_464 (by decide) ?_
  refine lv_iadd hx hb dL_law_465 ?_
  refine va_sld hx hb hX hbl hbA hH.2.2 h1 dL_law_466 ?_
  refine kb_ciC hH hA [12] (Wc := [(w_O8 G g8 M).flatten]) (Wc' := [(w_O8 G g8 F8.2).flatten]) (WS' := (LW G γ γh g8 V7 Vr Vg Vga F7.2.1 Va F7.2.2.1 F7.2.2.2 Vs Vsl VHs Vp Vpt Vt F8.2)) (Wf := (w_O8 G g8 M)) (Wf' := (w_O8 G g8 F8.2)) rfl (by decide) rfl rfl (kb_fl1 _) (kb_fl1 _) (va_runV (C := RX8) (As := [.int (xs (nI i + 1).toNatClampNeg)]) (rest := [.int F7.1]) ⟨hx, hb, hml, hown, hts⟩ (c_X8_hold l G g8 M (xs (nI i + 1).toNatClampNeg) d8 hF8.symm _) (cwV 1 hts hL_X8_hold rfl rfl rfl he_X8_hold ⟨Nat.le_of_ble_eq_true rfl, Nat.le_of_ble_eq_true rfl⟩) (kb_preVC (Wc := [(w_O8 G g8 M).flatten]) hH hK hN [12] rfl (by decide) (kb_fl1 _) 12 rfl rfl rfl rfl) rfl rfl hl.1 rfl (lv_room (Nat.le_of_ble_eq_true rfl)) dL_law_467 ⟨hcs.1, hcs.2⟩) (fun H locs hH => ?_)
  have hH : HP G A s.heap (LW G γ γh g8 V7 Vr Vg Vga F7.2.1 Va F7.2.2.1 F7.2.2.2 Vs Vsl VHs Vp Vpt Vt F8.2) H locs := hH
  refine lv_icmp_eq (tgt := 1009) hx hb dL_law_470 (by decide) (fun _ => ?_) (fun c2 => absurd e c2)
  exact kk _ _ ⟨_, _, V7, Vr, Vg, Vga, F7.2.1, Va, F7.2.2.1, F7.2.2.2, Vs, Vsl, VHs, Vp, Vpt, Vt, F8.2, (RLN_mono (Nat.le_succ T) hR2), hH⟩
set_option maxHeartbeats 4000000 in
set_option maxRecDepth 100000 in
theorem law_13 {p : Program} {l : Launch} {e : Env} {s : State} {m : MethodId} {below : List Frame} {meth : Method} {c : Code} {H : Heap} {locs : List Loc} {cells slots : Nat} {Q : State → Prop} {ls : Array Slot} {G : Ge} {A : Nat → Prop} {b L : Nat} {xs : Nat → Int32} {γ : Nat → Nat → Nat} {γh : Nat → Nat → Nat → Nat} {g8 : Nat → Nat} {i T : Nat} (C : LC p s m c b L xs G A) (h1 : vp_in (nI i + 1) L) (h2 : vp_in (nI i + 2) L) (h3 : vp_in (nI i + 3) L) (hT : T < 2 ^ 31) (hcs : cells ≤ room_1.cells ∧ slots ≤ room_1.slots) (hl : lv_has ls 4 [(3, .int (nI i)), (2, .ref (g8 0)), (1, .ref (γ 0 0)), (0, .ref b)]) (hI : LINV G γ γh g8 A s.heap T H locs)
    (kk : ∀ (H1 : Heap) (locs1 : List Loc), LINV G γ γh g8 A s.heap (T + 1) H1 locs1 → W p l e room_1 s m #[Value.ref b] below meth c H1 locs1 cells slots Q (F0 m 1009 ls [])) : W p l e room_1 s m #[Value.ref b] below meth c H locs cells slots Q (F0 m 475 ls []) := by
  obtain ⟨hx, hb, hml, hown, hts, hK, hN, hX, hbl, hbA, hA⟩ := C
  obtain ⟨co, wn, V7, Vr, Vg, Vga, Vn, Va, Vac, VHa, Vs, Vsl, VHs, Vp, Vpt, Vt, M, hR, hH⟩ := hI
  refine lv_aload_n hx hb dL_law_475 rfl (lv_at hl 2 rfl) ?_
  have r := r_undo hR
  obtain ⟨F7, hF7⟩ : ∃ z, z = f_X7_undo V7 Vac VHa Vn := ⟨_, rfl⟩
  obtain ⟨F8, hF8⟩ : ∃ z, z = f_X8_undo M := ⟨_, rfl⟩
  rw [← hF7, ← hF8] at r
  obtain ⟨d8, e, hR2⟩ := r
  refine kb_ciC hH hA [0, 6, 4] (Wc := [(w_O7 G (γ 0) (γ 1 0) (γ 4 0) (γ 5 0) (γ 6 0) (γ 7 0) (γ 8 0) (γ 9 0) (γ 11 0) V7).flatten, (w_O0 G (γ 6) (γh 0) Vac VHa).flatten, (w_O2 G (γ 4) Vn).flatten]) (Wc' := [(w_O7 G (γ 0) (γ 1 0) (γ 4 0) (γ 5 0) (γ 6 0) (γ 7 0) (γ 8 0) (γ 9 0) (γ 11 0) V7).flatten, (w_O0 G (γ 6) (γh 0) F7.2.1 VHa).flatten, (w_O2 G (γ 4) F7.2.2).flatten]) (WS' := (LW G γ γh g8 V7 Vr Vg Vga F7.2.2 Va F7.2.1 VHa Vs Vsl VHs Vp Vpt Vt M)) (Wf := (w_O7 G (γ 0) (γ 1 0) (γ 4 0) (γ 5 0) (γ 6 0) (γ 7 0) (γ 8 0) (γ 9 0) (γ 11 0) V7 ++ w_O0 G (γ 6) (γh 0) Vac VHa ++ w_O2 G (γ 4) Vn)) (Wf' := (w_O7 G (γ 0) (γ 1 0) (γ 4 0) (γ 5 0) (γ 6 0) (γ 7 0) (γ 8 0) (γ 9 0) (γ 11 0) V7 ++ w_O0 G (γ 6) (γh 0) F7.2.1 VHa ++ w_O2 G (γ 4) F7.2.2)) rfl (by decide) rfl rfl (kb_fl3 _ _ _) (kb_fl3 _ _ _) (va_runV (C := RX7) (As := []) (rest := []) ⟨hx, hb, hml, hown, hts⟩ (c_X7_undo l G (γ 0) (γ 1 0) (γ 5 0) (γ 7 0) (γ 8 0) (γ 9 0) (γ 11 0) V7 (γ 6) (γh 0) Vac VHa (γ 4) Vn hF7.symm _) (cwV 0 hts hL_X7_undo rfl rfl rfl he_X7_undo ⟨Nat.le_of_ble_eq_true rfl, Nat.le_of_ble_eq_true rfl⟩) (kb_preVC (Wc := [(w_O7 G (γ 0) (γ 1 0) (γ 4 0) (γ 5 0) (γ 6 0) (γ 7 0) (γ 8 0) (γ 9 0) (γ 11 0) V7).flatten, (w_O0 G (γ 6) (γh 0) Vac VHa).flatten, (w_O2 G (γ 4) Vn).flatten]) hH hK hN [0, 6, 4] rfl (by decide) (kb_fl3 _ _ _) 0 rfl rfl rfl rfl) rfl rfl hl.1 rfl (lv_room (Nat.le_of_ble_eq_true rfl)) dL_law_476 ⟨hcs.1, hcs.2⟩) (fun H locs hH => ?_)
  have hH : HP G A s.heap (LW G γ γh g8 V7 Vr Vg Vga F7.2.2 Va F7.2.1 VHa Vs Vsl VHs Vp Vpt Vt M) H locs := hH
  refine lv_aload_n hx hb dL_law_479 rfl (lv_at hl 1 rfl) ?_
  refine kb_ciC hH hA [12] (Wc := [(w_O8 G g8 M).flatten]) (Wc' := [(w_O8 G g8 F8.2).flatten]) (WS' := (LW G γ γh g8 V7 Vr Vg Vga F7.2.2 Va F7.2.1 VHa Vs Vsl VHs Vp Vpt Vt F8.2)) (Wf := (w_O8 G g8 M)) (Wf' := (w_O8 G g8 F8.2)) rfl (by decide) rfl rfl (kb_fl1 _) (kb_fl1 _) (va_runV (C := RX8) (As := []) (rest := [.int F7.1]) ⟨hx, hb, hml, hown, hts⟩ (c_X8_undo l G g8 M d8 hF8.symm _) (cwV 0 hts hL_X8_undo rfl rfl rfl he_X8_undo ⟨Nat.le_of_ble_eq_true rfl, Nat.le_of_ble_eq_true rfl⟩) (kb_preVC (Wc := [(w_O8 G g8 M).flatten]) hH hK hN [12] rfl (by decide) (kb_fl1 _) 12 rfl rfl rfl rfl) rfl rfl hl.1 rfl (lv_room (Nat.le_of_ble_eq_true rfl)) dL_law_480 ⟨hcs.1, hcs.2⟩) (fun H locs hH => ?_)
  have hH : HP G A s.heap (LW G γ γh g8 V7 Vr Vg Vga F7.2.2 Va F7.2.1 VHa Vs Vsl VHs Vp Vpt Vt F8.2) H locs := hH
  refine lv_icmp_eq (tgt := 1009) hx hb dL_law_483 (by decide) (fun _ => ?_) (fun c2 => absurd e c2)
  exact kk _ _ ⟨_, _, V7, Vr, Vg, Vga, F7.2.2, Va, F7.2.1, VHa, Vs, Vsl, VHs, Vp, Vpt, Vt, F8.2, (RLN_mono (Nat.le_succ T) hR2), hH⟩
set_option maxHeartbeats 4000000 in
set_option maxRecDepth 100000 in
theorem law_14 {p : Program} {l : Launch} {e : Env} {s : State} {m : MethodId} {below : List Frame} {meth : Method} {c : Code} {H : Heap} {locs : List Loc} {cells slots : Nat} {Q : State → Prop} {ls : Array Slot} {G : Ge} {A : Nat → Prop} {b L : Nat} {xs : Nat → Int32} {γ : Nat → Nat → Nat} {γh : Nat → Nat → Nat → Nat} {g8 : Nat → Nat} {i T : Nat} (C : LC p s m c b L xs G A) (h1 : vp_in (nI i + 1) L) (h2 : vp_in (nI i + 2) L) (h3 : vp_in (nI i + 3) L) (hT : T < 2 ^ 31) (hcs : cells ≤ room_1.cells ∧ slots ≤ room_1.slots) (hl : lv_has ls 4 [(3, .int (nI i)), (2, .ref (g8 0)), (1, .ref (γ 0 0)), (0, .ref b)]) (hI : LINV G γ γh g8 A s.heap T H locs)
    (kk : ∀ (H1 : Heap) (locs1 : List Loc), LINV G γ γh g8 A s.heap (T + 1) H1 locs1 → W p l e room_1 s m #[Value.ref b] below meth c H1 locs1 cells slots Q (F0 m 1009 ls [])) : W p l e room_1 s m #[Value.ref b] below meth c H locs cells slots Q (F0 m 488 ls []) := by
  obtain ⟨hx, hb, hml, hown, hts, hK, hN, hX, hbl, hbA, hA⟩ := C
  obtain ⟨co, wn, V7, Vr, Vg, Vga, Vn, Va, Vac, VHa, Vs, Vsl, VHs, Vp, Vpt, Vt, M, hR, hH⟩ := hI
  refine lv_aload_n hx hb dL_law_488 rfl (lv_at hl 2 rfl) ?_
  refine lv_aload_n hx hb dL_law_489 rfl (lv_at hl 3 rfl) ?_
  refine lv_iload_n hx hb dL_law_490 rfl (lv_at hl 0 rfl) ?_
  refine lv_iconst (v := 1) hx hb dL_law_491 (by decide) ?_
  refine lv_iadd hx hb dL_law_492 ?_
  refine va_sld hx hb hX hbl hbA hH.2.2 h1 dL_law_493 ?_
  have r := r_under hR (xs (nI i + 1).toNatClampNeg)
  obtain ⟨F7, hF7⟩ : ∃ z, z = f_X7_under V7 Va Vn (xs (nI i + 1).toNatClampNeg) := ⟨_, rfl⟩
  obtain ⟨F8, hF8⟩ : ∃ z, z = f_X8_under M (xs (nI i + 1).toNatClampNeg) := ⟨_, rfl⟩
  rw [← hF7, ← hF8] at r
  obtain ⟨d8, e⟩ := r
  refine kb_ciC hH hA [0, 5, 4] (Wc := [(w_O7 G (γ 0) (γ 1 0) (γ 4 0) (γ 5 0) (γ 6 0) (γ 7 0) (γ 8 0) (γ 9 0) (γ 11 0) V7).flatten, (w_O1 G (γ 5) Va).flatten, (w_O2 G (γ 4) Vn).flatten]) (Wc' := [(w_O7 G (γ 0) (γ 1 0) (γ 4 0) (γ 5 0) (γ 6 0) (γ 7 0) (γ 8 0) (γ 9 0) (γ 11 0) V7).flatten, (w_O1 G (γ 5) Va).flatten, (w_O2 G (γ 4) Vn).flatten]) (WS' := (LW G γ γh g8 V7 Vr Vg Vga Vn Va Vac VHa Vs Vsl VHs Vp Vpt Vt M)) (Wf := (w_O7 G (γ 0) (γ 1 0) (γ 4 0) (γ 5 0) (γ 6 0) (γ 7 0) (γ 8 0) (γ 9 0) (γ 11 0) V7 ++ w_O1 G (γ 5) Va ++ w_O2 G (γ 4) Vn)) (Wf' := (w_O7 G (γ 0) (γ 1 0) (γ 4 0) (γ 5 0) (γ 6 0) (γ 7 0) (γ 8 0) (γ 9 0) (γ 11 0) V7 ++ w_O1 G (γ 5) Va ++ w_O2 G (γ 4) Vn)) rfl (by decide) rfl rfl (kb_fl3 _ _ _) (kb_fl3 _ _ _) (va_runV (C := RX7) (As := [.int (xs (nI i + 1).toNatClampNeg)]) (rest := []) ⟨hx, hb, hml, hown, hts⟩ (c_X7_under l G (γ 0) (γ 1 0) (γ 6 0) (γ 7 0) (γ 8 0) (γ 9 0) (γ 11 0) V7 (γ 5) Va (γ 4) Vn (xs (nI i + 1).toNatClampNeg) hF7.symm _) (cwV 1 hts hL_X7_under rfl rfl rfl he_X7_under ⟨Nat.le_of_ble_eq_true rfl, Nat.le_of_ble_eq_true rfl⟩) (kb_preVC (Wc := [(w_O7 G (γ 0) (γ 1 0) (γ 4 0) (γ 5 0) (γ 6 0) (γ 7 0) (γ 8 0) (γ 9 0) (γ 11 0) V7).flatten, (w_O1 G (γ 5) Va).flatten, (w_O2 G (γ 4) Vn).flatten]) hH hK hN [0, 5, 4] rfl (by decide) (kb_fl3 _ _ _) 0 rfl rfl rfl rfl) rfl rfl hl.1 rfl (lv_room (Nat.le_of_ble_eq_true rfl)) dL_law_494 ⟨hcs.1, hcs.2⟩) (fun H locs hH => ?_)
  have hH : HP G A s.heap (LW G γ γh g8 V7 Vr Vg Vga Vn Va Vac VHa Vs Vsl VHs Vp Vpt Vt M) H locs := hH
  refine lv_aload_n hx hb dL_law_497 rfl (lv_at hl 1 rfl) ?_
  refine lv_aload_n hx hb dL_law_498 rfl (lv_at hl 3 rfl) ?_
  refine lv_iload_n hx hb dL_law_499 rfl (lv_at hl 0 rfl) ?_
  refine lv_iconst (v := 1) hx hb dL_law_500 (by decide) ?_
  refine lv_iadd hx hb dL_law_501 ?_
  refine va_sld hx hb hX hbl hbA hH.2.2 h1 dL_law_502 ?_
  refine kb_ciC hH hA [12] (Wc := [(w_O8 G g8 M).flatten]) (Wc' := [(w_O8 G g8 M).flatten]) (WS' := (LW G γ γh g8 V7 Vr Vg Vga Vn Va Vac VHa Vs Vsl VHs Vp Vpt Vt M)) (Wf := (w_O8 G g8 M)) (Wf' := (w_O8 G g8 M)) rfl (by decide) rfl rfl (kb_fl1 _) (kb_fl1 _) (va_runV (C := RX8) (As := [.int (xs (nI i + 1).toNatClampNeg)]) (rest := [.int F7]) ⟨hx, hb, hml, hown, hts⟩ (c_X8_under l G g8 M (xs (nI i + 1).toNatClampNeg) d8 hF8.symm _) (cwV 1 hts hL_X8_under rfl rfl rfl he_X8_under ⟨Nat.le_of_ble_eq_true rfl, Nat.le_of_ble_eq_true rfl⟩) (kb_preVC (Wc := [(w_O8 G g8 M).flatten]) hH hK hN [12] rfl (by decide) (kb_fl1 _) 12 rfl rfl rfl rfl) rfl rfl hl.1 rfl (lv_room (Nat.le_of_ble_eq_true rfl)) dL_law_503 ⟨hcs.1, hcs.2⟩) (fun H locs hH => ?_)
  have hH : HP G A s.heap (LW G γ γh g8 V7 Vr Vg Vga Vn Va Vac VHa Vs Vsl VHs Vp Vpt Vt M) H locs := hH
  refine lv_icmp_eq (tgt := 1009) hx hb dL_law_506 (by decide) (fun _ => ?_) (fun c2 => absurd e c2)
  exact kk _ _ ⟨_, _, V7, Vr, Vg, Vga, Vn, Va, Vac, VHa, Vs, Vsl, VHs, Vp, Vpt, Vt, M, (RLN_mono (Nat.le_succ T) hR), hH⟩
set_option maxHeartbeats 4000000 in
set_option maxRecDepth 100000 in
theorem law_15 {p : Program} {l : Launch} {e : Env} {s : State} {m : MethodId} {below : List Frame} {meth : Method} {c : Code} {H : Heap} {locs : List Loc} {cells slots : Nat} {Q : State → Prop} {ls : Array Slot} {G : Ge} {A : Nat → Prop} {b L : Nat} {xs : Nat → Int32} {γ : Nat → Nat → Nat} {γh : Nat → Nat → Nat → Nat} {g8 : Nat → Nat} {i T : Nat} (C : LC p s m c b L xs G A) (h1 : vp_in (nI i + 1) L) (h2 : vp_in (nI i + 2) L) (h3 : vp_in (nI i + 3) L) (hT : T < 2 ^ 31) (hcs : cells ≤ room_1.cells ∧ slots ≤ room_1.slots) (hl : lv_has ls 4 [(3, .int (nI i)), (2, .ref (g8 0)), (1, .ref (γ 0 0)), (0, .ref b)]) (hI : LINV G γ γh g8 A s.heap T H locs)
    (kk : ∀ (H1 : Heap) (locs1 : List Loc), LINV G γ γh g8 A s.heap (T + 1) H1 locs1 → W p l e room_1 s m #[Value.ref b] below meth c H1 locs1 cells slots Q (F0 m 1009 ls [])) : W p l e room_1 s m #[Value.ref b] below meth c H locs cells slots Q (F0 m 511 ls []) := by
  obtain ⟨hx, hb, hml, hown, hts, hK, hN, hX, hbl, hbA, hA⟩ := C
  obtain ⟨co, wn, V7, Vr, Vg, Vga, Vn, Va, Vac, VHa, Vs, Vsl, VHs, Vp, Vpt, Vt, M, hR, hH⟩ := hI
  refine lv_aload_n hx hb dL_law_511 rfl (lv_at hl 2 rfl) ?_
  refine lv_aload_n hx hb dL_law_512 rfl (lv_at hl 3 rfl) ?_
  refine lv_iload_n hx hb dL_law_513 rfl (lv_at hl 0 rfl) ?_
  refine lv_iconst (v := 1) hx hb dL_law_514 (by decide) ?_
  refine lv_iadd hx hb dL_law_515 ?_
  refine va_sld hx hb hX hbl hbA hH.2.2 h1 dL_law_516 ?_
  have r := r_year hR (xs (nI i + 1).toNatClampNeg)
  obtain ⟨F7, hF7⟩ : ∃ z, z = f_X7_year V7 Va Vn (xs (nI i + 1).toNatClampNeg) := ⟨_, rfl⟩
  obtain ⟨F8, hF8⟩ : ∃ z, z = f_X8_year M (xs (nI i + 1).toNatClampNeg) := ⟨_, rfl⟩
  rw [← hF7, ← hF8] at r
  obtain ⟨d8, e⟩ := r
  refine kb_ciC hH hA [0, 5, 4] (Wc := [(w_O7 G (γ 0) (γ 1 0) (γ 4 0) (γ 5 0) (γ 6 0) (γ 7 0) (γ 8 0) (γ 9 0) (γ 11 0) V7).flatten, (w_O1 G (γ 5) Va).flatten, (w_O2 G (γ 4) Vn).flatten]) (Wc' := [(w_O7 G (γ 0) (γ 1 0) (γ 4 0) (γ 5 0) (γ 6 0) (γ 7 0) (γ 8 0) (γ 9 0) (γ 11 0) V7).flatten, (w_O1 G (γ 5) Va).flatten, (w_O2 G (γ 4) Vn).flatten]) (WS' := (LW G γ γh g8 V7 Vr Vg Vga Vn Va Vac VHa Vs Vsl VHs Vp Vpt Vt M)) (Wf := (w_O7 G (γ 0) (γ 1 0) (γ 4 0) (γ 5 0) (γ 6 0) (γ 7 0) (γ 8 0) (γ 9 0) (γ 11 0) V7 ++ w_O1 G (γ 5) Va ++ w_O2 G (γ 4) Vn)) (Wf' := (w_O7 G (γ 0) (γ 1 0) (γ 4 0) (γ 5 0) (γ 6 0) (γ 7 0) (γ 8 0) (γ 9 0) (γ 11 0) V7 ++ w_O1 G (γ 5) Va ++ w_O2 G (γ 4) Vn)) rfl (by decide) rfl rfl (kb_fl3 _ _ _) (kb_fl3 _ _ _) (va_runV (C := RX7) (As := [.int (xs (nI i + 1).toNatClampNeg)]) (rest := []) ⟨hx, hb, hml, hown, hts⟩ (c_X7_year l G (γ 0) (γ 1 0) (γ 6 0) (γ 7 0) (γ 8 0) (γ 9 0) (γ 11 0) V7 (γ 5) Va (γ 4) Vn (xs (nI i + 1).toNatClampNeg) hF7.symm _) (cwV 1 hts hL_X7_year rfl rfl rfl he_X7_year ⟨Nat.le_of_ble_eq_true rfl, Nat.le_of_ble_eq_true rfl⟩) (kb_preVC (Wc := [(w_O7 G (γ 0) (γ 1 0) (γ 4 0) (γ 5 0) (γ 6 0) (γ 7 0) (γ 8 0) (γ 9 0) (γ 11 0) V7).flatten, (w_O1 G (γ 5) Va).flatten, (w_O2 G (γ 4) Vn).flatten]) hH hK hN [0, 5, 4] rfl (by decide) (kb_fl3 _ _ _) 0 rfl rfl rfl rfl) rfl rfl hl.1 rfl (lv_room (Nat.le_of_ble_eq_true rfl)) dL_law_517 ⟨hcs.1, hcs.2⟩) (fun H locs hH => ?_)
  have hH : HP G A s.heap (LW G γ γh g8 V7 Vr Vg Vga Vn Va Vac VHa Vs Vsl VHs Vp Vpt Vt M) H locs := hH
  refine lv_aload_n hx hb dL_law_520 rfl (lv_at hl 1 rfl) ?_
  refine lv_aload_n hx hb dL_law_521 rfl (lv_at hl 3 rfl) ?_
  refine lv_iload_n hx hb dL_law_522 rfl (lv_at hl 0 rfl) ?_
  refine lv_iconst (v := 1) hx hb dL_law_523 (by decide) ?_
  refine lv_iadd hx hb dL_law_524 ?_
  refine va_sld hx hb hX hbl hbA hH.2.2 h1 dL_law_525 ?_
  refine kb_ciC hH hA [12] (Wc := [(w_O8 G g8 M).flatten]) (Wc' := [(w_O8 G g8 M).flatten]) (WS' := (LW G γ γh g8 V7 Vr Vg Vga Vn Va Vac VHa Vs Vsl VHs Vp Vpt Vt M)) (Wf := (w_O8 G g8 M)) (Wf' := (w_O8 G g8 M)) rfl (by decide) rfl rfl (kb_fl1 _) (kb_fl1 _) (va_runV (C := RX8) (As := [.int (xs (nI i + 1).toNatClampNeg)]) (rest := [.int F7]) ⟨hx, hb, hml, hown, hts⟩ (c_X8_year l G g8 M (xs (nI i + 1).toNatClampNeg) d8 hF8.symm _) (cwV 1 hts hL_X8_year rfl rfl rfl he_X8_year ⟨Nat.le_of_ble_eq_true rfl, Nat.le_of_ble_eq_true rfl⟩) (kb_preVC (Wc := [(w_O8 G g8 M).flatten]) hH hK hN [12] rfl (by decide) (kb_fl1 _) 12 rfl rfl rfl rfl) rfl rfl hl.1 rfl (lv_room (Nat.le_of_ble_eq_true rfl)) dL_law_526 ⟨hcs.1, hcs.2⟩) (fun H locs hH => ?_)
  have hH : HP G A s.heap (LW G γ γh g8 V7 Vr Vg Vga Vn Va Vac VHa Vs Vsl VHs Vp Vpt Vt M) H locs := hH
  refine lv_icmp_eq (tgt := 1009) hx hb dL_law_529 (by decide) (fun _ => ?_) (fun c2 => absurd e c2)
  exact kk _ _ ⟨_, _, V7, Vr, Vg, Vga, Vn, Va, Vac, VHa, Vs, Vsl, VHs, Vp, Vpt, Vt, M, (RLN_mono (Nat.le_succ T) hR), hH⟩
