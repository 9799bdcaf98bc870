theorem dL_law_350 : decode cL_law 350 = .ok (.aload_n 1, 1) := by decide +kernel
theorem dL_law_351 : decode cL_law 351 = .ok (.aload_n 0, 1) := by decide +kernel
theorem dL_law_352 : decode cL_law 352 = .ok (.iload_n 3, 1) := by decide +kernel
theorem dL_law_353 : decode cL_law 353 = .ok (.iconst 1, 1) := by decide +kernel
theorem dL_law_354 : decode cL_law 354 = .ok (.iadd, 1) := by decide +kernel
theorem dL_law_355 : decode cL_law 355 = .ok (.iaload, 1) := by decide +kernel
theorem dL_law_356 : decode cL_law 356 = .ok (.invokevirtual 48, 3) := by decide +kernel
theorem dL_law_359 : decode cL_law 359 = .ok (.aload_n 2, 1) := by decide +kernel
theorem dL_law_360 : decode cL_law 360 = .ok (.aload_n 0, 1) := by decide +kernel
theorem dL_law_361 : decode cL_law 361 = .ok (.iload_n 3, 1) := by decide +kernel
theorem dL_law_362 : decode cL_law 362 = .ok (.iconst 1, 1) := by decide +kernel
theorem dL_law_363 : decode cL_law 363 = .ok (.iadd, 1) := by decide +kernel
theorem dL_law_364 : decode cL_law 364 = .ok (.iaload, 1) := by decide +kernel
theorem dL_law_365 : decode cL_law 365 = .ok (.invokevirtual 51, 3) := by decide +kernel
theorem dL_law_368 : decode cL_law 368 = .ok (.if_icmp .eq 641, 3) := by decide +kernel
theorem dL_law_373 : decode cL_law 373 = .ok (.aload_n 1, 1) := by decide +kernel
theorem dL_law_374 : decode cL_law 374 = .ok (.aload_n 0, 1) := by decide +kernel
theorem dL_law_375 : decode cL_law 375 = .ok (.iload_n 3, 1) := by decide +kernel
theorem dL_law_376 : decode cL_law 376 = .ok (.iconst 1, 1) := by decide +kernel
theorem dL_law_377 : decode cL_law 377 = .ok (.iadd, 1) := by decide +kernel
theorem dL_law_378 : decode cL_law 378 = .ok (.iaload, 1) := by decide +kernel
theorem dL_law_379 : decode cL_law 379 = .ok (.aload_n 0, 1) := by decide +kernel
theorem dL_law_380 : decode cL_law 380 = .ok (.iload_n 3, 1) := by decide +kernel
theorem dL_law_381 : decode cL_law 381 = .ok (.iconst 2, 1) := by decide +kernel
theorem dL_law_382 : decode cL_law 382 = .ok (.iadd, 1) := by decide +kernel
theorem dL_law_383 : decode cL_law 383 = .ok (.iaload, 1) := by decide +kernel
theorem dL_law_384 : decode cL_law 384 = .ok (.invokevirtual 52, 3) := by decide +kernel
theorem dL_law_387 : decode cL_law 387 = .ok (.aload_n 2, 1) := by decide +kernel
theorem dL_law_388 : decode cL_law 388 = .ok (.aload_n 0, 1) := by decide +kernel
theorem dL_law_389 : decode cL_law 389 = .ok (.iload_n 3, 1) := by decide +kernel
theorem dL_law_390 : decode cL_law 390 = .ok (.iconst 1, 1) := by decide +kernel
theorem dL_law_391 : decode cL_law 391 = .ok (.iadd, 1) := by decide +kernel
theorem dL_law_392 : decode cL_law 392 = .ok (.iaload, 1) := by decide +kernel
theorem dL_law_393 : decode cL_law 393 = .ok (.aload_n 0, 1) := by decide +kernel
theorem dL_law_394 : decode cL_law 394 = .ok (.iload_n 3, 1) := by decide +kernel
theorem dL_law_395 : decode cL_law 395 = .ok (.iconst 2, 1) := by decide +kernel
theorem dL_law_396 : decode cL_law 396 = .ok (.iadd, 1) := by decide +kernel
theorem dL_law_397 : decode cL_law 397 = .ok (.iaload, 1) := by decide +kernel
theorem dL_law_398 : decode cL_law 398 = .ok (.invokevirtual 55, 3) := by decide +kernel
theorem dL_law_401 : decode cL_law 401 = .ok (.if_icmp .eq 608, 3) := by decide +kernel
theorem dL_law_406 : decode cL_law 406 = .ok (.aload_n 1, 1) := by decide +kernel
theorem dL_law_407 : decode cL_law 407 = .ok (.aload_n 0, 1) := by decide +kernel
theorem dL_law_408 : decode cL_law 408 = .ok (.iload_n 3, 1) := by decide +kernel
theorem dL_law_409 : decode cL_law 409 = .ok (.iconst 1, 1) := by decide +kernel
theorem dL_law_410 : decode cL_law 410 = .ok (.iadd, 1) := by decide +kernel
theorem dL_law_411 : decode cL_law 411 = .ok (.iaload, 1) := by decide +kernel
theorem dL_law_412 : decode cL_law 412 = .ok (.invokevirtual 56, 3) := by decide +kernel
theorem dL_law_415 : decode cL_law 415 = .ok (.aload_n 2, 1) := by decide +kernel
theorem dL_law_416 : decode cL_law 416 = .ok (.aload_n 0, 1) := by decide +kernel
theorem dL_law_417 : decode cL_law 417 = .ok (.iload_n 3, 1) := by decide +kernel
theorem dL_law_418 : decode cL_law 418 = .ok (.iconst 1, 1) := by decide +kernel
theorem dL_law_419 : decode cL_law 419 = .ok (.iadd, 1) := by decide +kernel
theorem dL_law_420 : decode cL_law 420 = .ok (.iaload, 1) := by decide +kernel
theorem dL_law_421 : decode cL_law 421 = .ok (.invokevirtual 59, 3) := by decide +kernel
theorem dL_law_424 : decode cL_law 424 = .ok (.if_icmp .eq 585, 3) := by decide +kernel
theorem dL_law_429 : decode cL_law 429 = .ok (.aload_n 1, 1) := by decide +kernel
theorem dL_law_430 : decode cL_law 430 = .ok (.aload_n 0, 1) := by decide +kernel
theorem dL_law_431 : decode cL_law 431 = .ok (.iload_n 3, 1) := by decide +kernel
theorem dL_law_432 : decode cL_law 432 = .ok (.iconst 1, 1) := by decide +kernel
theorem dL_law_433 : decode cL_law 433 = .ok (.iadd, 1) := by decide +kernel
theorem dL_law_434 : decode cL_law 434 = .ok (.iaload, 1) := by decide +kernel
theorem dL_law_435 : decode cL_law 435 = .ok (.invokevirtual 60, 3) := by decide +kernel
theorem dL_law_438 : decode cL_law 438 = .ok (.aload_n 2, 1) := by decide +kernel
theorem dL_law_439 : decode cL_law 439 = .ok (.aload_n 0, 1) := by decide +kernel
theorem dL_law_440 : decode cL_law 440 = .ok (.iload_n 3, 1) := by decide +kernel
theorem dL_law_441 : decode cL_law 441 = .ok (.iconst 1, 1) := by decide +kernel
theorem dL_law_442 : decode cL_law 442 = .ok (.iadd, 1) := by decide +kernel
theorem dL_law_443 : decode cL_law 443 = .ok (.iaload, 1) := by decide +kernel
theorem dL_law_444 : decode cL_law 444 = .ok (.invokevirtual 63, 3) := by decide +kernel
theorem dL_law_447 : decode cL_law 447 = .ok (.if_icmp .eq 562, 3) := by decide +kernel
set_option maxHeartbeats 4000000 in
set_option maxRecDepth 100000 in
theorem law_8 {p : Program} {l : Launch} {e : Env} {s : State} {m : MethodId} {below : List Frame} {meth : Method} {c : Code} {H : Heap} {locs : List Loc} {cells slots : Nat} {Q : State → Prop} {ls : Array Slot} {G : Ge} {A : Nat → Prop} {b L : Nat} {xs : Nat → Int32} {γ : Nat → Nat → Nat} {γh : Nat → Nat → Nat → Nat} {g8 : Nat → Nat} {i T : Nat} (C : LC p s m c b L xs G A) (h1 : vp_in (nI i + 1) L) (h2 : vp_in (nI i + 2) L) (h3 : vp_in (nI i + 3) L) (hT : T < 2 ^ 31) (hcs : cells ≤ room_1.cells ∧ slots ≤ room_1.slots) (hl : lv_has ls 4 [(3, .int (nI i)), (2, .ref (g8 0)), (1, .ref (γ 0 0)), (0, .ref b)]) (hI : LINV G γ γh g8 A s.heap T H locs)
    (kk : ∀ (H1 : Heap) (locs1 : List Loc), LINV G γ γh g8 A s.heap (T + 1) H1 locs1 → W p l e room_1 s m #[Value.ref b] below meth c H1 locs1 cells slots Q (F0 m 1009 ls [])) : W p l e room_1 s m #[Value.ref b] below meth c H locs cells slots Q (F0 m 350 ls []) := by
  obtain ⟨hx, hb, hml, hown, hts, hK, hN, hX, hbl, hbA, hA⟩ := C
  obtain ⟨co, wn, V7, Vr, Vg, Vga, Vn, Va, Vac, VHa, Vs, Vsl, VHs, Vp, Vpt, Vt, M, hR, hH⟩ := hI
  refine lv_aload_n hx hb dL_law_350 rfl (lv_at hl 2 rfl) ?_
  refine lv_aload_n hx hb dL_law_351 rfl (lv_at hl 3 rfl) ?_
  refine lv_iload_n hx hb dL_law_352 rfl (lv_at hl 0 rfl) ?_
  refine lv_iconst (v := 1) hx hb dL_law_353 (by decide) ?_
  refine lv_iadd hx hb dL_law_354 ?_
  refine va_sld hx hb hX hbl hbA hH.2.2 h1 dL_law_355 ?_
  have r := r_fell hR (xs (nI i + 1).toNatClampNeg)
  obtain ⟨F7, hF7⟩ : ∃ z, z = f_X7_fell V7 Vn Vac VHa (xs (nI i + 1).toNatClampNeg) := ⟨_, rfl⟩
  obtain ⟨F8, hF8⟩ : ∃ z, z = f_X8_fell M (xs (nI i + 1).toNatClampNeg) := ⟨_, rfl⟩
  rw [← hF7, ← hF8] at r
  obtain ⟨d8, e, hR2⟩ := r
  refine kb_ciC hH hA [0, 4, 6] (Wc := [(w_O7 G (γ 0) (γ 1 0) (γ 4 0) (γ 5 0) (γ 6 0) (γ 7 0) (γ 8 0) (γ 9 0) (γ 11 0) V7).flatten, (w_O2 G (γ 4) Vn).flatten, (w_O0 G (γ 6) (γh 0) Vac VHa).flatten]) (Wc' := [(w_O7 G (γ 0) (γ 1 0) (γ 4 0) (γ 5 0) (γ 6 0) (γ 7 0) (γ 8 0) (γ 9 0) (γ 11 0) V7).flatten, (w_O2 G (γ 4) F7.2.1).flatten, (w_O0 G (γ 6) (γh 0) F7.2.2.1 F7.2.2.2).flatten]) (WS' := (LW G γ γh g8 V7 Vr Vg Vga F7.2.1 Va F7.2.2.1 F7.2.2.2 Vs Vsl VHs Vp Vpt Vt M)) (Wf := (w_O7 G (γ 0) (γ 1 0) (γ 4 0) (γ 5 0) (γ 6 0) (γ 7 0) (γ 8 0) (γ 9 0) (γ 11 0) V7 ++ w_O2 G (γ 4) Vn ++ w_O0 G (γ 6) (γh 0) Vac VHa)) (Wf' := (w_O7 G (γ 0) (γ 1 0) (γ 4 0) (γ 5 0) (γ 6 0) (γ 7 0) (γ 8 0) (γ 9 0) (γ 11 0) V7 ++ w_O2 G (γ 4) F7.2.1 ++ w_O0 G (γ 6) (γh 0) F7.2.2.1 F7.2.2.2)) rfl (by decide) rfl rfl (kb_fl3 _ _ _) (kb_fl3 _ _ _) (va_runV (C := RX7) (As := [.int (xs (nI i + 1).toNatClampNeg)]) (rest := []) ⟨hx, hb, hml, hown, hts⟩ (c_X7_fell l G (γ 0) (γ 1 0) (γ 5 0) (γ 7 0) (γ 8 0) (γ 9 0) (γ 11 0) V7 (γ 4) Vn (γ 6) (γh 0) Vac VHa (xs (nI i + 1).toNatClampNeg) hF7.symm _) (cwV 1 hts hL_X7_fell rfl rfl rfl he_X7_fell ⟨Nat.le_of_ble_eq_true rfl, Nat.le_of_ble_eq_true rfl⟩) (kb_preVC (Wc := [(w_O7 G (γ 0) (γ 1 0) (γ 4 0) (γ 5 0) (γ 6 0) (γ 7 0) (γ 8 0) (γ 9 0) (γ 11 0) V7).flatten, (w_O2 G (γ 4) Vn).flatten, (w_O0 G (γ 6) (γh 0) Vac VHa).flatten]) hH hK hN [0, 4, 6] rfl (by decide) (kb_fl3 _ _ _) 0 rfl rfl rfl rfl) rfl rfl hl.1 rfl (lv_room (Nat.le_of_ble_eq_true rfl)) dL_law_356 ⟨hcs.1, hcs.2⟩) (fun H locs hH => ?_)
  have hH : HP G A s.heap (LW G γ γh g8 V7 Vr Vg Vga F7.2.1 Va F7.2.2.1 F7.2.2.2 Vs Vsl VHs Vp Vpt Vt M) H locs := hH
  refine lv_aload_n hx hb dL_law_359 rfl (lv_at hl 1 rfl) ?_
  refine lv_aload_n hx hb dL_law_360 rfl (lv_at hl 3 rfl) ?_
  refine lv_iload_n hx hb dL_law_361 rfl (lv_at hl 0 rfl) ?_
  refine lv_iconst (v := 1) hx hb dL_law_362 (by decide) ?_
  refine lv_iadd hx hb dL_law_363 ?_
  refine va_sld hx hb hX hbl hbA hH.2.2 h1 dL_law_364 ?_
  refine kb_ciC hH hA [12] (Wc := [(w_O8 G g8 M).flatten]) (Wc' := [(w_O8 G g8 F8.2).flatten]) (WS' := (LW G γ γh g8 V7 Vr Vg Vga F7.2.1 Va F7.2.2.1 F7.2.2.2 Vs Vsl VHs Vp Vpt Vt F8.2)) (Wf := (w_O8 G g8 M)) (Wf' := (w_O8 G g8 F8.2)) rfl (by decide) rfl rfl (kb_fl1 _) (kb_fl1 _) (va_runV (C := RX8) (As := [.int (xs (nI i + 1).toNatClampNeg)]) (rest := [.int F7.1]) ⟨hx, hb, hml, hown, hts⟩ (c_X8_fell l G g8 M (xs (nI i + 1).toNatClampNeg) d8 hF8.symm _) (cwV 1 hts hL_X8_fell rfl rfl rfl he_X8_fell ⟨Nat.le_of_ble_eq_true rfl, Nat.le_of_ble_eq_true rfl⟩) (kb_preVC (Wc := [(w_O8 G g8 M).flatten]) hH hK hN [12] rfl (by decide) (kb_fl1 _) 12 rfl rfl rfl rfl) rfl rfl hl.1 rfl (lv_room (Nat.le_of_ble_eq_true rfl)) dL_law_365 ⟨hcs.1, hcs.2⟩) (fun H locs hH => ?_)
  have hH : HP G A s.heap (LW G γ γh g8 V7 Vr Vg Vga F7.2.1 Va F7.2.2.1 F7.2.2.2 Vs Vsl VHs Vp Vpt Vt F8.2) H locs := hH
  refine lv_icmp_eq (tgt := 1009) hx hb dL_law_368 (by decide) (fun _ => ?_) (fun c2 => absurd e c2)
  exact kk _ _ ⟨_, _, V7, Vr, Vg, Vga, F7.2.1, Va, F7.2.2.1, F7.2.2.2, Vs, Vsl, VHs, Vp, Vpt, Vt, F8.2, (RLN_mono (Nat.le_succ T) hR2), hH⟩
set_option maxHeartbeats 4000000 in
set_option maxRecDepth 100000 in
theorem law_9 {p : Program} {l : Launch} {e : Env} {s : State} {m : MethodId} {below : List Frame} {meth : Method} {c : Code} {H : Heap} {locs : List Loc} {cells slots : Nat} {Q : State → Prop} {ls : Array Slot} {G : Ge} {A : Nat → Prop} {b L : Nat} {xs : Nat → Int32} {γ : Nat → Nat → Nat} {γh : Nat → Nat → Nat → Nat} {g8 : Nat → Nat} {i T : Nat} (C : LC p s m c b L xs G A) (h1 : vp_in (nI i + 1) L) (h2 : vp_in (nI i + 2) L) (h3 : vp_in (nI i + 3) L) (hT : T < 2 ^ 31) (hcs : cells ≤ room_1.cells ∧ slots ≤ room_1.slots) (hl : lv_has ls 4 [(3, .int (nI i)), (2, .ref (g8 0)), (1, .ref (γ 0 0)), (0, .ref b)]) (hI : LINV G γ γh g8 A s.heap T H locs)
    (kk : ∀ (H1 : Heap) (locs1 : List Loc), LINV G γ γh g8 A s.heap (T + 1) H1 locs1 → W p l e room_1 s m #[Value.ref b] below meth c H1 locs1 cells slots Q (F0 m 1009 ls [])) : W p l e room_1 s m #[Value.ref b] below meth c H locs cells slots Q (F0 m 373 ls []) := by
  obtain ⟨hx, hb, hml, hown, hts, hK, hN, hX, hbl, hbA, hA⟩ := C
  obtain ⟨co, wn, V7, Vr, Vg, Vga, Vn, Va, Vac, VHa, Vs, Vsl, VHs, Vp, Vpt, Vt, M, hR, hH⟩ := hI
  refine lv_aload_n hx hb dL_law_373 rfl (lv_at hl 2 rfl) ?_
  refine lv_aload_n hx hb dL_law_374 rfl (lv_at hl 3 rfl) ?_
  refine lv_iload_n hx hb dL_law_375 rfl (lv_at hl 0 rfl) ?_
  refine lv_iconst (v := 1) hx hb dL_law_376 (by decide) ?_
  refine lv_iadd hx hb dL_law_377 ?_
  refine va_sld hx hb hX hbl hbA hH.2.2 h1 dL_law_378 ?_
  refine lv_aload_n hx hb dL_law_379 rfl (lv_at hl 3 rfl) ?_
  refine lv_iload_n hx hb dL_law_380 rfl (lv_at hl 0 rfl) ?_
  refine lv_iconst (v := 2) hx hb dL_law_381 (by decide) ?_
  refine lv_iadd hx hb dL_law_382 ?_
  refine va_sld hx hb hX hbl hbA hH.2.2 h2 dL_law_383 ?_
  have r := r_move hR (xs (nI i + 1).toNatClampNeg) (xs (nI i + 2).toNatClampNeg)
  obtain ⟨F7, hF7⟩ : ∃ z, z = f_X7_move V7 Vn Vac VHa (xs (nI i + 1).toNatClampNeg) (xs (nI i + 2).toNatClampNeg) := ⟨_, rfl⟩
  obtain ⟨F8, hF8⟩ : ∃ z, z = f_X8_move M (xs (nI i + 1).toNatClampNeg) (xs (nI i + 2).toNatClampNeg) := ⟨_, rfl⟩
  rw [← hF7, ← hF8] at r
  obtain ⟨d8, e, hR2⟩ := r
  refine kb_ciC hH hA [0, 4, 6] (Wc := [(w_O7 G (γ 0) (γ 1 0) (γ 4 0) (γ 5 0) (γ 6 0) (γ 7 0) (γ 8 0) (γ 9 0) (γ 11 0) V7).flatten, (w_O2 G (γ 4) Vn).flatten, (w_O0 G (γ 6) (γh 0) Vac VHa).flatten]) (Wc' := [(w_O7 G (γ 0) (γ 1 0) (γ 4 0) (γ 5 0) (γ 6 0) (γ 7 0) (γ 8 0) (γ 9 0) (γ 11 0) V7).flatten, (w_O2 G (γ 4) F7.2.1).flatten, (w_O0 G (γ 6) (γh 0) F7.2.2.1 F7.2.2.2).flatten]) (WS' := (LW G γ γh g8 V7 Vr Vg Vga F7.2.1 Va F7.2.2.1 F7.2.2.2 Vs Vsl VHs Vp Vpt Vt M)) (Wf := (w_O7 G (γ 0) (γ 1 0) (γ 4 0) (γ 5 0) (γ 6 0) (γ 7 0) (γ 8 0) (γ 9 0) (γ 11 0) V7 ++ w_O2 G (γ 4) Vn ++ w_O0 G (γ 6) (γh 0) Vac VHa)) (Wf' := (w_O7 G (γ 0) (γ 1 0) (γ 4 0) (γ 5 0) (γ 6 0) (γ 7 0) (γ 8 0) (γ 9 0) (γ 11 0) V7 ++ w_O2 G (γ 4) F7.2.1 ++ w_O0 G (γ 6) (γh 0) F7.2.2.1 F7.2.2.2)) rfl (by decide) rfl rfl (kb_fl3 _ _ _) (kb_fl3 _ _ _) (va_runV (C := RX7) (As := [.int (xs (nI i + 1).toNatClampNeg), .int (xs (nI i + 2).toNatClampNeg)]) (rest := []) ⟨hx, hb, hml, hown, hts⟩ (c_X7_move l G (γ 0) (γ 1 0) (γ 5 0) (γ 7 0) (γ 8 0) (γ 9 0) (γ 11 0) V7 (γ 4) Vn (γ 6) (γh 0) Vac VHa (xs (nI i + 1).toNatClampNeg) (xs (nI i + 2).toNatClampNeg) hF7.symm _) (cwV 2 hts hL_X7_move rfl rfl rfl he_X7_move ⟨Nat.le_of_ble_eq_true rfl, Nat.le_of_ble_eq_true rfl⟩) (kb_preVC (Wc := [(w_O7 G (γ 0) (γ 1 0) (γ 4 0) (γ 5 0) (γ 6 0) (γ 7 0) (γ 8 0) (γ 9 0) (γ 11 0) V7).flatten, (w_O2 G (γ 4) Vn).flatten, (w_O0 G (γ 6) (γh 0) Vac VHa).flatten]) hH hK hN [0, 4, 6] rfl (by decide) (kb_fl3 _ _ _) 0 rfl rfl rfl rfl) rfl rfl hl.1 rfl (lv_room (Nat.le_of_ble_eq_true rfl)) dL_law_384 ⟨hcs.1, hcs.2⟩) (fun H locs hH => ?_)
  have hH : HP G A s.heap (LW G γ γh g8 V7 Vr Vg Vga F7.2.1 Va F7.2.2.1 F7.2.2.2 Vs Vsl VHs Vp Vpt Vt M) H locs := hH
  refine lv_aload_n hx hb dL_law_387 rfl (lv_at hl 1 rfl) ?_
  refine lv_aload_n hx hb dL_law_388 rfl (lv_at hl 3 rfl) ?_
  refine lv_iload_n hx hb dL_law_389 rfl (lv_at hl 0 rfl) ?_
  refine lv_iconst (v := 1) hx hb dL_law_390 (by decide) ?_
  refine lv_iadd hx hb dL_law_391 ?_
  refine va_sld hx hb hX hbl hbA hH.2.2 h1 dL_law_392 ?_
  refine lv_aload_n hx hb dL_law_393 rfl (lv_at hl 3 rfl) ?_
  refine lv_iload_n hx hb dL_law_394 rfl (lv_at hl 0 rfl) ?_
  refine lv_iconst (v := 2) hx hb dL_law_395 (by decide) ?_
  refine lv_iadd hx hb dL_law_396 ?_
  refine va_sld hx hb hX hbl hbA hH.2.2 h2 dL_law_397 ?_
  refine kb_ciC hH hA [12] (Wc := [(w_O8 G g8 M).flatten]) (Wc' := [(w_O8 G g8 F8.2).flatten]) (WS' := (LW G γ γh g8 V7 Vr Vg Vga F7.2.1 Va F7.2.2.1 F7.2.2.2 Vs Vsl VHs Vp Vpt Vt F8.2)) (Wf := (w_O8 G g8 M)) (Wf' := (w_O8 G g8 F8.2)) rfl (by decide) rfl rfl (kb_fl1 _) (kb_fl1 _) (va_runV (C := RX8) (As := [.int (xs (nI i + 1).toNatClampNeg), .int (xs (nI i + 2).toNatClampNeg)]) (rest := [.int F7.1]) ⟨hx, hb, hml, hown, hts⟩ (c_X8_move l G g8 M (xs (nI i + 1).toNatClampNeg) (xs (nI i + 2).toNatClampNeg) d8 hF8.symm _) (cwV 2 hts hL_X8_move rfl rfl rfl he_X8_move ⟨Nat.le_of_ble_eq_true rfl, Nat.le_of_ble_eq_true rfl⟩) (kb_preVC (Wc := [(w_O8 G g8 M).flatten]) hH hK hN [12] rfl (by decide) (kb_fl1 _) 12 rfl rfl rfl rfl) rfl rfl hl.1 rfl (lv_room (Nat.le_of_ble_eq_true rfl)) dL_law_398 ⟨hcs.1, hcs.2⟩) (fun H locs hH => ?_)
  have hH : HP G A s.heap (LW G γ γh g8 V7 Vr Vg Vga F7.2.1 Va F7.2.2.1 F7.2.2.2 Vs Vsl VHs Vp Vpt Vt F8.2) H locs := hH
  refine lv_icmp_eq (tgt := 1009) hx hb dL_law_401 (by decide) (fun _ => ?_) (fun c2 => absurd e c2)
  exact kk _ _ ⟨_, _, V7, Vr, Vg, Vga, F7.2.1, Va, F7.2.2.1, F7.2.2.2, Vs, Vsl, VHs, Vp, Vpt, Vt, F8.2, (RLN_mono (Nat.le_succ T) hR2), hH⟩
set_option maxHeartbeats 4000000 in
set_option maxRecDepth 100000 in
theorem law_10 {p : Program} {l : Launch} {e : Env} {s : State} {m : MethodId} {below : List Frame} {meth : Method} {c : Code} {H : Heap} {locs : List Loc} {cells slots : Nat} {Q : State → Prop} {ls : Array Slot} {G : Ge} {A : Nat → Prop} {b L : Nat} {xs : Nat → Int32} {γ : Nat → Nat → Nat} {γh : Nat → Nat → Nat → Nat} {g8 : Nat → Nat} {i T : Nat} (C : LC p s m c b L xs G A) (h1 : vp_in (nI i + 1) L) (h2 : vp_in (nI i + 2) L) (h3 : vp_in (nI i + 3) L) (hT : T < 2 ^ 31) (hcs : cells ≤ room_1.cells ∧ slots ≤ room_1.slots) (hl : lv_has ls 4 [(3, .int (nI i)), (2, .ref (g8 0)), (1, .ref (γ 0 0)), (0, .ref b)]) (hI : LINV G γ γh g8 A s.heap T H locs)
    (kk : ∀ (H1 : Heap) (locs1 : List Loc), LINV G γ γh g8 A s.heap (T + 1) H1 locs1 → W p l e room_1 s m #[Value.ref b] below meth c H1 locs1 cells slots Q (F0 m 1009 ls [])) : W p l e room_1 s m #[Value.ref b] below meth c H locs cells slots Q (F0 m 406 ls []) := by
  obtain ⟨hx, hb, hml, hown, hts, hK, hN, hX, hbl, hbA, hA⟩ := C
  obtain ⟨co, wn, V7, Vr, Vg, Vga, Vn, Va, Vac, VHa, Vs, Vsl, VHs, Vp, Vpt, Vt, M, hR, hH⟩ := hI
  refine lv_aload_n hx hb dL_law_406 rfl (lv_at hl 2 rfl) ?_
  refine lv_aload_n hx hb dL_law_407 rfl (lv_at hl 3 rfl) ?_
  refine lv_iload_n hx hb dL_law_408 rfl (lv_at hl 0 rfl) ?_
  refine lv_iconst (v := 1) hx hb dL_law_409 (by decide) ?_
  refine lv_iadd hx hb dL_law_410 ?_
  refine va_sld hx hb hX hbl hbA hH.2.2 h1 dL_law_411 ?_
  have r := r_grease hR (xs (nI i + 1).toNatClampNeg)
  obtain ⟨F7, hF7⟩ : ∃ z, z = f_X7_grease V7 Vn Vac VHa (xs (nI i + 1).toNatClampNeg) := ⟨_, rfl⟩
  obtain ⟨F8, hF8⟩ : ∃ z, z = f_X8_grease M (xs (nI i + 1).toNatClampNeg) := ⟨_, rfl⟩
  rw [← hF7, ← hF8] at r
  obtain ⟨d8, e, hR2⟩ := r
  refine kb_ciC hH hA [0, 4, 6] (Wc := [(w_O7 G (γ 0) (γ 1 0) (γ 4 0) (γ 5 0) (γ 6 0) (γ 7 0) (γ 8 0) (γ 9 0) (γ 11 0) V7).flatten, (w_O2 G (γ 4) Vn).flatten, (w_O0 G (γ 6) (γh 0) Vac VHa).flatten]) (Wc' := [(w_O7 G (γ 0) (γ 1 0) (γ 4 0) (γ 5 0) (γ 6 0) (γ 7 0) (γ 8 0) (γ 9 0) (γ 11 0) V7).flatten, (w_O2 G (γ 4) F7.2.1).flatten, (w_O0 G (γ 6) (γh 0) F7.2.2.1 F7.2.2.2).flatten]) (WS' := (LW G γ γh g8 V7 Vr Vg Vga F7.2.1 Va F7.2.2.1 F7.2.2.2 Vs Vsl VHs Vp Vpt Vt M)) (Wf := (w_O7 G (γ 0) (γ 1 0) (γ 4 0) (γ 5 0) (γ 6 0) (γ 7 0) (γ 8 0) (γ 9 0) (γ 11 0) V7 ++ w_O2 G (γ 4) Vn ++ w_O0 G (γ 6) (γh 0) Vac VHa)) (Wf' := (w_O7 G (γ 0) (γ 1 0) (γ 4 0) (γ 5 0) (γ 6 0) (γ 7 0) (γ 8 0) (γ 9 0) (γ 11 0) V7 ++ w_O2 G (γ 4) F7.2.1 ++ w_O0 G (γ 6) (γh 0) F7.2.2.1 F7.2.2.2)) rfl (by decide) rfl rfl (kb_fl3 _ _ _) (kb_fl3 _ _ _) (va_runV (C := RX7) (As := [.int (xs (nI i + 1).toNatClampNeg)]) (rest := []) ⟨hx, hb, hml, hown, hts⟩ (c_X7_grease l G (γ 0) (γ 1 0) (γ 5 0) (γ 7 0) (γ 8 0) (γ 9 0) (γ 11 0) V7 (γ 4) Vn (γ 6) (γh 0) Vac VHa (xs (nI i + 1).toNatClampNeg) hF7.symm _) (cwV 1 hts hL_X7_grease rfl rfl rfl he_X7_grease ⟨Nat.le_of_ble_eq_true rfl, Nat.le_of_ble_eq_true rfl⟩) (kb_preVC (Wc := [(w_O7 G (γ 0) (γ 1 0) (γ 4 0) (γ 5 0) (γ 6 0) (γ 7 0) (γ 8 0) (γ 9 0) (γ 11 0) V7).flatten, (w_O2 G (γ 4) Vn).flatten, (w_O0 G (γ 6) (γh 0) Vac VHa).flatten]) hH hK hN [0, 4, 6] rfl (by decide) (kb_fl3 _ _ _) 0 rfl rfl rfl rfl) rfl rfl hl.1 rfl (lv_room (Nat.le_of_ble_eq_true rfl)) dL_law_412 ⟨hcs.1, hcs.2⟩) (fun H locs hH => ?_)
  have hH : HP G A s.heap (LW G γ γh g8 V7 Vr Vg Vga F7.2.1 Va F7.2.2.1 F7.2.2.2 Vs Vsl VHs Vp Vpt Vt M) H locs := hH
  refine lv_aload_n hx hb dL_law_415 rfl (lv_at hl 1 rfl) ?_
  refine lv_aload_n hx hb dL_law_416 rfl (lv_at hl 3 rfl) ?_
  refine lv_iload_n hx hb dL_law_417 rfl (lv_at hl 0 rfl) ?_
  refine lv_iconst (v := 1) hx hb dL_law_418 (by decide) ?_
  refine lv_iadd hx hb dL_law_419 ?_
  refine va_sld hx hb hX hbl hbA hH.2.2 h1 dL_law_420 ?_
  refine kb_ciC hH hA [12] (Wc := [(w_O8 G g8 M).flatten]) (Wc' := [(w_O8 G g8 F8.2).flatten]) (WS' := (LW G γ γh g8 V7 Vr Vg Vga F7.2.1 Va F7.2.2.1 F7.2.2.2 Vs Vsl VHs Vp Vpt Vt F8.2)) (Wf := (w_O8 G g8 M)) (Wf' := (w_O8 G g8 F8.2)) rfl (by decide) rfl rfl (kb_fl1 _) (kb_fl1 _) (va_runV (C := RX8) (As := [.int (xs (nI i + 1).toNatClampNeg)]) (rest := [.int F7.1]) ⟨hx, hb, hml, hown, hts⟩ (c_X8_grease l G g8 M (xs (nI i + 1).toNatClampNeg) d8 hF8.symm _) (cwV 1 hts hL_X8_grease rfl rfl rfl he_X8_grease ⟨Nat.le_of_ble_eq_true rfl, Nat.le_of_ble_eq_true rfl⟩) (kb_preVC (Wc := [(w_O8 G g8 M).flatten]) hH hK hN [12] rfl (by decide) (kb_fl1 _) 12 rfl rfl rfl rfl) rfl rfl hl.1 rfl (lv_room (Nat.le_of_ble_eq_true rfl)) dL_law_421 ⟨hcs.1, hcs.2⟩) (fun H locs hH => ?_)
  have hH : HP G A s.heap (LW G γ γh g8 V7 Vr Vg Vga F7.2.1 Va F7.2.2.1 F7.2.2.2 Vs Vsl VHs Vp Vpt Vt F8.2) H locs := hH
  refine lv_icmp_eq (tgt := 1009) hx hb dL_law_424 (by decide) (fun _ => ?_) (fun c2 => absurd e c2)
  exact kk _ _ ⟨_, _, V7, Vr, Vg, Vga, F7.2.1, Va, F7.2.2.1, F7.2.2.2, Vs, Vsl, VHs, Vp, Vpt, Vt, F8.2, (RLN_mono (Nat.le_succ T) hR2), hH⟩
set_option maxHeartbeats 4000000 in
set_option maxRecDepth 100000 in
theorem law_11 {p : Program} {l : Launch} {e : Env} {s : State} {m : MethodId} {below : List Frame} {meth : Method} {c : Code} {H : Heap} {locs : List Loc} {cells slots : Nat} {Q : State → Prop} {ls : Array Slot} {G : Ge} {A : Nat → Prop} {b L : Nat} {xs : Nat → Int32} {γ : Nat → Nat → Nat} {γh : Nat → Nat → Nat → Nat} {g8 : Nat → Nat} {i T : Nat} (C : LC p s m c b L xs G A) (h1 : vp_in (nI i + 1) L) (h2 : vp_in (nI i + 2) L) (h3 : vp_in (nI i + 3) L) (hT : T < 2 ^ 31) (hcs : cells ≤ room_1.cells ∧ slots ≤ room_1.slots) (hl : lv_has ls 4 [(3, .int (nI i)), (2, .ref (g8 0)), (1, .ref (γ 0 0)), (0, .ref b)]) (hI : LINV G γ γh g8 A s.heap T H locs)
    (kk : ∀ (H1 : Heap) (locs1 : List Loc), LINV G γ γh g8 A s.heap (T + 1) H1 locs1 → W p l e room_1 s m #[Value.ref b] below meth c H1 locs1 cells slots Q (F0 m 1009 ls [])) : W p l e room_1 s m #[Value.ref b] below meth c H locs cells slots Q (F0 m 429 ls []) := by
  obtain ⟨hx, hb, hml, hown, hts, hK, hN, hX, hbl, hbA, hA⟩ := C
  obtain ⟨co, wn, V7, Vr, Vg, Vga, Vn, Va, Vac, VHa, Vs, Vsl, VHs, Vp, Vpt, Vt, M, hR, hH⟩ := hI
  refine lv_aload_n hx hb dL_law_429 rfl (lv_at hl 2 rfl) ?_
  refine lv_aload_n hx hb dL_law_430 rfl (lv_at hl 3 rfl) ?_
  refine lv_iload_n hx hb dL_law_431 rfl (lv_at hl 0 rfl) ?_
  refine lv_iconst (v := 1) hx hb dL_law_432 (by decide) ?_
  refine lv_iadd hx hb dL_law_433 ?_
  refine va_sld hx hb hX hbl hbA hH.2.2 h1 dL_law_434 ?_
  have r := r_capture hR (xs (nI i + 1).toNatClampNeg)
  obtain ⟨F7, hF7⟩ : ∃ z, z = f_X7_capture V7 Vn Vac VHa (xs (nI i + 1).toNatClampNeg) := ⟨_, rfl⟩
  obtain ⟨F8, hF8⟩ : ∃ z, z = f_X8_capture M (xs (nI i + 1).toNatClampNeg) := ⟨_, rfl⟩
  rw [← hF7, ← hF8] at r
  obtain ⟨d8, e, hR2⟩ := r
  refine kb_ciC hH hA [0, 4, 6] (Wc := [(w_O7 G (γ 0) (γ 1 0) (γ 4 0) (γ 5 0) (γ 6 0) (γ 7 0) (γ 8 0) (γ 9 0) (γ 11 0) V7).flatten, (w_O2 G (γ 4) Vn).flatten, (w_O0 G (γ 6) (γh 0) Vac VHa).flatten]) (Wc' := [(w_O7 G (γ 0) (γ 1 0) (γ 4 0) (γ 5 0) (γ 6 0) (γ 7 0) (γ 8 0) (γ 9 0) (γ 11 0) V7).flatten, (w_O2 G (γ 4) F7.2.1).flatten, (w_O0 G (γ 6) (γh 0) F7.2.2.1 F7.2.2.2).flatten]) (WS' := (LW G γ γh g8 V7 Vr Vg Vga F7.2.1 Va F7.2.2.1 F7.2.2.2 Vs Vsl VHs Vp Vpt Vt M)) (Wf := (w_O7 G (γ 0) (γ 1 0) (γ 4 0) (γ 5 0) (γ 6 0) (γ 7 0) (γ 8 0) (γ 9 0) (γ 11 0) V7 ++ w_O2 G (γ 4) Vn ++ w_O0 G (γ 6) (γh 0) Vac VHa)) (Wf' := (w_O7 G (γ 0) (γ 1 0) (γ 4 0) (γ 5 0) (γ 6 0) (γ 7 0) (γ 8 0) (γ 9 0) (γ 11 0) V7 ++ w_O2 G (γ 4) F7.2.1 ++ w_O0 G (γ 6) (γh 0) F7.2.2.1 F7.2.2.2)) rfl (by decide) rfl rfl (kb_fl3 _ _ _) (kb_fl3 _ _ _) (va_runV (C := RX7) (As := [.int (xs (nI i + 1).toNatClampNeg)]) (rest := []) ⟨hx, hb, hml, hown, hts⟩ (c_X7_capture l G (γ 0) (γ 1 0) (γ 5 0) (γ 7 0) (γ 8 0) (γ 9 0) (γ 11 0) V7 (γ 4) Vn (γ 6) (γh 0) Vac VHa (xs (nI i + 1).toNatClampNeg) hF7.symm _) (cwV 1 hts hL_X7_capture rfl rfl rfl he_X7_capture ⟨Nat.le_of_ble_eq_true rfl, Nat.le_of_ble_eq_true rfl⟩) (kb_preVC (Wc := [(w_O7 G (γ 0) (γ 1 0) (γ 4 0) (γ 5 0) (γ 6 0) (γ 7 0) (γ 8 0) (γ 9 0) (γ 11 0) V7).flatten, (w_O2 G (γ 4) Vn).flatten, (w_O0 G (γ 6) (γh 0) Vac VHa).flatten]) hH hK hN [0, 4, 6] rfl (by decide) (kb_fl3 _ _ _) 0 rfl rfl rfl rfl) rfl rfl hl.1 rfl (lv_room (Nat.le_of_ble_eq_true rfl)) dL_law_435 ⟨hcs.1, hcs.2⟩) (fun H locs hH => ?_)
  have hH : HP G A s.heap (LW G γ γh g8 V7 Vr Vg Vga F7.2.1 Va F7.2.2.1 F7.2.2.2 Vs Vsl VHs Vp Vpt Vt M) H locs := hH
  refine lv_aload_n hx hb dL_law_438 rfl (lv_at hl 1 rfl) ?_
  refine lv_aload_n hx hb dL_law_439 rfl (lv_at hl 3 rfl) ?_
  refine lv_iload_n hx hb dL_law_440 rfl (lv_at hl 0 rfl) ?_
  refine lv_iconst (v := 1) hx hb dL_law_441 (by decide) ?_
  refine lv_iadd hx hb dL_law_442 ?_
  refine va_sld hx hb hX hbl hbA hH.2.2 h1 dL_law_443 ?_
  refine kb_ciC hH hA [12] (Wc := [(w_O8 G g8 M).flatten]) (Wc' := [(w_O8 G g8 F8.2).flatten]) (WS' := (LW G γ γh g8 V7 Vr Vg Vga F7.2.1 Va F7.2.2.1 F7.2.2.2 Vs Vsl VHs Vp Vpt Vt F8.2)) (Wf := (w_O8 G g8 M)) (Wf' := (w_O8 G g8 F8.2)) rfl (by decide) rfl rfl (kb_fl1 _) (kb_fl1 _) (va_runV (C := RX8) (As := [.int (xs (nI i + 1).toNatClampNeg)]) (rest := [.int F7.1]) ⟨hx, hb, hml, hown, hts⟩ (c_X8_capture l G g8 M (xs (nI i + 1).toNatClampNeg) d8 hF8.symm _) (cwV 1 hts hL_X8_capture rfl rfl rfl he_X8_capture ⟨Nat.le_of_ble_eq_true rfl, Nat.le_of_ble_eq_true rfl⟩) (kb_preVC (Wc := [(w_O8 G g8 M).flatten]) hH hK hN [12] rfl (by decide) (kb_fl1 _) 12 rfl rfl rfl rfl) rfl rfl hl.1 rfl (lv_room (Nat.le_of_ble_eq_true rfl)) dL_law_444 ⟨hcs.1, hcs.2⟩) (fun H locs hH => ?_)
  have hH : HP G A s.heap (LW G γ γh g8 V7 Vr Vg Vga F7.2.1 Va F7.2.2.1 F7.2.2.2 Vs Vsl VHs Vp Vpt Vt F8.2) H locs := hH
  refine lv_icmp_eq (tgt := 1009) hx hb dL_law_447 (by decide) (fun _ => ?_) (fun c2 => absurd e c2)
  exact kk _ _ ⟨_, _, V7, Vr, Vg, Vga, F7.2.1, Va, F7.2.2.1, F7.2.2.2, Vs, Vsl, VHs, Vp, Vpt, Vt, F8.2, (RLN_mono (Nat.le_succ T) hR2), hH⟩
