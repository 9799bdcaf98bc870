theorem dL_law_176 : decode cL_law 176 = .ok (.aload_n 1, 1) := by decide +kernel
theorem dL_law_177 : decode cL_law 177 = .ok (.aload_n 0, 1) := by decide +kernel
theorem dL_law_178 : decode cL_law 178 = .ok (.iload_n 3, 1) := by decide +kernel
theorem dL_law_179 : decode cL_law 179 = .ok (.iconst 1, 1) := by decide +kernel
theorem dL_law_180 : decode cL_law 180 = .ok (.iadd, 1) := by decide +kernel
theorem dL_law_181 : decode cL_law 181 = .ok (.iaload, 1) := by decide +kernel
theorem dL_law_182 : decode cL_law 182 = .ok (.invokevirtual 13, 3) := by decide +kernel
theorem dL_law_185 : decode cL_law 185 = .ok (.aload_n 2, 1) := by decide +kernel
theorem dL_law_186 : decode cL_law 186 = .ok (.aload_n 0, 1) := by decide +kernel
theorem dL_law_187 : decode cL_law 187 = .ok (.iload_n 3, 1) := by decide +kernel
theorem dL_law_188 : decode cL_law 188 = .ok (.iconst 1, 1) := by decide +kernel
theorem dL_law_189 : decode cL_law 189 = .ok (.iadd, 1) := by decide +kernel
theorem dL_law_190 : decode cL_law 190 = .ok (.iaload, 1) := by decide +kernel
theorem dL_law_191 : decode cL_law 191 = .ok (.invokevirtual 17, 3) := by decide +kernel
theorem dL_law_194 : decode cL_law 194 = .ok (.if_icmp .eq 815, 3) := by decide +kernel
theorem dL_law_199 : decode cL_law 199 = .ok (.aload_n 1, 1) := by decide +kernel
theorem dL_law_200 : decode cL_law 200 = .ok (.invokevirtual 18, 3) := by decide +kernel
theorem dL_law_203 : decode cL_law 203 = .ok (.aload_n 2, 1) := by decide +kernel
theorem dL_law_204 : decode cL_law 204 = .ok (.invokevirtual 22, 3) := by decide +kernel
theorem dL_law_207 : decode cL_law 207 = .ok (.if_icmp .eq 802, 3) := by decide +kernel
theorem dL_law_212 : decode cL_law 212 = .ok (.aload_n 1, 1) := by decide +kernel
theorem dL_law_213 : decode cL_law 213 = .ok (.invokevirtual 23, 3) := by decide +kernel
theorem dL_law_216 : decode cL_law 216 = .ok (.aload_n 2, 1) := by decide +kernel
theorem dL_law_217 : decode cL_law 217 = .ok (.invokevirtual 26, 3) := by decide +kernel
theorem dL_law_220 : decode cL_law 220 = .ok (.if_icmp .eq 789, 3) := by decide +kernel
theorem dL_law_225 : decode cL_law 225 = .ok (.aload_n 1, 1) := by decide +kernel
theorem dL_law_226 : decode cL_law 226 = .ok (.invokevirtual 27, 3) := by decide +kernel
theorem dL_law_229 : decode cL_law 229 = .ok (.aload_n 2, 1) := by decide +kernel
theorem dL_law_230 : decode cL_law 230 = .ok (.invokevirtual 30, 3) := by decide +kernel
theorem dL_law_233 : decode cL_law 233 = .ok (.if_icmp .eq 776, 3) := by decide +kernel
set_option maxHeartbeats 4000000 in
set_option maxRecDepth 100000 in
theorem law_0 {p : Program} {l : Launch} {e : Env} {s : State} {m : MethodId} {below : List Frame} {meth : Method} {c : Code} {H : Heap} {locs : List Loc} {cells slots : Nat} {Q : State → Prop} {ls : Array Slot} {G : Ge} {A : Nat → Prop} {b L : Nat} {xs : Nat → Int32} {γ : Nat → Nat → Nat} {γh : Nat → Nat → Nat → Nat} {g8 : Nat → Nat} {i T : Nat} (C : LC p s m c b L xs G A) (h1 : vp_in (nI i + 1) L) (h2 : vp_in (nI i + 2) L) (h3 : vp_in (nI i + 3) L) (hT : T < 2 ^ 31) (hcs : cells ≤ room_1.cells ∧ slots ≤ room_1.slots) (hl : lv_has ls 4 [(3, .int (nI i)), (2, .ref (g8 0)), (1, .ref (γ 0 0)), (0, .ref b)]) (hI : LINV G γ γh g8 A s.heap T H locs)
    (kk : ∀ (H1 : Heap) (locs1 : List Loc), LINV G γ γh g8 A s.heap (T + 1) H1 locs1 → W p l e room_1 s m #[Value.ref b] below meth c H1 locs1 cells slots Q (F0 m 1009 ls [])) : W p l e room_1 s m #[Value.ref b] below meth c H locs cells slots Q (F0 m 176 ls []) := by
  obtain ⟨hx, hb, hml, hown, hts, hK, hN, hX, hbl, hbA, hA⟩ := C
  obtain ⟨co, wn, V7, Vr, Vg, Vga, Vn, Va, Vac, VHa, Vs, Vsl, VHs, Vp, Vpt, Vt, M, hR, hH⟩ := hI
  refine lv_aload_n hx hb dL_law_176 rfl (lv_at hl 2 rfl) ?_
  refine lv_aload_n hx hb dL_law_177 rfl (lv_at hl 3 rfl) ?_
  refine lv_iload_n hx hb dL_law_178 rfl (lv_at hl 0 rfl) ?_
  refine lv_iconst (v := 1) hx hb dL_law_179 (by decide) ?_
  refine lv_iadd hx hb dL_law_180 ?_
  refine va_sld hx hb hX hbl hbA hH.2.2 h1 dL_law_181 ?_
  have r := r_write hR (xs (nI i + 1).toNatClampNeg)
  obtain ⟨F7, hF7⟩ : ∃ z, z = f_X7_write V7 Vr (xs (nI i + 1).toNatClampNeg) := ⟨_, rfl⟩
  obtain ⟨F8, hF8⟩ : ∃ z, z = f_X8_write M (xs (nI i + 1).toNatClampNeg) := ⟨_, rfl⟩
  rw [← hF7, ← hF8] at r
  obtain ⟨d8, e, hR2⟩ := r
  refine kb_ciC hH hA [0, 1] (Wc := [(w_O7 G (γ 0) (γ 1 0) (γ 4 0) (γ 5 0) (γ 6 0) (γ 7 0) (γ 8 0) (γ 9 0) (γ 11 0) V7).flatten, (w_O4 G (γ 1) (γ 2 0) (γ 3 0) Vr).flatten]) (Wc' := [(w_O7 G (γ 0) (γ 1 0) (γ 4 0) (γ 5 0) (γ 6 0) (γ 7 0) (γ 8 0) (γ 9 0) (γ 11 0) V7).flatten, (w_O4 G (γ 1) (γ 2 0) (γ 3 0) F7.2).flatten]) (WS' := (LW G γ γh g8 V7 F7.2 Vg Vga Vn Va Vac VHa Vs Vsl VHs Vp Vpt Vt M)) (Wf := (w_O7 G (γ 0) (γ 1 0) (γ 4 0) (γ 5 0) (γ 6 0) (γ 7 0) (γ 8 0) (γ 9 0) (γ 11 0) V7 ++ w_O4 G (γ 1) (γ 2 0) (γ 3 0) Vr)) (Wf' := (w_O7 G (γ 0) (γ 1 0) (γ 4 0) (γ 5 0) (γ 6 0) (γ 7 0) (γ 8 0) (γ 9 0) (γ 11 0) V7 ++ w_O4 G (γ 1) (γ 2 0) (γ 3 0) F7.2)) rfl (by decide) rfl rfl (kb_fl2 _ _) (kb_fl2 _ _) (va_runV (C := RX7) (As := [.int (xs (nI i + 1).toNatClampNeg)]) (rest := []) ⟨hx, hb, hml, hown, hts⟩ (c_X7_write l G (γ 0) (γ 4 0) (γ 5 0) (γ 6 0) (γ 7 0) (γ 8 0) (γ 9 0) (γ 11 0) V7 (γ 1) (γ 2 0) (γ 3 0) Vr (xs (nI i + 1).toNatClampNeg) hF7.symm _) (cwV 1 hts hL_X7_write rfl rfl rfl he_X7_write ⟨Nat.le_of_ble_eq_true rfl, Nat.le_of_ble_eq_true rfl⟩) (kb_preVC (Wc := [(w_O7 G (γ 0) (γ 1 0) (γ 4 0) (γ 5 0) (γ 6 0) (γ 7 0) (γ 8 0) (γ 9 0) (γ 11 0) V7).flatten, (w_O4 G (γ 1) (γ 2 0) (γ 3 0) Vr).flatten]) hH hK hN [0, 1] rfl (by decide) (kb_fl2 _ _) 0 rfl rfl rfl rfl) rfl rfl hl.1 rfl (lv_room (Nat.le_of_ble_eq_true rfl)) dL_law_182 ⟨hcs.1, hcs.2⟩) (fun H locs hH => ?_)
  have hH : HP G A s.heap (LW G γ γh g8 V7 F7.2 Vg Vga Vn Va Vac VHa Vs Vsl VHs Vp Vpt Vt M) H locs := hH
  refine lv_aload_n hx hb dL_law_185 rfl (lv_at hl 1 rfl) ?_
  refine lv_aload_n hx hb dL_law_186 rfl (lv_at hl 3 rfl) ?_
  refine lv_iload_n hx hb dL_law_187 rfl (lv_at hl 0 rfl) ?_
  refine lv_iconst (v := 1) hx hb dL_law_188 (by decide) ?_
  refine lv_iadd hx hb dL_law_189 ?_
  refine va_sld hx hb hX hbl hbA hH.2.2 h1 dL_law_190 ?_
  refine kb_ciC hH hA [12] (Wc := [(w_O8 G g8 M).flatten]) (Wc' := [(w_O8 G g8 F8.2).flatten]) (WS' := (LW G γ γh g8 V7 F7.2 Vg Vga Vn Va Vac VHa Vs Vsl VHs Vp Vpt Vt F8.2)) (Wf := (w_O8 G g8 M)) (Wf' := (w_O8 G g8 F8.2)) rfl (by decide) rfl rfl (kb_fl1 _) (kb_fl1 _) (va_runV (C := RX8) (As := [.int (xs (nI i + 1).toNatClampNeg)]) (rest := [.int F7.1]) ⟨hx, hb, hml, hown, hts⟩ (c_X8_write l G g8 M (xs (nI i + 1).toNatClampNeg) d8 hF8.symm _) (cwV 1 hts hL_X8_write rfl rfl rfl he_X8_write ⟨Nat.le_of_ble_eq_true rfl, Nat.le_of_ble_eq_true rfl⟩) (kb_preVC (Wc := [(w_O8 G g8 M).flatten]) hH hK hN [12] rfl (by decide) (kb_fl1 _) 12 rfl rfl rfl rfl) rfl rfl hl.1 rfl (lv_room (Nat.le_of_ble_eq_true rfl)) dL_law_191 ⟨hcs.1, hcs.2⟩) (fun H locs hH => ?_)
  have hH : HP G A s.heap (LW G γ γh g8 V7 F7.2 Vg Vga Vn Va Vac VHa Vs Vsl VHs Vp Vpt Vt F8.2) H locs := hH
  refine lv_icmp_eq (tgt := 1009) hx hb dL_law_194 (by decide) (fun _ => ?_) (fun c2 => absurd e c2)
  exact kk _ _ ⟨_, _, V7, F7.2, Vg, Vga, Vn, Va, Vac, VHa, Vs, Vsl, VHs, Vp, Vpt, Vt, F8.2, (RLN_mono (Nat.le_succ T) hR2), hH⟩
set_option maxHeartbeats 4000000 in
set_option maxRecDepth 100000 in
theorem law_1 {p : Program} {l : Launch} {e : Env} {s : State} {m : MethodId} {below : List Frame} {meth : Method} {c : Code} {H : Heap} {locs : List Loc} {cells slots : Nat} {Q : State → Prop} {ls : Array Slot} {G : Ge} {A : Nat → Prop} {b L : Nat} {xs : Nat → Int32} {γ : Nat → Nat → Nat} {γh : Nat → Nat → Nat → Nat} {g8 : Nat → Nat} {i T : Nat} (C : LC p s m c b L xs G A) (h1 : vp_in (nI i + 1) L) (h2 : vp_in (nI i + 2) L) (h3 : vp_in (nI i + 3) L) (hT : T < 2 ^ 31) (hcs : cells ≤ room_1.cells ∧ slots ≤ room_1.slots) (hl : lv_has ls 4 [(3, .int (nI i)), (2, .ref (g8 0)), (1, .ref (γ 0 0)), (0, .ref b)]) (hI : LINV G γ γh g8 A s.heap T H locs)
    (kk : ∀ (H1 : Heap) (locs1 : List Loc), LINV G γ γh g8 A s.heap (T + 1) H1 locs1 → W p l e room_1 s m #[Value.ref b] below meth c H1 locs1 cells slots Q (F0 m 1009 ls [])) : W p l e room_1 s m #[Value.ref b] below meth c H locs cells slots Q (F0 m 199 ls []) := by
  obtain ⟨hx, hb, hml, hown, hts, hK, hN, hX, hbl, hbA, hA⟩ := C
  obtain ⟨co, wn, V7, Vr, Vg, Vga, Vn, Va, Vac, VHa, Vs, Vsl, VHs, Vp, Vpt, Vt, M, hR, hH⟩ := hI
  refine lv_aload_n hx hb dL_law_199 rfl (lv_at hl 2 rfl) ?_
  have r := r_wipe hR
  obtain ⟨F7, hF7⟩ : ∃ z, z = f_X7_wipe V7 Vr := ⟨_, rfl⟩
  obtain ⟨F8, hF8⟩ : ∃ z, z = f_X8_wipe M := ⟨_, rfl⟩
  rw [← hF7, ← hF8] at r
  obtain ⟨e, hR2⟩ := r
  refine kb_ciC hH hA [0, 1] (Wc := [(w_O7 G (γ 0) (γ 1 0) (γ 4 0) (γ 5 0) (γ 6 0) (γ 7 0) (γ 8 0) (γ 9 0) (γ 11 0) V7).flatten, (w_O4 G (γ 1) (γ 2 0) (γ 3 0) Vr).flatten]) (Wc' := [(w_O7 G (γ 0) (γ 1 0) (γ 4 0) (γ 5 0) (γ 6 0) (γ 7 0) (γ 8 0) (γ 9 0) (γ 11 0) V7).flatten, (w_O4 G (γ 1) (γ 2 0) (γ 3 0) F7.2).flatten]) (WS' := (LW G γ γh g8 V7 F7.2 Vg Vga Vn Va Vac VHa Vs Vsl VHs Vp Vpt Vt M)) (Wf := (w_O7 G (γ 0) (γ 1 0) (γ 4 0) (γ 5 0) (γ 6 0) (γ 7 0) (γ 8 0) (γ 9 0) (γ 11 0) V7 ++ w_O4 G (γ 1) (γ 2 0) (γ 3 0) Vr)) (Wf' := (w_O7 G (γ 0) (γ 1 0) (γ 4 0) (γ 5 0) (γ 6 0) (γ 7 0) (γ 8 0) (γ 9 0) (γ 11 0) V7 ++ w_O4 G (γ 1) (γ 2 0) (γ 3 0) F7.2)) rfl (by decide) rfl rfl (kb_fl2 _ _) (kb_fl2 _ _) (va_runV (C := RX7) (As := []) (rest := []) ⟨hx, hb, hml, hown, hts⟩ (c_X7_wipe l G (γ 0) (γ 4 0) (γ 5 0) (γ 6 0) (γ 7 0) (γ 8 0) (γ 9 0) (γ 11 0) V7 (γ 1) (γ 2 0) (γ 3 0) Vr hF7.symm _) (cwV 0 hts hL_X7_wipe rfl rfl rfl he_X7_wipe ⟨Nat.le_of_ble_eq_true rfl, Nat.le_of_ble_eq_true rfl⟩) (kb_preVC (Wc := [(w_O7 G (γ 0) (γ 1 0) (γ 4 0) (γ 5 0) (γ 6 0) (γ 7 0) (γ 8 0) (γ 9 0) (γ 11 0) V7).flatten, (w_O4 G (γ 1) (γ 2 0) (γ 3 0) Vr).flatten]) hH hK hN [0, 1] rfl (by decide) (kb_fl2 _ _) 0 rfl rfl rfl rfl) rfl rfl hl.1 rfl (lv_room (Nat.le_of_ble_eq_true rfl)) dL_law_200 ⟨hcs.1, hcs.2⟩) (fun H locs hH => ?_)
  have hH : HP G A s.heap (LW G γ γh g8 V7 F7.2 Vg Vga Vn Va Vac VHa Vs Vsl VHs Vp Vpt Vt M) H locs := hH
  refine lv_aload_n hx hb dL_law_203 rfl (lv_at hl 1 rfl) ?_
  refine kb_ciC hH hA [12] (Wc := [(w_O8 G g8 M).flatten]) (Wc' := [(w_O8 G g8 F8.2).flatten]) (WS' := (LW G γ γh g8 V7 F7.2 Vg Vga Vn Va Vac VHa Vs Vsl VHs Vp Vpt Vt F8.2)) (Wf := (w_O8 G g8 M)) (Wf' := (w_O8 G g8 F8.2)) rfl (by decide) rfl rfl (kb_fl1 _) (kb_fl1 _) (va_runV (C := RX8) (As := []) (rest := [.int F7.1]) ⟨hx, hb, hml, hown, hts⟩ (c_X8_wipe l G g8 M hF8.symm _) (cwV 0 hts hL_X8_wipe rfl rfl rfl he_X8_wipe ⟨Nat.le_of_ble_eq_true rfl, Nat.le_of_ble_eq_true rfl⟩) (kb_preVC (Wc := [(w_O8 G g8 M).flatten]) hH hK hN [12] rfl (by decide) (kb_fl1 _) 12 rfl rfl rfl rfl) rfl rfl hl.1 rfl (lv_room (Nat.le_of_ble_eq_true rfl)) dL_law_204 ⟨hcs.1, hcs.2⟩) (fun H locs hH => ?_)
  have hH : HP G A s.heap (LW G γ γh g8 V7 F7.2 Vg Vga Vn Va Vac VHa Vs Vsl VHs Vp Vpt Vt F8.2) H locs := hH
  refine lv_icmp_eq (tgt := 1009) hx hb dL_law_207 (by decide) (fun _ => ?_) (fun c2 => absurd e c2)
  exact kk _ _ ⟨_, _, V7, F7.2, Vg, Vga, Vn, Va, Vac, VHa, Vs, Vsl, VHs, Vp, Vpt, Vt, F8.2, (RLN_mono (Nat.le_succ T) hR2), hH⟩
set_option maxHeartbeats 4000000 in
set_option maxRecDepth 100000 in
theorem law_2 {p : Program} {l : Launch} {e : Env} {s : State} {m : MethodId} {below : List Frame} {meth : Method} {c : Code} {H : Heap} {locs : List Loc} {cells slots : Nat} {Q : State → Prop} {ls : Array Slot} {G : Ge} {A : Nat → Prop} {b L : Nat} {xs : Nat → Int32} {γ : Nat → Nat → Nat} {γh : Nat → Nat → Nat → Nat} {g8 : Nat → Nat} {i T : Nat} (C : LC p s m c b L xs G A) (h1 : vp_in (nI i + 1) L) (h2 : vp_in (nI i + 2) L) (h3 : vp_in (nI i + 3) L) (hT : T < 2 ^ 31) (hcs : cells ≤ room_1.cells ∧ slots ≤ room_1.slots) (hl : lv_has ls 4 [(3, .int (nI i)), (2, .ref (g8 0)), (1, .ref (γ 0 0)), (0, .ref b)]) (hI : LINV G γ γh g8 A s.heap T H locs)
    (kk : ∀ (H1 : Heap) (locs1 : List Loc), LINV G γ γh g8 A s.heap (T + 1) H1 locs1 → W p l e room_1 s m #[Value.ref b] below meth c H1 locs1 cells slots Q (F0 m 1009 ls [])) : W p l e room_1 s m #[Value.ref b] below meth c H locs cells slots Q (F0 m 212 ls []) := by
  obtain ⟨hx, hb, hml, hown, hts, hK, hN, hX, hbl, hbA, hA⟩ := C
  obtain ⟨co, wn, V7, Vr, Vg, Vga, Vn, Va, Vac, VHa, Vs, Vsl, VHs, Vp, Vpt, Vt, M, hR, hH⟩ := hI
  refine lv_aload_n hx hb dL_law_212 rfl (lv_at hl 2 rfl) ?_
  have r := r_fault (Vg := Vg) (Vga := Vga) hR
  obtain ⟨F7, hF7⟩ : ∃ z, z = f_X7_fault V7 Vr Vg Vga := ⟨_, rfl⟩
  obtain ⟨F8, hF8⟩ : ∃ z, z = f_X8_fault M := ⟨_, rfl⟩
  rw [← hF7, ← hF8] at r
  obtain ⟨d8, e, hR2⟩ := r
  refine kb_ciC hH hA [0, 1, 2, 3] (Wc := [(w_O7 G (γ 0) (γ 1 0) (γ 4 0) (γ 5 0) (γ 6 0) (γ 7 0) (γ 8 0) (γ 9 0) (γ 11 0) V7).flatten, (w_O4 G (γ 1) (γ 2 0) (γ 3 0) Vr).flatten, (w_O2 G (γ 2) Vg).flatten, (w_O1 G (γ 3) Vga).flatten]) (Wc' := [(w_O7 G (γ 0) (γ 1 0) (γ 4 0) (γ 5 0) (γ 6 0) (γ 7 0) (γ 8 0) (γ 9 0) (γ 11 0) V7).flatten, (w_O4 G (γ 1) (γ 2 0) (γ 3 0) F7.2.1).flatten, (w_O2 G (γ 2) F7.2.2.1).flatten, (w_O1 G (γ 3) F7.2.2.2).flatten]) (WS' := (LW G γ γh g8 V7 F7.2.1 F7.2.2.1 F7.2.2.2 Vn Va Vac VHa Vs Vsl VHs Vp Vpt Vt M)) (Wf := (w_O7 G (γ 0) (γ 1 0) (γ 4 0) (γ 5 0) (γ 6 0) (γ 7 0) (γ 8 0) (γ 9 0) (γ 11 0) V7 ++ w_O4 G (γ 1) (γ 2 0) (γ 3 0) Vr ++ w_O2 G (γ 2) Vg ++ w_O1 G (γ 3) Vga)) (Wf' := (w_O7 G (γ 0) (γ 1 0) (γ 4 0) (γ 5 0) (γ 6 0) (γ 7 0) (γ 8 0) (γ 9 0) (γ 11 0) V7 ++ w_O4 G (γ 1) (γ 2 0) (γ 3 0) F7.2.1 ++ w_O2 G (γ 2) F7.2.2.1 ++ w_O1 G (γ 3) F7.2.2.2)) rfl (by decide) rfl rfl (kb_fl4 _ _ _ _) (kb_fl4 _ _ _ _) (va_runV (C := RX7) (As := []) (rest := []) ⟨hx, hb, hml, hown, hts⟩ (c_X7_fault l G (γ 0) (γ 4 0) (γ 5 0) (γ 6 0) (γ 7 0) (γ 8 0) (γ 9 0) (γ 11 0) V7 (γ 1) Vr (γ 2) Vg (γ 3) Vga hF7.symm _) (cwV 0 hts hL_X7_fault rfl rfl rfl he_X7_fault ⟨Nat.le_of_ble_eq_true rfl, Nat.le_of_ble_eq_true rfl⟩) (kb_preVC (Wc := [(w_O7 G (γ 0) (γ 1 0) (γ 4 0) (γ 5 0) (γ 6 0) (γ 7 0) (γ 8 0) (γ 9 0) (γ 11 0) V7).flatten, (w_O4 G (γ 1) (γ 2 0) (γ 3 0) Vr).flatten, (w_O2 G (γ 2) Vg).flatten, (w_O1 G (γ 3) Vga).flatten]) hH hK hN [0, 1, 2, 3] rfl (by decide) (kb_fl4 _ _ _ _) 0 rfl rfl rfl rfl) rfl rfl hl.1 rfl (lv_room (Nat.le_of_ble_eq_true rfl)) dL_law_213 ⟨hcs.1, hcs.2⟩) (fun H locs hH => ?_)
  have hH : HP G A s.heap (LW G γ γh g8 V7 F7.2.1 F7.2.2.1 F7.2.2.2 Vn Va Vac VHa Vs Vsl VHs Vp Vpt Vt M) H locs := hH
  refine lv_aload_n hx hb dL_law_216 rfl (lv_at hl 1 rfl) ?_
  refine kb_ciC hH hA [12] (Wc := [(w_O8 G g8 M).flatten]) (Wc' := [(w_O8 G g8 F8.2).flatten]) (WS' := (LW G γ γh g8 V7 F7.2.1 F7.2.2.1 F7.2.2.2 Vn Va Vac VHa Vs Vsl VHs Vp Vpt Vt F8.2)) (Wf := (w_O8 G g8 M)) (Wf' := (w_O8 G g8 F8.2)) rfl (by decide) rfl rfl (kb_fl1 _) (kb_fl1 _) (va_runV (C := RX8) (As := []) (rest := [.int F7.1]) ⟨hx, hb, hml, hown, hts⟩ (c_X8_fault l G g8 M d8 hF8.symm _) (cwV 0 hts hL_X8_fault rfl rfl rfl he_X8_fault ⟨Nat.le_of_ble_eq_true rfl, Nat.le_of_ble_eq_true rfl⟩) (kb_preVC (Wc := [(w_O8 G g8 M).flatten]) hH hK hN [12] rfl (by decide) (kb_fl1 _) 12 rfl rfl rfl rfl) rfl rfl hl.1 rfl (lv_room (Nat.le_of_ble_eq_true rfl)) dL_law_217 ⟨hcs.1, hcs.2⟩) (fun H locs hH => ?_)
  have hH : HP G A s.heap (LW G γ γh g8 V7 F7.2.1 F7.2.2.1 F7.2.2.2 Vn Va Vac VHa Vs Vsl VHs Vp Vpt Vt F8.2) H locs := hH
  refine lv_icmp_eq (tgt := 1009) hx hb dL_law_220 (by decide) (fun _ => ?_) (fun c2 => absurd e c2)
  exact kk _ _ ⟨_, _, V7, F7.2.1, F7.2.2.1, F7.2.2.2, Vn, Va, Vac, VHa, Vs, Vsl, VHs, Vp, Vpt, Vt, F8.2, (RLN_mono (Nat.le_succ T) hR2), hH⟩
set_option maxHeartbeats 4000000 in
set_option maxRecDepth 100000 in
theorem law_3 {p : Program} {l : Launch} {e : Env} {s : State} {m : MethodId} {below : List Frame} {meth : Method} {c : Code} {H : Heap} {locs : List Loc} {cells slots : Nat} {Q : State → Prop} {ls : Array Slot} {G : Ge} {A : Nat → Prop} {b L : Nat} {xs : Nat → Int32} {γ : Nat → Nat → Nat} {γh : Nat → Nat → Nat → Nat} {g8 : Nat → Nat} {i T : Nat} (C : LC p s m c b L xs G A) (h1 : vp_in (nI i + 1) L) (h2 : vp_in (nI i + 2) L) (h3 : vp_in (nI i + 3) L) (hT : T < 2 ^ 31) (hcs : cells ≤ room_1.cells ∧ slots ≤ room_1.slots) (hl : lv_has ls 4 [(3, .int (nI i)), (2, .ref (g8 0)), (1, .ref (γ 0 0)), (0, .ref b)]) (hI : LINV G γ γh g8 A s.heap T H locs)
    (kk : ∀ (H1 : Heap) (locs1 : List Loc), LINV G γ γh g8 A s.heap (T + 1) H1 locs1 → W p l e room_1 s m #[Value.ref b] below meth c H1 locs1 cells slots Q (F0 m 1009 ls [])) : W p l e room_1 s m #[Value.ref b] below meth c H locs cells slots Q (F0 m 225 ls []) := by
  obtain ⟨hx, hb, hml, hown, hts, hK, hN, hX, hbl, hbA, hA⟩ := C
  obtain ⟨co, wn, V7, Vr, Vg, Vga, Vn, Va, Vac, VHa, Vs, Vsl, VHs, Vp, Vpt, Vt, M, hR, hH⟩ := hI
  refine lv_aload_n hx hb dL_law_225 rfl (lv_at hl 2 rfl) ?_
  have r := r_hill (Vg := Vg) (Vga := Vga) hR
  obtain ⟨F7, hF7⟩ : ∃ z, z = f_X7_hill V7 Vr Vg Vga Vn Va Vac VHa Vsl VHs := ⟨_, rfl⟩
  obtain ⟨F8, hF8⟩ : ∃ z, z = f_X8_hill M := ⟨_, rfl⟩
  rw [← hF7, ← hF8] at r
  obtain ⟨d8, e, co2, wn2, hR2⟩ := r
  refine kb_ciC hH hA [0, 1, 2, 3, 4, 5, 6, 8] (Wc := [(w_O7 G (γ 0) (γ 1 0) (γ 4 0) (γ 5 0) (γ 6 0) (γ 7 0) (γ 8 0) (γ 9 0) (γ 11 0) V7).flatten, (w_O4 G (γ 1) (γ 2 0) (γ 3 0) Vr).flatten, (w_O2 G (γ 2) Vg).flatten, (w_O1 G (γ 3) Vga).flatten, (w_O2 G (γ 4) Vn).flatten, (w_O1 G (γ 5) Va).flatten, (w_O0 G (γ 6) (γh 0) Vac VHa).flatten, (w_O6 G (γ 8) (γh 1) Vsl VHs).flatten]) (Wc' := [(w_O7 G (γ 0) (γ 1 0) (γ 4 0) (γ 5 0) (γ 6 0) (γ 7 0) (γ 8 0) (γ 9 0) (γ 11 0) V7).flatten, (w_O4 G (γ 1) (γ 2 0) (γ 3 0) F7.2.1).flatten, (w_O2 G (γ 2) F7.2.2.1).flatten, (w_O1 G (γ 3) F7.2.2.2.1).flatten, (w_O2 G (γ 4) F7.2.2.2.2.1).flatten, (w_O1 G (γ 5) F7.2.2.2.2.2.1).flatten, (w_O0 G (γ 6) (γh 0) F7.2.2.2.2.2.2.1 VHa).flatten, (w_O6 G (γ 8) (γh 1) F7.2.2.2.2.2.2.2 VHs).flatten]) (WS' := (LW G γ γh g8 V7 F7.2.1 F7.2.2.1 F7.2.2.2.1 F7.2.2.2.2.1 F7.2.2.2.2.2.1 F7.2.2.2.2.2.2.1 VHa Vs F7.2.2.2.2.2.2.2 VHs Vp Vpt Vt M)) (Wf := (w_O7 G (γ 0) (γ 1 0) (γ 4 0) (γ 5 0) (γ 6 0) (γ 7 0) (γ 8 0) (γ 9 0) (γ 11 0) V7 ++ w_O4 G (γ 1) (γ 2 0) (γ 3 0) Vr ++ w_O2 G (γ 2) Vg ++ w_O1 G (γ 3) Vga ++ w_O2 G (γ 4) Vn ++ w_O1 G (γ 5) Va ++ w_O0 G (γ 6) (γh 0) Vac VHa ++ w_O6 G (γ 8) (γh 1) Vsl VHs)) (Wf' := (w_O7 G (γ 0) (γ 1 0) (γ 4 0) (γ 5 0) (γ 6 0) (γ 7 0) (γ 8 0) (γ 9 0) (γ 11 0) V7 ++ w_O4 G (γ 1) (γ 2 0) (γ 3 0) F7.2.1 ++ w_O2 G (γ 2) F7.2.2.1 ++ w_O1 G (γ 3) F7.2.2.2.1 ++ w_O2 G (γ 4) F7.2.2.2.2.1 ++ w_O1 G (γ 5) F7.2.2.2.2.2.1 ++ w_O0 G (γ 6) (γh 0) F7.2.2.2.2.2.2.1 VHa ++ w_O6 G (γ 8) (γh 1) F7.2.2.2.2.2.2.2 VHs)) rfl (by decide) rfl rfl (kb_fl8 _ _ _ _ _ _ _ _) (kb_fl8 _ _ _ _ _ _ _ _) (va_runV (C := RX7) (As := []) (rest := []) ⟨hx, hb, hml, hown, hts⟩ (c_X7_hill l G (γ 0) (γ 7 0) (γ 9 0) (γ 11 0) V7 (γ 1) Vr (γ 2) Vg (γ 3) Vga (γ 4) Vn (γ 5) Va (γ 6) (γh 0) Vac VHa (γ 8) (γh 1) Vsl VHs hF7.symm _) (cwV 0 hts hL_X7_hill rfl rfl rfl he_X7_hill ⟨Nat.le_of_ble_eq_true rfl, Nat.le_of_ble_eq_true rfl⟩) (kb_preVC (Wc := [(w_O7 G (γ 0) (γ 1 0) (γ 4 0) (γ 5 0) (γ 6 0) (γ 7 0) (γ 8 0) (γ 9 0) (γ 11 0) V7).flatten, (w_O4 G (γ 1) (γ 2 0) (γ 3 0) Vr).flatten, (w_O2 G (γ 2) Vg).flatten, (w_O1 G (γ 3) Vga).flatten, (w_O2 G (γ 4) Vn).flatten, (w_O1 G (γ 5) Va).flatten, (w_O0 G (γ 6) (γh 0) Vac VHa).flatten, (w_O6 G (γ 8) (γh 1) Vsl VHs).flatten]) hH hK hN [0, 1, 2, 3, 4, 5, 6, 8] rfl (by decide) (kb_fl8 _ _ _ _ _ _ _ _) 0 rfl rfl rfl rfl) rfl rfl hl.1 rfl (lv_room (Nat.le_of_ble_eq_true rfl)) dL_law_226 ⟨hcs.1, hcs.2⟩) (fun H locs hH => ?_)
  have hH : HP G A s.heap (LW G γ γh g8 V7 F7.2.1 F7.2.2.1 F7.2.2.2.1 F7.2.2.2.2.1 F7.2.2.2.2.2.1 F7.2.2.2.2.2.2.1 VHa Vs F7.2.2.2.2.2.2.2 VHs Vp Vpt Vt M) H locs := hH
  refine lv_aload_n hx hb dL_law_229 rfl (lv_at hl 1 rfl) ?_
  refine kb_ciC hH hA [12] (Wc := [(w_O8 G g8 M).flatten]) (Wc' := [(w_O8 G g8 F8.2).flatten]) (WS' := (LW G γ γh g8 V7 F7.2.1 F7.2.2.1 F7.2.2.2.1 F7.2.2.2.2.1 F7.2.2.2.2.2.1 F7.2.2.2.2.2.2.1 VHa Vs F7.2.2.2.2.2.2.2 VHs Vp Vpt Vt F8.2)) (Wf := (w_O8 G g8 M)) (Wf' := (w_O8 G g8 F8.2)) rfl (by decide) rfl rfl (kb_fl1 _) (kb_fl1 _) (va_runV (C := RX8) (As := []) (rest := [.int F7.1]) ⟨hx, hb, hml, hown, hts⟩ (c_X8_hill l G g8 M d8 hF8.symm _) (cwV 0 hts hL_X8_hill rfl rfl rfl he_X8_hill ⟨Nat.le_of_ble_eq_true rfl, Nat.le_of_ble_eq_true rfl⟩) (kb_preVC (Wc := [(w_O8 G g8 M).flatten]) hH hK hN [12] rfl (by decide) (kb_fl1 _) 12 rfl rfl rfl rfl) rfl rfl hl.1 rfl (lv_room (Nat.le_of_ble_eq_true rfl)) dL_law_230 ⟨hcs.1, hcs.2⟩) (fun H locs hH => ?_)
  have hH : HP G A s.heap (LW G γ γh g8 V7 F7.2.1 F7.2.2.1 F7.2.2.2.1 F7.2.2.2.2.1 F7.2.2.2.2.2.1 F7.2.2.2.2.2.2.1 VHa Vs F7.2.2.2.2.2.2.2 VHs Vp Vpt Vt F8.2) H locs := hH
  refine lv_icmp_eq (tgt := 1009) hx hb dL_law_233 (by decide) (fun _ => ?_) (fun c2 => absurd e c2)
  exact kk _ _ ⟨co2, wn2, V7, F7.2.1, F7.2.2.1, F7.2.2.2.1, F7.2.2.2.2.1, F7.2.2.2.2.2.1, F7.2.2.2.2.2.2.1, VHa, Vs, F7.2.2.2.2.2.2.2, VHs, Vp, Vpt, Vt, F8.2, (RLN_mono (Nat.le_succ T) hR2), hH⟩
