theorem hd_X7_strings : yX7_strings.cls ≠ "java/lang/invoke/MethodHandle" ∧ yX7_strings.cls ≠ "java/lang/invoke/VarHandle" ∧ (parseMethodDescriptor yX7_strings.desc).map (fun d => d.parameters.length) = some 2 := by decide +kernel
theorem he_X7_strings : yX7_strings.cls = RX7 ∧ yX7_strings.cls ≠ "java/lang/invoke/MethodHandle" ∧ yX7_strings.cls ≠ "java/lang/invoke/VarHandle" ∧ (parseMethodDescriptor yX7_strings.desc).map (fun d => d.parameters.length) = some 2 := ⟨rfl, hd_X7_strings⟩
theorem hd_X7_winds : yX7_winds.cls ≠ "java/lang/invoke/MethodHandle" ∧ yX7_winds.cls ≠ "java/lang/invoke/VarHandle" ∧ (parseMethodDescriptor yX7_winds.desc).map (fun d => d.parameters.length) = some 0 := by decide +kernel
theorem he_X7_winds : yX7_winds.cls = RX7 ∧ yX7_winds.cls ≠ "java/lang/invoke/MethodHandle" ∧ yX7_winds.cls ≠ "java/lang/invoke/VarHandle" ∧ (parseMethodDescriptor yX7_winds.desc).map (fun d => d.parameters.length) = some 0 := ⟨rfl, hd_X7_winds⟩
theorem hd_X7_mayHold : yX7_mayHold.cls ≠ "java/lang/invoke/MethodHandle" ∧ yX7_mayHold.cls ≠ "java/lang/invoke/VarHandle" ∧ (parseMethodDescriptor yX7_mayHold.desc).map (fun d => d.parameters.length) = some 2 := by decide +kernel
theorem he_X7_mayHold : yX7_mayHold.cls = RX7 ∧ yX7_mayHold.cls ≠ "java/lang/invoke/MethodHandle" ∧ yX7_mayHold.cls ≠ "java/lang/invoke/VarHandle" ∧ (parseMethodDescriptor yX7_mayHold.desc).map (fun d => d.parameters.length) = some 2 := ⟨rfl, hd_X7_mayHold⟩
theorem hd_X7_brookHeld : yX7_brookHeld.cls ≠ "java/lang/invoke/MethodHandle" ∧ yX7_brookHeld.cls ≠ "java/lang/invoke/VarHandle" ∧ (parseMethodDescriptor yX7_brookHeld.desc).map (fun d => d.parameters.length) = some 3 := by decide +kernel
theorem he_X7_brookHeld : yX7_brookHeld.cls = RX7 ∧ yX7_brookHeld.cls ≠ "java/lang/invoke/MethodHandle" ∧ yX7_brookHeld.cls ≠ "java/lang/invoke/VarHandle" ∧ (parseMethodDescriptor yX7_brookHeld.desc).map (fun d => d.parameters.length) = some 3 := ⟨rfl, hd_X7_brookHeld⟩
theorem hd_X7_isAtRest : yX7_isAtRest.cls ≠ "java/lang/invoke/MethodHandle" ∧ yX7_isAtRest.cls ≠ "java/lang/invoke/VarHandle" ∧ (parseMethodDescriptor yX7_isAtRest.desc).map (fun d => d.parameters.length) = some 3 := by decide +kernel
theorem he_X7_isAtRest : yX7_isAtRest.cls = RX7 ∧ yX7_isAtRest.cls ≠ "java/lang/invoke/MethodHandle" ∧ yX7_isAtRest.cls ≠ "java/lang/invoke/VarHandle" ∧ (parseMethodDescriptor yX7_isAtRest.desc).map (fun d => d.parameters.length) = some 3 := ⟨rfl, hd_X7_isAtRest⟩
theorem hd_X7_rests : yX7_rests.cls ≠ "java/lang/invoke/MethodHandle" ∧ yX7_rests.cls ≠ "java/lang/invoke/VarHandle" ∧ (parseMethodDescriptor yX7_rests.desc).map (fun d => d.parameters.length) = some 2 := by decide +kernel
theorem he_X7_rests : yX7_rests.cls = RX7 ∧ yX7_rests.cls ≠ "java/lang/invoke/MethodHandle" ∧ yX7_rests.cls ≠ "java/lang/invoke/VarHandle" ∧ (parseMethodDescriptor yX7_rests.desc).map (fun d => d.parameters.length) = some 2 := ⟨rfl, hd_X7_rests⟩
theorem hd_X7_waysToFreeze : yX7_waysToFreeze.cls ≠ "java/lang/invoke/MethodHandle" ∧ yX7_waysToFreeze.cls ≠ "java/lang/invoke/VarHandle" ∧ (parseMethodDescriptor yX7_waysToFreeze.desc).map (fun d => d.parameters.length) = some 2 := by decide +kernel
theorem he_X7_waysToFreeze : yX7_waysToFreeze.cls = RX7 ∧ yX7_waysToFreeze.cls ≠ "java/lang/invoke/MethodHandle" ∧ yX7_waysToFreeze.cls ≠ "java/lang/invoke/VarHandle" ∧ (parseMethodDescriptor yX7_waysToFreeze.desc).map (fun d => d.parameters.length) = some 2 := ⟨rfl, hd_X7_waysToFreeze⟩
theorem hd_X7_frost : yX7_frost.cls ≠ "java/lang/invoke/MethodHandle" ∧ yX7_frost.cls ≠ "java/lang/invoke/VarHandle" ∧ (parseMethodDescriptor yX7_frost.desc).map (fun d => d.parameters.length) = some 3 := by decide +kernel
theorem he_X7_frost : yX7_frost.cls = RX7 ∧ yX7_frost.cls ≠ "java/lang/invoke/MethodHandle" ∧ yX7_frost.cls ≠ "java/lang/invoke/VarHandle" ∧ (parseMethodDescriptor yX7_frost.desc).map (fun d => d.parameters.length) = some 3 := ⟨rfl, hd_X7_frost⟩
theorem hd_X7_seed : yX7_seed.cls ≠ "java/lang/invoke/MethodHandle" ∧ yX7_seed.cls ≠ "java/lang/invoke/VarHandle" ∧ (parseMethodDescriptor yX7_seed.desc).map (fun d => d.parameters.length) = some 1 := by decide +kernel
theorem he_X7_seed : yX7_seed.cls = RX7 ∧ yX7_seed.cls ≠ "java/lang/invoke/MethodHandle" ∧ yX7_seed.cls ≠ "java/lang/invoke/VarHandle" ∧ (parseMethodDescriptor yX7_seed.desc).map (fun d => d.parameters.length) = some 1 := ⟨rfl, hd_X7_seed⟩
theorem hd_X7_years : yX7_years.cls ≠ "java/lang/invoke/MethodHandle" ∧ yX7_years.cls ≠ "java/lang/invoke/VarHandle" ∧ (parseMethodDescriptor yX7_years.desc).map (fun d => d.parameters.length) = some 1 := by decide +kernel
theorem he_X7_years : yX7_years.cls = RX7 ∧ yX7_years.cls ≠ "java/lang/invoke/MethodHandle" ∧ yX7_years.cls ≠ "java/lang/invoke/VarHandle" ∧ (parseMethodDescriptor yX7_years.desc).map (fun d => d.parameters.length) = some 1 := ⟨rfl, hd_X7_years⟩
theorem hd_X7_count : yX7_count.cls ≠ "java/lang/invoke/MethodHandle" ∧ yX7_count.cls ≠ "java/lang/invoke/VarHandle" ∧ (parseMethodDescriptor yX7_count.desc).map (fun d => d.parameters.length) = some 1 := by decide +kernel
theorem he_X7_count : yX7_count.cls = RX7 ∧ yX7_count.cls ≠ "java/lang/invoke/MethodHandle" ∧ yX7_count.cls ≠ "java/lang/invoke/VarHandle" ∧ (parseMethodDescriptor yX7_count.desc).map (fun d => d.parameters.length) = some 1 := ⟨rfl, hd_X7_count⟩
def f_X7_strings_L4 (V_air : OV) (V_now : OV) (V_sights : OV) (x0 : Int32) (iL4 : Nat) (s : (Int32 × Int32 × Int32)) : (Int32 × Int32 × Int32) := (if (f_X5_agree V_sights V_now (f_X1_waysBehind V_air V_now x0 (nI iL4) (0 : Int32))) = 0 then (s.1, s.2.1, s.2.2) else ((s.1 ||| (nI iL4)), (s.2.1 &&& (nI iL4)), (s.2.2 + (1 : Int32))))
def f_X7_strings (V : OV) (V_air : OV) (V_now : OV) (V_sights : OV) (x0 : Int32) (x1 : Int32) : (Int32) := (if (f_X1_hasWind V_air x0) = 0 then (-1 : Int32) else (if x1 < 0 then (-2 : Int32) else (if x1 ≤ (2 : Int32) then (kAp (lpu (f_X7_strings_L4 V_air V_now V_sights x0) (cM (f_X2_everyCock V_now)) 0 ((0 : Int32), (f_X2_everyCock V_now), (0 : Int32))) (fun z7 => (if x1 = 0 then z7.2.2 else (if z7.2.2 = 0 then (-9 : Int32) else (if x1 = (1 : Int32) then z7.2.1 else ((f_X2_everyCock V_now) &&& (z7.1 ^^^ (-1 : Int32)))))))) else (-2 : Int32))))
def d_X7_strings (V : OV) (V_air : OV) (V_now : OV) (V_sights : OV) (x0 : Int32) (x1 : Int32) : Prop := (¬ ((f_X1_hasWind V_air x0) = 0) → (¬ (x1 < 0) → (x1 ≤ (2 : Int32) → (f_X2_everyCock V_now).toInt < 2147483647)))
set_option maxHeartbeats 4000000 in
set_option maxRecDepth 100000 in
theorem c_X7_strings (l : Launch) (G : Ge) (g : Nat → Nat) (a_reader : Nat) (a_acts : Nat) (a_slots : Nat) (a_plan : Nat) (a_trial : Nat) (V : OV) (g_air : Nat → Nat) (V_air : OV) (g_now : Nat → Nat) (V_now : OV) (g_sights : Nat → Nat) (V_sights : OV) (x0 : Int32) (x1 : Int32) (hD : d_X7_strings V V_air V_now V_sights x0 x1) {F : (Int32)} (hF : f_X7_strings V V_air V_now V_sights x0 x1 = F) : CI l yX7_strings wsX7_strings { frames := 3, cells := 0, slots := 0, locals := 74 } [.ref (g 0), .int x0, .int x1] G (w_O7 G g a_reader (g_now 0) (g_air 0) a_acts (g_sights 0) a_slots a_plan a_trial V ++ w_O1 G g_air V_air ++ w_O2 G g_now V_now ++ w_O5 G g_sights V_sights) (w_O7 G g a_reader (g_now 0) (g_air 0) a_acts (g_sights 0) a_slots a_plan a_trial V ++ w_O1 G g_air V_air ++ w_O2 G g_now V_now ++ w_O5 G g_sights V_sights) F := by
  intro sz
  refine Met.ofW (cc := cX7_strings) (maxL := 8) (ret := (some .int)) (by decide) rfl ?_
  intro p e s m args below meth c s₁ B hml hv
  obtain ⟨rfl, hpre⟩ := hv
  obtain ⟨hsz, hH, hK, hN, hA⟩ := kb_start hpre
  subst hsz
  have hx := B.exec
  have hb := B.bytes
  have hr := B.returns
  have hts := atoms_spec (ws := wsX7_strings) B.pre
  have hown : s.vm.findClass RX7 = some m.cls := findClass_of_methodNamed B.named
  have hlocks := B.notSynchronized
  generalize hAe : va_A (List.flatten (w_O7 G g a_reader (g_now 0) (g_air 0) a_acts (g_sights 0) a_slots a_plan a_trial V ++ w_O1 G g_air V_air ++ w_O2 G g_now V_now ++ w_O5 G g_sights V_sights)) s.heap.size = A at hH hA ⊢
  have hl := lv_entry ([.ref (g 0), .int x0, .int x1]) (n := 8) (Nat.le_of_ble_eq_true rfl)
  rw [lg_entry_eq]
  generalize (lg_sl ([.ref (g 0), .int x0, .int x1]) ++ List.replicate (8 - (lg_sl ([.ref (g 0), .int x0, .int x1])).length) Slot.unset).toArray = ls at hl ⊢
  have hl : lv_has ls 8 [(0, .ref (g 0)), (1, .int x0), (2, .int x1)] := hl
  have hH : HP G A s.heap (w_O7 G g a_reader (g_now 0) (g_air 0) a_acts (g_sights 0) a_slots a_plan a_trial V ++ w_O1 G g_air V_air ++ w_O2 G g_now V_now ++ w_O5 G g_sights V_sights) s.heap [] := hH
  have hin7 : ∀ w ∈ u_ws RX7 TX7 9, w ∈ wsX7_strings := fun w h => List.mem_cons_of_mem _ (List.mem_append_left _ (List.mem_append_left _ (List.mem_append_left _ (List.mem_append_right _ h))))
  have hF : (if (f_X1_hasWind V_air x0) = 0 then (-1 : Int32) else (if x1 < 0 then (-2 : Int32) else (if x1 ≤ (2 : Int32) then (kAp (lpu (f_X7_strings_L4 V_air V_now V_sights x0) (cM (f_X2_everyCock V_now)) 0 ((0 : Int32), (f_X2_everyCock V_now), (0 : Int32))) (fun z7 => (if x1 = 0 then z7.2.2 else (if z7.2.2 = 0 then (-9 : Int32) else (if x1 = (1 : Int32) then z7.2.1 else ((f_X2_everyCock V_now) &&& (z7.1 ^^^ (-1 : Int32)))))))) else (-2 : Int32)))) = F := hF
  have hD : (¬ ((f_X1_hasWind V_air x0) = 0) → (¬ (x1 < 0) → (x1 ≤ (2 : Int32) → (f_X2_everyCock V_now).toInt < 2147483647))) := hD
  refine lv_aload_n hx hb dX7_strings_0 rfl (lv_at hl 0 rfl) ?_
  refine kb_get (v := .ref (g_air 0)) hx hb hts hin7 hown hK hH 0 rfl rfl rfl 2 (by decide) (hts (.fieldLink RX7 26 "CockWar" "air" "LCockWar$Air;") (List.mem_of_getElem? (i := 1) rfl)) (fun _ h9 => h9) rfl dX7_strings_1 ?_
  refine lv_iload_n hx hb dX7_strings_4 rfl (lv_at hl 1 rfl) ?_
  refine kb_ci hH hA [1, 2, 3, 4] (Wc := (w_O1 G g_air V_air)) (Wc' := (w_O1 G g_air V_air)) (WS' := (w_O7 G g a_reader (g_now 0) (g_air 0) a_acts (g_sights 0) a_slots a_plan a_trial V ++ w_O1 G g_air V_air ++ w_O2 G g_now V_now ++ w_O5 G g_sights V_sights)) rfl (by decide) rfl rfl (va_runVN (C := RX1) (As := [.int x0]) (rest := []) ⟨hx, hb, hml, hown, hts⟩ (c_X1_hasWind l G g_air V_air x0 rfl _) ⟨va_cnB 1 hts gX7_strings_X1_hasWind_n138 rfl rfl rfl (kb_NM hN 32 rfl) (hts (.initialized RX1) (List.mem_of_getElem? (i := 5) rfl)) hd_X1_hasWind ⟨Nat.le_of_ble_eq_true rfl, Nat.le_of_ble_eq_true rfl⟩, (hts (.instanceMethod yX1_hasWind) (List.mem_of_getElem? (i := 4) rfl)), (hts (.selects RX1 yX1_hasWind yX1_hasWind) (List.mem_of_getElem? (i := 6) rfl))⟩ (kb_preV hH hK hN [1, 2, 3, 4] rfl (by decide) 1 rfl rfl rfl rfl) rfl rfl hl.1 rfl (lv_room (Nat.le_of_ble_eq_true rfl)) dX7_strings_5 ⟨Nat.le_of_ble_eq_true rfl, Nat.le_of_ble_eq_true rfl⟩) (fun H locs hH => ?_)
  refine lv_if_ne (tgt := 13) hx hb dX7_strings_8 (by decide) (fun c1 => ?_) (fun c1 => ?_)
  · have hD := hD c1
    rw [if_neg c1] at hF
    refine lv_iload_n hx hb dX7_strings_13 rfl (lv_at hl 2 rfl) ?_
    refine lv_if_lt (tgt := 22) hx hb dX7_strings_14 (by decide) (fun c2 => ?_) (fun c2 => ?_)
    · rw [if_pos c2] at hF
      refine lv_bipush (v := -2) hx hb dX7_strings_22 (by decide) ?_
      subst hF
      exact kb_iret hx hb hr hH rfl rfl dX7_strings_24 hlocks
    · have hD := hD c2
      rw [if_neg c2] at hF
      refine lv_iload_n hx hb dX7_strings_17 rfl (lv_at hl 2 rfl) ?_
      refine lv_iconst (v := 2) hx hb dX7_strings_18 (by decide) ?_
      refine lv_icmp_le (tgt := 25) hx hb dX7_strings_19 (by decide) (fun c3 => ?_) (fun c3 => ?_)
      · have hD := hD c3
        rw [if_pos c3] at hF
        refine lv_aload_n hx hb dX7_strings_25 rfl (lv_at hl 0 rfl) ?_
        refine kb_get (v := .ref (g_now 0)) hx hb hts hin7 hown hK hH 0 rfl rfl rfl 1 (by decide) (hts (.fieldLink RX7 19 "CockWar" "now" "LCockWar$Hill;") (List.mem_of_getElem? (i := 2) rfl)) (fun _ h9 => h9) rfl dX7_strings_26 ?_
        refine kb_ci hH hA [5, 6, 7, 8, 9, 10] (Wc := (w_O2 G g_now V_now)) (Wc' := (w_O2 G g_now V_now)) (WS' := (w_O7 G g a_reader (g_now 0) (g_air 0) a_acts (g_sights 0) a_slots a_plan a_trial V ++ w_O1 G g_air V_air ++ w_O2 G g_now V_now ++ w_O5 G g_sights V_sights)) rfl (by decide) rfl rfl (va_runVN (C := RX2) (As := []) (rest := []) ⟨hx, hb, hml, hown, hts⟩ (c_X2_everyCock l G g_now V_now rfl _) ⟨va_cnB 0 hts gX7_strings_X2_everyCock_n208 rfl rfl rfl (kb_NM hN 54 rfl) (hts (.initialized RX2) (List.mem_of_getElem? (i := 10) rfl)) hd_X2_everyCock ⟨Nat.le_of_ble_eq_true rfl, Nat.le_of_ble_eq_true rfl⟩, (hts (.instanceMethod yX2_everyCock) (List.mem_of_getElem? (i := 9) rfl)), (hts (.selects RX2 yX2_everyCock yX2_everyCock) (List.mem_of_getElem? (i := 11) rfl))⟩ (kb_preV hH hK hN [5, 6, 7, 8, 9, 10] rfl (by decide) 5 rfl rfl rfl rfl) rfl rfl hl.1 rfl (lv_room (Nat.le_of_ble_eq_true rfl)) dX7_strings_29 ⟨Nat.le_of_ble_eq_true rfl, Nat.le_of_ble_eq_true rfl⟩) (fun H locs hH => ?_)
        refine lv_istore_n (lv' := [(3, .int (f_X2_everyCock V_now)), (0, .ref (g 0)), (1, .int x0), (2, .int x1)]) hx hb dX7_strings_32 rfl hl (by decide) rfl (fun ls hl => ?_)
        refine lv_iconst (v := 0) hx hb dX7_strings_33 (by decide) ?_
        refine lv_istore (lv' := [(4, .int (0 : Int32)), (3, .int (f_X2_everyCock V_now)), (0, .ref (g 0)), (1, .int x0), (2, .int x1)]) hx hb dX7_strings_34 hl (by decide) rfl (fun ls hl => ?_)
        refine lv_iload_n hx hb dX7_strings_36 rfl (lv_at hl 1 rfl) ?_
        refine lv_istore (lv' := [(5, .int (f_X2_everyCock V_now)), (4, .int (0 : Int32)), (3, .int (f_X2_everyCock V_now)), (0, .ref (g 0)), (1, .int x0), (2, .int x1)]) hx hb dX7_strings_37 hl (by decide) rfl (fun ls hl => ?_)
        refine lv_iconst (v := 0) hx hb dX7_strings_39 (by decide) ?_
        refine lv_istore (lv' := [(6, .int (0 : Int32)), (5, .int (f_X2_everyCock V_now)), (4, .int (0 : Int32)), (3, .int (f_X2_everyCock V_now)), (0, .ref (g 0)), (1, .int x0), (2, .int x1)]) hx hb dX7_strings_40 hl (by decide) rfl (fun ls hl => ?_)
        refine lv_iconst (v := 0) hx hb dX7_strings_42 (by decide) ?_
        refine lv_istore (lv' := [(7, .int (0 : Int32)), (6, .int (0 : Int32)), (5, .int (f_X2_everyCock V_now)), (4, .int (0 : Int32)), (3, .int (f_X2_everyCock V_now)), (0, .ref (g 0)), (1, .int x0), (2, .int x1)]) hx hb dX7_strings_43 hl (by decide) rfl (fun ls hl => ?_)
        have hsdL4 := hD
        obtain ⟨SFL4, hSFL4⟩ : ∃ z, z = (lpu (f_X7_strings_L4 V_air V_now V_sights x0) (cM (f_X2_everyCock V_now)) 0 ((0 : Int32), (f_X2_everyCock V_now), (0 : Int32))) := ⟨_, rfl⟩
        have hF := kAp_eq hF hSFL4
        refine kb_cut (fun H locs ls => HP G A s.heap (w_O7 G g a_reader (g_now 0) (g_air 0) a_acts (g_sights 0) a_slots a_plan a_trial V ++ w_O1 G g_air V_air ++ w_O2 G g_now V_now ++ w_O5 G g_sights V_sights) H locs ∧ lv_has ls 8 [(6, .int SFL4.1), (5, .int SFL4.2.1), (4, .int SFL4.2.2), (3, .int (f_X2_everyCock V_now)), (2, .int x1)]) 103 [] (fun EXL4 => ?_) (fun H locs ls hX => ?_)
        · refine kb_loop (σ := (Int32 × Int32 × Int32)) (fun n i x => n + i = (cM (f_X2_everyCock V_now)) ∧ lpu (f_X7_strings_L4 V_air V_now V_sights x0) n i x = SFL4) (fun iL4 x H locs ls => HP G A s.heap (w_O7 G g a_reader (g_now 0) (g_air 0) a_acts (g_sights 0) a_slots a_plan a_trial V ++ w_O1 G g_air V_air ++ w_O2 G g_now V_now ++ w_O5 G g_sights V_sights) H locs ∧ lv_has ls 8 [(7, .int (nI iL4)), (6, .int x.1), (5, .int x.2.1), (4, .int x.2.2), (3, .int (f_X2_everyCock V_now)), (0, .ref (g 0)), (1, .int x0), (2, .int x1)]) (fun iL4 x H locs ls hI hX => ?_) (fun n iL4 x hI ihL4 H locs ls hX => ?_) (cM (f_X2_everyCock V_now)) 0 ((0 : Int32), (f_X2_everyCock V_now), (0 : Int32)) _ _ _ ⟨Nat.add_zero _, hSFL4.symm⟩ ⟨hH, lv_sub hl [0, 1, 2, 3, 4, 5, 6, 7] rfl⟩
          · obtain ⟨L4a, L4b, L4c⟩ := x
            have hH : HP G A s.heap (w_O7 G g a_reader (g_now 0) (g_air 0) a_acts (g_sights 0) a_slots a_plan a_trial V ++ w_O1 G g_air V_air ++ w_O2 G g_now V_now ++ w_O5 G g_sights V_sights) H locs := hX.1
            have hl : lv_has ls 8 [(7, .int (nI iL4)), (6, .int L4a), (5, .int L4b), (4, .int L4c), (3, .int (f_X2_everyCock V_now)), (0, .ref (g 0)), (1, .int x0), (2, .int x1)] := hX.2
            obtain ⟨hiL4, hs⟩ := hI
            have hiL4 : iL4 = (cM (f_X2_everyCock V_now)) := by omega
            refine lv_iload hx hb dX7_strings_45 (lv_at hl 0 rfl) ?_
            refine lv_iload_n hx hb dX7_strings_47 rfl (lv_at hl 4 rfl) ?_
            refine lv_icmp_gt (tgt := 103) hx hb dX7_strings_48 (by decide) (fun _ => ?_) (fun c => absurd (cM_end hsdL4 hiL4) c)
            exact EXL4 _ _ _ ⟨by subst hs; exact hH, by subst hs; exact lv_sub hl [1, 2, 3, 4, 7] rfl⟩
          · obtain ⟨L4a, L4b, L4c⟩ := x
            have hH : HP G A s.heap (w_O7 G g a_reader (g_now 0) (g_air 0) a_acts (g_sights 0) a_slots a_plan a_trial V ++ w_O1 G g_air V_air ++ w_O2 G g_now V_now ++ w_O5 G g_sights V_sights) H locs := hX.1
            have hl : lv_has ls 8 [(7, .int (nI iL4)), (6, .int L4a), (5, .int L4b), (4, .int L4c), (3, .int (f_X2_everyCock V_now)), (0, .ref (g 0)), (1, .int x0), (2, .int x1)] := hX.2
            obtain ⟨hiL4, hs⟩ := hI
            have hltL4 : iL4 < (cM (f_X2_everyCock V_now)) := by omega
            obtain ⟨BVL4, hBd⟩ : ∃ z, (f_X7_strings_L4 V_air V_now V_sights x0) iL4 (L4a, L4b, L4c) = z := ⟨_, rfl⟩
            have hs : lpu (f_X7_strings_L4 V_air V_now V_sights x0) n (iL4 + 1) BVL4 = SFL4 := by rw [← hBd]; exact hs
            have hBL4 : (if (f_X5_agree V_sights V_now (f_X1_waysBehind V_air V_now x0 (nI iL4) (0 : Int32))) = 0 then (L4a, L4b, L4c) else ((L4a ||| (nI iL4)), (L4b &&& (nI iL4)), (L4c + (1 : Int32)))) = BVL4 := hBd
            refine lv_iload hx hb dX7_strings_45 (lv_at hl 0 rfl) ?_
            refine lv_iload_n hx hb dX7_strings_47 rfl (lv_at hl 4 rfl) ?_
            refine lv_icmp_gt (tgt := 103) hx hb dX7_strings_48 (by decide) (fun c => absurd c (cM_gt hsdL4 hltL4)) (fun c5 => ?_)
            refine lv_aload_n hx hb dX7_strings_51 rfl (lv_at hl 5 rfl) ?_
            refine kb_get (v := .ref (g_sights 0)) hx hb hts hin7 hown hK hH 0 rfl rfl rfl 4 (by decide) (hts (.fieldLink RX7 40 "CockWar" "sights" "LCockWar$Sights;") (List.mem_of_getElem? (i := 3) rfl)) (fun _ h9 => h9) rfl dX7_strings_52 ?_
            refine lv_aload_n hx hb dX7_strings_55 rfl (lv_at hl 5 rfl) ?_
            refine kb_get (v := .ref (g_now 0)) hx hb hts hin7 hown hK hH 0 rfl rfl rfl 1 (by decide) (hts (.fieldLink RX7 19 "CockWar" "now" "LCockWar$Hill;") (List.mem_of_getElem? (i := 2) rfl)) (fun _ h9 => h9) rfl dX7_strings_56 ?_
            refine lv_aload_n hx hb dX7_strings_59 rfl (lv_at hl 5 rfl) ?_
            refine kb_get (v := .ref (g_air 0)) hx hb hts hin7 hown hK hH 0 rfl rfl rfl 2 (by decide) (hts (.fieldLink RX7 26 "CockWar" "air" "LCockWar$Air;") (List.mem_of_getElem? (i := 1) rfl)) (fun _ h9 => h9) rfl dX7_strings_60 ?_
            refine lv_aload_n hx hb dX7_strings_63 rfl (lv_at hl 5 rfl) ?_
            refine kb_get (v := .ref (g_now 0)) hx hb hts hin7 hown hK hH 0 rfl rfl rfl 1 (by decide) (hts (.fieldLink RX7 19 "CockWar" "now" "LCockWar$Hill;") (List.mem_of_getElem? (i := 2) rfl)) (fun _ h9 => h9) rfl dX7_strings_64 ?_
            refine lv_iload_n hx hb dX7_strings_67 rfl (lv_at hl 6 rfl) ?_
            refine lv_iload hx hb dX7_strings_68 (lv_at hl 0 rfl) ?_
            refine lv_iconst (v := 0) hx hb dX7_strings_70 (by decide) ?_
            refine kb_ci hH hA [1, 2, 3, 4, 5, 6, 7, 8, 9, 10] (Wc := (w_O1 G g_air V_air ++ w_O2 G g_now V_now)) (Wc' := (w_O1 G g_air V_air ++ w_O2 G g_now V_now)) (WS' := (w_O7 G g a_reader (g_now 0) (g_air 0) a_acts (g_sights 0) a_slots a_plan a_trial V ++ w_O1 G g_air V_air ++ w_O2 G g_now V_now ++ w_O5 G g_sights V_sights)) rfl (by decide) rfl rfl (va_runVN (C := RX1) (As := [.ref (g_now 0), .int x0, .int (nI iL4), .int (0 : Int32)]) (rest := [.ref (g_now 0), .ref (g_sights 0)]) ⟨hx, hb, hml, hown, hts⟩ (c_X1_waysBehind l G g_air V_air g_now V_now x0 (nI iL4) (0 : Int32) rfl _) ⟨va_cnB 4 hts gX7_strings_X1_waysBehind_n150 rfl rfl rfl (kb_NM hN 33 rfl) (hts (.initialized RX1) (List.mem_of_getElem? (i := 5) rfl)) hd_X1_waysBehind ⟨Nat.le_of_ble_eq_true rfl, Nat.le_of_ble_eq_true rfl⟩, (hts (.instanceMethod yX1_waysBehind) (List.mem_of_getElem? (i := 14) rfl)), (hts (.selects RX1 yX1_waysBehind yX1_waysBehind) (List.mem_of_getElem? (i := 15) rfl))⟩ (kb_preV hH hK hN [1, 2, 3, 4, 5, 6, 7, 8, 9, 10] rfl (by decide) 1 rfl rfl rfl rfl) rfl rfl hl.1 rfl (lv_room (Nat.le_of_ble_eq_true rfl)) dX7_strings_71 ⟨Nat.le_of_ble_eq_true rfl, Nat.le_of_ble_eq_true rfl⟩) (fun H locs hH => ?_)
            refine kb_ci hH hA [11, 12, 13, 5, 6, 7, 8, 9, 10] (Wc := (w_O5 G g_sights V_sights ++ w_O2 G g_now V_now)) (Wc' := (w_O5 G g_sights V_sights ++ w_O2 G g_now V_now)) (WS' := (w_O7 G g a_reader (g_now 0) (g_air 0) a_acts (g_sights 0) a_slots a_plan a_trial V ++ w_O1 G g_air V_air ++ w_O2 G g_now V_now ++ w_O5 G g_sights V_sights)) rfl (by decide) rfl rfl (va_runVN (C := RX5) (As := [.ref (g_now 0), .int (f_X1_waysBehind V_air V_now x0 (nI iL4) (0 : Int32))]) (rest := []) ⟨hx, hb, hml, hown, hts⟩ (c_X5_agree l G g_sights V_sights g_now V_now (f_X1_waysBehind V_air V_now x0 (nI iL4) (0 : Int32)) rfl _) ⟨va_cnB 2 hts gX7_strings_X5_agree_n220 rfl rfl rfl (kb_NM hN 57 rfl) (hts (.initialized RX5) (List.mem_of_getElem? (i := 32) rfl)) hd_X5_agree ⟨Nat.le_of_ble_eq_true rfl, Nat.le_of_ble_eq_true rfl⟩, (hts (.instanceMethod yX5_agree) (List.mem_of_getElem? (i := 31) rfl)), (hts (.selects RX5 yX5_agree yX5_agree) (List.mem_of_getElem? (i := 33) rfl))⟩ (kb_preV hH hK hN [11, 12, 13, 5, 6, 7, 8, 9, 10] rfl (by decide) 11 rfl rfl rfl rfl) rfl rfl hl.1 rfl (lv_room (Nat.le_of_ble_eq_true rfl)) dX7_strings_74 ⟨Nat.le_of_ble_eq_true rfl, Nat.le_of_ble_eq_true rfl⟩) (fun H locs hH => ?_)
            refine lv_if_eq (tgt := 97) hx hb dX7_strings_77 (by decide) (fun c6 => ?_) (fun c6 => ?_)
            · rw [if_pos c6] at hBL4
              refine lv_iinc (v := (nI (iL4 + 1))) (lv' := [(7, .int (nI (iL4 + 1))), (6, .int L4a), (5, .int L4b), (4, .int L4c), (3, .int (f_X2_everyCock V_now)), (0, .ref (g 0)), (1, .int x0), (2, .int x1)]) hx hb dX7_strings_97 hl (k := 0) rfl (nI_1 _) (by decide) rfl (fun ls hl => ?_)
              refine lv_goto (tgt := 45) hx hb dX7_strings_100 (by decide) ?_
              subst hBL4
              exact ihL4 _ _ _ _ ⟨by omega, hs⟩ ⟨hH, lv_sub hl [0, 1, 2, 3, 4, 5, 6, 7] rfl⟩
            · rw [if_neg c6] at hBL4
              refine lv_iinc (v := (L4c + (1 : Int32))) (lv' := [(4, .int (L4c + (1 : Int32))), (7, .int (nI iL4)), (6, .int L4a), (5, .int L4b), (3, .int (f_X2_everyCock V_now)), (0, .ref (g 0)), (1, .int x0), (2, .int x1)]) hx hb dX7_strings_80 hl (k := 3) rfl rfl (by decide) rfl (fun ls hl => ?_)
              refine lv_iload hx hb dX7_strings_83 (lv_at hl 3 rfl) ?_
              refine lv_iload hx hb dX7_strings_85 (lv_at hl 1 rfl) ?_
              refine lv_iand hx hb dX7_strings_87 ?_
              refine lv_istore (lv' := [(5, .int (L4b &&& (nI iL4))), (4, .int (L4c + (1 : Int32))), (7, .int (nI iL4)), (6, .int L4a), (3, .int (f_X2_everyCock V_now)), (0, .ref (g 0)), (1, .int x0), (2, .int x1)]) hx hb dX7_strings_88 hl (by decide) rfl (fun ls hl => ?_)
              refine lv_iload hx hb dX7_strings_90 (lv_at hl 3 rfl) ?_
              refine lv_iload hx hb dX7_strings_92 (lv_at hl 2 rfl) ?_
              refine lv_ior hx hb dX7_strings_94 ?_
              refine lv_istore (lv' := [(6, .int (L4a ||| (nI iL4))), (5, .int (L4b &&& (nI iL4))), (4, .int (L4c + (1 : Int32))), (7, .int (nI iL4)), (3, .int (f_X2_everyCock V_now)), (0, .ref (g 0)), (1, .int x0), (2, .int x1)]) hx hb dX7_strings_95 hl (by decide) rfl (fun ls hl => ?_)
              refine lv_iinc (v := (nI (iL4 + 1))) (lv' := [(7, .int (nI (iL4 + 1))), (6, .int (L4a ||| (nI iL4))), (5, .int (L4b &&& (nI iL4))), (4, .int (L4c + (1 : Int32))), (3, .int (f_X2_everyCock V_now)), (0, .ref (g 0)), (1, .int x0), (2, .int x1)]) hx hb dX7_strings_97 hl (k := 3) rfl (nI_1 _) (by decide) rfl (fun ls hl => ?_)
              refine lv_goto (tgt := 45) hx hb dX7_strings_100 (by decide) ?_
              subst hBL4
              exact ihL4 _ _ _ _ ⟨by omega, hs⟩ ⟨hH, lv_sub hl [0, 1, 2, 3, 4, 5, 6, 7] rfl⟩
        · obtain ⟨hH, hl⟩ := hX
          refine lv_iload_n hx hb dX7_strings_103 rfl (lv_at hl 4 rfl) ?_
          refine lv_if_ne (tgt := 110) hx hb dX7_strings_104 (by decide) (fun c8 => ?_) (fun c8 => ?_)
          · rw [if_neg c8] at hF
            refine lv_iload hx hb dX7_strings_110 (lv_at hl 2 rfl) ?_
            refine lv_if_ne (tgt := 118) hx hb dX7_strings_112 (by decide) (fun c9 => ?_) (fun c9 => ?_)
            · rw [if_neg c9] at hF
              refine lv_iload_n hx hb dX7_strings_118 rfl (lv_at hl 4 rfl) ?_
              refine lv_iconst (v := 1) hx hb dX7_strings_119 (by decide) ?_
              refine lv_icmp_ne (tgt := 128) hx hb dX7_strings_120 (by decide) (fun c10 => ?_) (fun c10 => ?_)
              · rw [if_neg c10] at hF
                refine lv_iload_n hx hb dX7_strings_128 rfl (lv_at hl 3 rfl) ?_
                refine lv_iload hx hb dX7_strings_129 (lv_at hl 0 rfl) ?_
                refine lv_iconst (v := -1) hx hb dX7_strings_131 (by decide) ?_
                refine lv_ixor hx hb dX7_strings_132 ?_
                refine lv_iand hx hb dX7_strings_133 ?_
                subst hF
                exact kb_iret hx hb hr hH rfl rfl dX7_strings_134 hlocks
              · rw [if_pos c10] at hF
                refine lv_iload hx hb dX7_strings_123 (lv_at hl 1 rfl) ?_
                refine lv_goto (tgt := 134) hx hb dX7_strings_125 (by decide) ?_
                subst hF
                exact kb_iret hx hb hr hH rfl rfl dX7_strings_134 hlocks
            · rw [if_pos c9] at hF
              refine lv_bipush (v := -9) hx hb dX7_strings_115 (by decide) ?_
              subst hF
              exact kb_iret hx hb hr hH rfl rfl dX7_strings_117 hlocks
          · rw [if_pos c8] at hF
            refine lv_iload hx hb dX7_strings_107 (lv_at hl 2 rfl) ?_
            subst hF
            exact kb_iret hx hb hr hH rfl rfl dX7_strings_109 hlocks
      · rw [if_neg c3] at hF
        refine lv_bipush (v := -2) hx hb dX7_strings_22 (by decide) ?_
        subst hF
        exact kb_iret hx hb hr hH rfl rfl dX7_strings_24 hlocks
  · rw [if_pos c1] at hF
    refine lv_iconst (v := -1) hx hb dX7_strings_11 (by decide) ?_
    subst hF
    exact kb_iret hx hb hr hH rfl rfl dX7_strings_12 hlocks
def f_X7_winds_L1 (V_air : OV) (V_now : OV) (V_sights : OV) (iL1 : Nat) (s : (Int32)) : (Int32) := (if (f_X5_agree V_sights V_now (f_X1_waysBehind V_air V_now (nI iL1) (0 : Int32) (0 : Int32))) = 0 then s else (s ||| ((1 : Int32) <<< ((nI iL1) &&& 31))))
def f_X7_winds (V : OV) (V_air : OV) (V_now : OV) (V_sights : OV) : (Int32) := (kAp (lpu (f_X7_winds_L1 V_air V_now V_sights) (cN (V_air.2.1 3)) 0 (0 : Int32)) (fun z4 => z4))
set_option maxHeartbeats 4000000 in
set_option maxRecDepth 100000 in
theorem c_X7_winds (l : Launch) (G : Ge) (g : Nat → Nat) (a_reader : Nat) (a_acts : Nat) (a_slots : Nat) (a_plan : Nat) (a_trial : Nat) (V : OV) (g_air : Nat → Nat) (V_air : OV) (g_now : Nat → Nat) (V_now : OV) (g_sights : Nat → Nat) (V_sights : OV) {F : (Int32)} (hF : f_X7_winds V V_air V_now V_sights = F) : CI l yX7_winds wsX7_winds { frames := 3, cells := 0, slots := 0, locals := 74 } [.ref (g 0)] G (w_O7 G g a_reader (g_now 0) (g_air 0) a_acts (g_sights 0) a_slots a_plan a_trial V ++ w_O1 G g_air V_air ++ w_O2 G g_now V_now ++ w_O5 G g_sights V_sights) (w_O7 G g a_reader (g_now 0) (g_air 0) a_acts (g_sights 0) a_slots a_plan a_trial V ++ w_O1 G g_air V_air ++ w_O2 G g_now V_now ++ w_O5 G g_sights V_sights) F := by
  intro sz
  refine Met.ofW (cc := cX7_winds) (maxL := 3) (ret := (some .int)) (by decide) rfl ?_
  intro p e s m args below meth c s₁ B hml hv
  obtain ⟨rfl, hpre⟩ := hv
  obtain ⟨hsz, hH, hK, hN, hA⟩ := kb_start hpre
  subst hsz
  have hx := B.exec
  have hb := B.bytes
  have hr := B.returns
  have hts := atoms_spec (ws := wsX7_winds) B.pre
  have hown : s.vm.findClass RX7 = some m.cls := findClass_of_methodNamed B.named
  have hlocks := B.notSynchronized
  generalize hAe : va_A (List.flatten (w_O7 G g a_reader (g_now 0) (g_air 0) a_acts (g_sights 0) a_slots a_plan a_trial V ++ w_O1 G g_air V_air ++ w_O2 G g_now V_now ++ w_O5 G g_sights V_sights)) s.heap.size = A at hH hA ⊢
  have hl := lv_entry ([.ref (g 0)]) (n := 3) (Nat.le_of_ble_eq_true rfl)
  rw [lg_entry_eq]
  generalize (lg_sl ([.ref (g 0)]) ++ List.replicate (3 - (lg_sl ([.ref (g 0)])).length) Slot.unset).toArray = ls at hl ⊢
  have hl : lv_has ls 3 [(0, .ref (g 0))] := hl
  have hH : HP G A s.heap (w_O7 G g a_reader (g_now 0) (g_air 0) a_acts (g_sights 0) a_slots a_plan a_trial V ++ w_O1 G g_air V_air ++ w_O2 G g_now V_now ++ w_O5 G g_sights V_sights) s.heap [] := hH
  have hin1 : ∀ w ∈ u_ws RX1 TX1 4, w ∈ wsX7_winds := fun w h => List.mem_cons_of_mem _ (List.mem_append_left _ (List.mem_append_left _ (List.mem_append_right _ h)))
  have hin7 : ∀ w ∈ u_ws RX7 TX7 9, w ∈ wsX7_winds := fun w h => List.mem_cons_of_mem _ (List.mem_append_left _ (List.mem_append_left _ (List.mem_append_left _ (List.mem_append_right _ h))))
  have hF : (kAp (lpu (f_X7_winds_L1 V_air V_now V_sights) (cN (V_air.2.1 3)) 0 (0 : Int32)) (fun z4 => z4)) = F := hF
  refine lv_iconst (v := 0) hx hb dX7_winds_0 (by decide) ?_
  refine lv_istore_n (lv' := [(1, .int (0 : Int32)), (0, .ref (g 0))]) hx hb dX7_winds_1 rfl hl (by decide) rfl (fun ls hl => ?_)
  refine lv_iconst (v := 0) hx hb dX7_winds_2 (by decide) ?_
  refine lv_istore_n (lv' := [(2, .int (0 : Int32)), (1, .int (0 : Int32)), (0, .ref (g 0))]) hx hb dX7_winds_3 rfl hl (by decide) rfl (fun ls hl => ?_)
  obtain ⟨SFL1, hSFL1⟩ : ∃ z, z = (lpu (f_X7_winds_L1 V_air V_now V_sights) (cN (V_air.2.1 3)) 0 (0 : Int32)) := ⟨_, rfl⟩
  have hF := kAp_eq hF hSFL1
  refine kb_cut (fun H locs ls => HP G A s.heap (w_O7 G g a_reader (g_now 0) (g_air 0) a_acts (g_sights 0) a_slots a_plan a_trial V ++ w_O1 G g_air V_air ++ w_O2 G g_now V_now ++ w_O5 G g_sights V_sights) H locs ∧ lv_has ls 3 [(1, .int SFL1)]) 55 [] (fun EXL1 => ?_) (fun H locs ls hX => ?_)
  · refine kb_loop (σ := (Int32)) (fun n i x => n + i = (cN (V_air.2.1 3)) ∧ lpu (f_X7_winds_L1 V_air V_now V_sights) n i x = SFL1) (fun iL1 x H locs ls => HP G A s.heap (w_O7 G g a_reader (g_now 0) (g_air 0) a_acts (g_sights 0) a_slots a_plan a_trial V ++ w_O1 G g_air V_air ++ w_O2 G g_now V_now ++ w_O5 G g_sights V_sights) H locs ∧ lv_has ls 3 [(2, .int (nI iL1)), (1, .int x), (0, .ref (g 0))]) (fun iL1 x H locs ls hI hX => ?_) (fun n iL1 x hI ihL1 H locs ls hX => ?_) (cN (V_air.2.1 3)) 0 (0 : Int32) _ _ _ ⟨Nat.add_zero _, hSFL1.symm⟩ ⟨hH, lv_sub hl [0, 1, 2] rfl⟩
    · obtain ⟨L1a, exL1a⟩ : ∃ z, z = x := ⟨_, rfl⟩
      subst exL1a
      have hH : HP G A s.heap (w_O7 G g a_reader (g_now 0) (g_air 0) a_acts (g_sights 0) a_slots a_plan a_trial V ++ w_O1 G g_air V_air ++ w_O2 G g_now V_now ++ w_O5 G g_sights V_sights) H locs := hX.1
      have hl : lv_has ls 3 [(2, .int (nI iL1)), (1, .int L1a), (0, .ref (g 0))] := hX.2
      obtain ⟨hiL1, hs⟩ := hI
      have hiL1 : iL1 = (cN (V_air.2.1 3)) := by omega
      refine lv_iload_n hx hb dX7_winds_4 rfl (lv_at hl 0 rfl) ?_
      refine lv_aload_n hx hb dX7_winds_5 rfl (lv_at hl 2 rfl) ?_
      refine kb_get (v := .ref (g_air 0)) hx hb hts hin7 hown hK hH 0 rfl rfl rfl 2 (by decide) (hts (.fieldLink RX7 26 "CockWar" "air" "LCockWar$Air;") (List.mem_of_getElem? (i := 1) rfl)) (fun _ h9 => h9) rfl dX7_winds_6 ?_
      refine kb_getN (v := .int (V_air.2.1 3)) hx hb hts hin1 hown hK hH 1 rfl rfl rfl 3 (by decide) (kb_NF hN 26 rfl) (fun _ h9 => h9) rfl dX7_winds_9 ?_
      refine lv_icmp_ge (tgt := 55) hx hb dX7_winds_12 (by decide) (fun _ => ?_) (fun c => absurd (cN_end hiL1) c)
      exact EXL1 _ _ _ ⟨by subst hs; exact hH, by subst hs; exact lv_sub hl [1] rfl⟩
    · obtain ⟨L1a, exL1a⟩ : ∃ z, z = x := ⟨_, rfl⟩
      subst exL1a
      have hH : HP G A s.heap (w_O7 G g a_reader (g_now 0) (g_air 0) a_acts (g_sights 0) a_slots a_plan a_trial V ++ w_O1 G g_air V_air ++ w_O2 G g_now V_now ++ w_O5 G g_sights V_sights) H locs := hX.1
      have hl : lv_has ls 3 [(2, .int (nI iL1)), (1, .int L1a), (0, .ref (g 0))] := hX.2
      obtain ⟨hiL1, hs⟩ := hI
      have hltL1 : iL1 < (cN (V_air.2.1 3)) := by omega
      obtain ⟨BVL1, hBd⟩ : ∃ z, (f_X7_winds_L1 V_air V_now V_sights) iL1 L1a = z := ⟨_, rfl⟩
      have hs : lpu (f_X7_winds_L1 V_air V_now V_sights) n (iL1 + 1) BVL1 = SFL1 := by rw [← hBd]; exact hs
      have hBL1 : (if (f_X5_agree V_sights V_now (f_X1_waysBehind V_air V_now (nI iL1) (0 : Int32) (0 : Int32))) = 0 then L1a else (L1a ||| ((1 : Int32) <<< ((nI iL1) &&& 31)))) = BVL1 := hBd
      refine lv_iload_n hx hb dX7_winds_4 rfl (lv_at hl 0 rfl) ?_
      refine lv_aload_n hx hb dX7_winds_5 rfl (lv_at hl 2 rfl) ?_
      refine kb_get (v := .ref (g_air 0)) hx hb hts hin7 hown hK hH 0 rfl rfl rfl 2 (by decide) (hts (.fieldLink RX7 26 "CockWar" "air" "LCockWar$Air;") (List.mem_of_getElem? (i := 1) rfl)) (fun _ h9 => h9) rfl dX7_winds_6 ?_
      refine kb_getN (v := .int (V_air.2.1 3)) hx hb hts hin1 hown hK hH 1 rfl rfl rfl 3 (by decide) (kb_NF hN 26 rfl) (fun _ h9 => h9) rfl dX7_winds_9 ?_
      refine lv_icmp_ge (tgt := 55) hx hb dX7_winds_12 (by decide) (fun c => absurd c (cN_ge hltL1)) (fun c2 => ?_)
      refine lv_aload_n hx hb dX7_winds_15 rfl (lv_at hl 2 rfl) ?_
      refine kb_get (v := .ref (g_sights 0)) hx hb hts hin7 hown hK hH 0 rfl rfl rfl 4 (by decide) (hts (.fieldLink RX7 40 "CockWar" "sights" "LCockWar$Sights;") (List.mem_of_getElem? (i := 2) rfl)) (fun _ h9 => h9) rfl dX7_winds_16 ?_
      refine lv_aload_n hx hb dX7_winds_19 rfl (lv_at hl 2 rfl) ?_
      refine kb_get (v := .ref (g_now 0)) hx hb hts hin7 hown hK hH 0 rfl rfl rfl 1 (by decide) (hts (.fieldLink RX7 19 "CockWar" "now" "LCockWar$Hill;") (List.mem_of_getElem? (i := 3) rfl)) (fun _ h9 => h9) rfl dX7_winds_20 ?_
      refine lv_aload_n hx hb dX7_winds_23 rfl (lv_at hl 2 rfl) ?_
      refine kb_get (v := .ref (g_air 0)) hx hb hts hin7 hown hK hH 0 rfl rfl rfl 2 (by decide) (hts (.fieldLink RX7 26 "CockWar" "air" "LCockWar$Air;") (List.mem_of_getElem? (i := 1) rfl)) (fun _ h9 => h9) rfl dX7_winds_24 ?_
      refine lv_aload_n hx hb dX7_winds_27 rfl (lv_at hl 2 rfl) ?_
      refine kb_get (v := .ref (g_now 0)) hx hb hts hin7 hown hK hH 0 rfl rfl rfl 1 (by decide) (hts (.fieldLink RX7 19 "CockWar" "now" "LCockWar$Hill;") (List.mem_of_getElem? (i := 3) rfl)) (fun _ h9 => h9) rfl dX7_winds_28 ?_
      refine lv_iload_n hx hb dX7_winds_31 rfl (lv_at hl 0 rfl) ?_
      refine lv_iconst (v := 0) hx hb dX7_winds_32 (by decide) ?_
      refine lv_iconst (v := 0) hx hb dX7_winds_33 (by decide) ?_
      refine kb_ci hH hA [1, 2, 3, 4, 5, 6, 7, 8, 9, 10] (Wc := (w_O1 G g_air V_air ++ w_O2 G g_now V_now)) (Wc' := (w_O1 G g_air V_air ++ w_O2 G g_now V_now)) (WS' := (w_O7 G g a_reader (g_now 0) (g_air 0) a_acts (g_sights 0) a_slots a_plan a_trial V ++ w_O1 G g_air V_air ++ w_O2 G g_now V_now ++ w_O5 G g_sights V_sights)) rfl (by decide) rfl rfl (va_runVN (C := RX1) (As := [.ref (g_now 0), .int (nI iL1), .int (0 : Int32), .int (0 : Int32)]) (rest := [.ref (g_now 0), .ref (g_sights 0)]) ⟨hx, hb, hml, hown, hts⟩ (c_X1_waysBehind l G g_air V_air g_now V_now (nI iL1) (0 : Int32) (0 : Int32) rfl _) ⟨va_cnB 4 hts gX7_winds_X1_waysBehind_n150 rfl rfl rfl (kb_NM hN 33 rfl) (hts (.initialized RX1) (List.mem_of_getElem? (i := 5) rfl)) hd_X1_waysBehind ⟨Nat.le_of_ble_eq_true rfl, Nat.le_of_ble_eq_true rfl⟩, (hts (.instanceMethod yX1_waysBehind) (List.mem_of_getElem? (i := 4) rfl)), (hts (.selects RX1 yX1_waysBehind yX1_waysBehind) (List.mem_of_getElem? (i := 6) rfl))⟩ (kb_preV hH hK hN [1, 2, 3, 4, 5, 6, 7, 8, 9, 10] rfl (by decide) 1 rfl rfl rfl rfl) rfl rfl hl.1 rfl (lv_room (Nat.le_of_ble_eq_true rfl)) dX7_winds_34 ⟨Nat.le_of_ble_eq_true rfl, Nat.le_of_ble_eq_true rfl⟩) (fun H locs hH => ?_)
      refine kb_ci hH hA [11, 12, 13, 5, 6, 7, 8, 9, 10] (Wc := (w_O5 G g_sights V_sights ++ w_O2 G g_now V_now)) (Wc' := (w_O5 G g_sights V_sights ++ w_O2 G g_now V_now)) (WS' := (w_O7 G g a_reader (g_now 0) (g_air 0) a_acts (g_sights 0) a_slots a_plan a_trial V ++ w_O1 G g_air V_air ++ w_O2 G g_now V_now ++ w_O5 G g_sights V_sights)) rfl (by decide) rfl rfl (va_runVN (C := RX5) (As := [.ref (g_now 0), .int (f_X1_waysBehind V_air V_now (nI iL1) (0 : Int32) (0 : Int32))]) (rest := []) ⟨hx, hb, hml, hown, hts⟩ (c_X5_agree l G g_sights V_sights g_now V_now (f_X1_waysBehind V_air V_now (nI iL1) (0 : Int32) (0 : Int32)) rfl _) ⟨va_cnB 2 hts gX7_winds_X5_agree_n220 rfl rfl rfl (kb_NM hN 57 rfl) (hts (.initialized RX5) (List.mem_of_getElem? (i := 25) rfl)) hd_X5_agree ⟨Nat.le_of_ble_eq_true rfl, Nat.le_of_ble_eq_true rfl⟩, (hts (.instanceMethod yX5_agree) (List.mem_of_getElem? (i := 24) rfl)), (hts (.selects RX5 yX5_agree yX5_agree) (List.mem_of_getElem? (i := 26) rfl))⟩ (kb_preV hH hK hN [11, 12, 13, 5, 6, 7, 8, 9, 10] rfl (by decide) 11 rfl rfl rfl rfl) rfl rfl hl.1 rfl (lv_room (Nat.le_of_ble_eq_true rfl)) dX7_winds_37 ⟨Nat.le_of_ble_eq_true rfl, Nat.le_of_ble_eq_true rfl⟩) (fun H locs hH => ?_)
      refine lv_if_eq (tgt := 49) hx hb dX7_winds_40 (by decide) (fun c3 => ?_) (fun c3 => ?_)
      · rw [if_pos c3] at hBL1
        refine lv_iinc (v := (nI (iL1 + 1))) (lv' := [(2, .int (nI (iL1 + 1))), (1, .int L1a), (0, .ref (g 0))]) hx hb dX7_winds_49 hl (k := 0) rfl (nI_1 _) (by decide) rfl (fun ls hl => ?_)
        refine lv_goto (tgt := 4) hx hb dX7_winds_52 (by decide) ?_
        subst hBL1
        exact ihL1 _ _ _ _ ⟨by omega, hs⟩ ⟨hH, lv_sub hl [0, 1, 2] rfl⟩
      · rw [if_neg c3] at hBL1
        refine lv_iload_n hx hb dX7_winds_43 rfl (lv_at hl 1 rfl) ?_
        refine lv_iconst (v := 1) hx hb dX7_winds_44 (by decide) ?_
        refine lv_iload_n hx hb dX7_winds_45 rfl (lv_at hl 0 rfl) ?_
        refine lv_ishl hx hb dX7_winds_46 ?_
        refine lv_ior hx hb dX7_winds_47 ?_
        refine lv_istore_n (lv' := [(1, .int (L1a ||| ((1 : Int32) <<< ((nI iL1) &&& 31)))), (2, .int (nI iL1)), (0, .ref (g 0))]) hx hb dX7_winds_48 rfl hl (by decide) rfl (fun ls hl => ?_)
        refine lv_iinc (v := (nI (iL1 + 1))) (lv' := [(2, .int (nI (iL1 + 1))), (1, .int (L1a ||| ((1 : Int32) <<< ((nI iL1) &&& 31)))), (0, .ref (g 0))]) hx hb dX7_winds_49 hl (k := 1) rfl (nI_1 _) (by decide) rfl (fun ls hl => ?_)
        refine lv_goto (tgt := 4) hx hb dX7_winds_52 (by decide) ?_
        subst hBL1
        exact ihL1 _ _ _ _ ⟨by omega, hs⟩ ⟨hH, lv_sub hl [0, 1, 2] rfl⟩
  · obtain ⟨hH, hl⟩ := hX
    refine lv_iload_n hx hb dX7_winds_55 rfl (lv_at hl 0 rfl) ?_
    subst hF
    exact kb_iret hx hb hr hH rfl rfl dX7_winds_56 hlocks
def f_X7_mayHold (V : OV) (V_now : OV) (x0 : Int32) (x1 : Int32) : (Int32) := (if x1 = 0 then (1 : Int32) else (if (f_X7_bit (V_now.2.1 6) (x1 - (1 : Int32))) = x0 then (1 : Int32) else (0 : Int32)))
set_option maxHeartbeats 4000000 in
set_option maxRecDepth 100000 in
theorem c_X7_mayHold (l : Launch) (G : Ge) (g : Nat → Nat) (a_reader : Nat) (a_air : Nat) (a_acts : Nat) (a_sights : Nat) (a_slots : Nat) (a_plan : Nat) (a_trial : Nat) (V : OV) (g_now : Nat → Nat) (V_now : OV) (x0 : Int32) (x1 : Int32) {F : (Int32)} (hF : f_X7_mayHold V V_now x0 x1 = F) : CI l yX7_mayHold wsX7_mayHold { frames := 1, cells := 0, slots := 0, locals := 21 } [.ref (g 0), .int x0, .int x1] G (w_O7 G g a_reader (g_now 0) a_air a_acts a_sights a_slots a_plan a_trial V ++ w_O2 G g_now V_now) (w_O7 G g a_reader (g_now 0) a_air a_acts a_sights a_slots a_plan a_trial V ++ w_O2 G g_now V_now) F := by
  intro sz
  refine Met.ofW (cc := cX7_mayHold) (maxL := 3) (ret := (some .boolean)) (by decide) rfl ?_
  intro p e s m args below meth c s₁ B hml hv
  obtain ⟨rfl, hpre⟩ := hv
  obtain ⟨hsz, hH, hK, hN, hA⟩ := kb_start hpre
  subst hsz
  have hx := B.exec
  have hb := B.bytes
  have hr := B.returns
  have hts := atoms_spec (ws := wsX7_mayHold) B.pre
  have hown : s.vm.findClass RX7 = some m.cls := findClass_of_methodNamed B.named
  have hlocks := B.notSynchronized
  generalize hAe : va_A (List.flatten (w_O7 G g a_reader (g_now 0) a_air a_acts a_sights a_slots a_plan a_trial V ++ w_O2 G g_now V_now)) s.heap.size = A at hH hA ⊢
  have hl := lv_entry ([.ref (g 0), .int x0, .int x1]) (n := 3) (Nat.le_of_ble_eq_true rfl)
  rw [lg_entry_eq]
  generalize (lg_sl ([.ref (g 0), .int x0, .int x1]) ++ List.replicate (3 - (lg_sl ([.ref (g 0), .int x0, .int x1])).length) Slot.unset).toArray = ls at hl ⊢
  have hl : lv_has ls 3 [(0, .ref (g 0)), (1, .int x0), (2, .int x1)] := hl
  have hH : HP G A s.heap (w_O7 G g a_reader (g_now 0) a_air a_acts a_sights a_slots a_plan a_trial V ++ w_O2 G g_now V_now) s.heap [] := hH
  have hin2 : ∀ w ∈ u_ws RX2 TX2 11, w ∈ wsX7_mayHold := fun w h => List.mem_cons_of_mem _ (List.mem_append_right _ h)
  have hin7 : ∀ w ∈ u_ws RX7 TX7 9, w ∈ wsX7_mayHold := fun w h => List.mem_cons_of_mem _ (List.mem_append_left _ (List.mem_append_right _ h))
  have hF : (if x1 = 0 then (1 : Int32) else (if (f_X7_bit (V_now.2.1 6) (x1 - (1 : Int32))) = x0 then (1 : Int32) else (0 : Int32))) = F := hF
  refine lv_iload_n hx hb dX7_mayHold_0 rfl (lv_at hl 2 rfl) ?_
  refine lv_if_eq (tgt := 21) hx hb dX7_mayHold_1 (by decide) (fun c1 => ?_) (fun c1 => ?_)
  · rw [if_pos c1] at hF
    refine lv_iconst (v := 1) hx hb dX7_mayHold_21 (by decide) ?_
    refine lv_goto (tgt := 26) hx hb dX7_mayHold_22 (by decide) ?_
    subst hF
    exact kb_zret hx hb hr hH rfl rfl (kb_nar _ (Or.inr rfl)) dX7_mayHold_26 hlocks
  · rw [if_neg c1] at hF
    refine lv_aload_n hx hb dX7_mayHold_4 rfl (lv_at hl 0 rfl) ?_
    refine kb_get (v := .ref (g_now 0)) hx hb hts hin7 hown hK hH 0 rfl rfl rfl 1 (by decide) (hts (.fieldLink RX7 19 "CockWar" "now" "LCockWar$Hill;") (List.mem_of_getElem? (i := 1) rfl)) (fun _ h9 => h9) rfl dX7_mayHold_5 ?_
    refine kb_getN (v := .int (V_now.2.1 6)) hx hb hts hin2 hown hK hH 1 rfl rfl rfl 6 (by decide) (kb_NF hN 12 rfl) (fun _ h9 => h9) rfl dX7_mayHold_8 ?_
    refine lv_iload_n hx hb dX7_mayHold_11 rfl (lv_at hl 2 rfl) ?_
    refine lv_iconst (v := 1) hx hb dX7_mayHold_12 (by decide) ?_
    refine lv_isub hx hb dX7_mayHold_13 ?_
    refine kb_ci hH hA [] (Wc := ([] : List va_W)) (Wc' := ([] : List va_W)) (WS' := (w_O7 G g a_reader (g_now 0) a_air a_acts a_sights a_slots a_plan a_trial V ++ w_O2 G g_now V_now)) rfl (by decide) rfl rfl (va_runS (As := [.int (V_now.2.1 6), .int (x1 - (1 : Int32))]) (rest := []) ⟨hx, hb, hml, hown, hts⟩ (c_X7_bit l G (V_now.2.1 6) (x1 - (1 : Int32)) rfl _) (va_cwS 2 hts gX7_mayHold_X7_bit rfl rfl rfl hd_X7_bit ⟨Nat.le_of_ble_eq_true rfl, Nat.le_of_ble_eq_true rfl⟩) (kb_preS hH hK hN [] rfl (by decide)) rfl rfl hl.1 rfl (lv_room (Nat.le_of_ble_eq_true rfl)) dX7_mayHold_14 ⟨Nat.le_of_ble_eq_true rfl, Nat.le_of_ble_eq_true rfl⟩) (fun H locs hH => ?_)
    refine lv_iload_n hx hb dX7_mayHold_17 rfl (lv_at hl 1 rfl) ?_
    refine lv_icmp_ne (tgt := 25) hx hb dX7_mayHold_18 (by decide) (fun c2 => ?_) (fun c2 => ?_)
    · rw [if_neg c2] at hF
      refine lv_iconst (v := 0) hx hb dX7_mayHold_25 (by decide) ?_
      subst hF
      exact kb_zret hx hb hr hH rfl rfl (kb_nar _ (Or.inl rfl)) dX7_mayHold_26 hlocks
    · rw [if_pos c2] at hF
      refine lv_iconst (v := 1) hx hb dX7_mayHold_21 (by decide) ?_
      refine lv_goto (tgt := 26) hx hb dX7_mayHold_22 (by decide) ?_
      subst hF
      exact kb_zret hx hb hr hH rfl rfl (kb_nar _ (Or.inr rfl)) dX7_mayHold_26 hlocks
def f_X7_brookHeld (V : OV) (V_air : OV) (V_now : OV) (x0 : Int32) (x1 : Int32) (x2 : Int32) : (Int32) := (f_X1_brookUnder V_air V_now x0 ((((1 : Int32) <<< (x1 &&& 31)) >>> ((1 : Int32) &&& 31)) ||| (((1 : Int32) <<< (x2 &&& 31)) >>> ((1 : Int32) &&& 31))) (0 : Int32))
set_option maxHeartbeats 4000000 in
set_option maxRecDepth 100000 in
theorem c_X7_brookHeld (l : Launch) (G : Ge) (g : Nat → Nat) (a_reader : Nat) (a_acts : Nat) (a_sights : Nat) (a_slots : Nat) (a_plan : Nat) (a_trial : Nat) (V : OV) (g_air : Nat → Nat) (V_air : OV) (g_now : Nat → Nat) (V_now : OV) (x0 : Int32) (x1 : Int32) (x2 : Int32) {F : (Int32)} (hF : f_X7_brookHeld V V_air V_now x0 x1 x2 = F) : CI l yX7_brookHeld wsX7_brookHeld { frames := 4, cells := 0, slots := 0, locals := 98 } [.ref (g 0), .int x0, .int x1, .int x2] G (w_O7 G g a_reader (g_now 0) (g_air 0) a_acts a_sights a_slots a_plan a_trial V ++ w_O1 G g_air V_air ++ w_O2 G g_now V_now) (w_O7 G g a_reader (g_now 0) (g_air 0) a_acts a_sights a_slots a_plan a_trial V ++ w_O1 G g_air V_air ++ w_O2 G g_now V_now) F := by
  intro sz
  refine Met.ofW (cc := cX7_brookHeld) (maxL := 4) (ret := (some .int)) (by decide) rfl ?_
  intro p e s m args below meth c s₁ B hml hv
  obtain ⟨rfl, hpre⟩ := hv
  obtain ⟨hsz, hH, hK, hN, hA⟩ := kb_start hpre
  subst hsz
  have hx := B.exec
  have hb := B.bytes
  have hr := B.returns
  have hts := atoms_spec (ws := wsX7_brookHeld) B.pre
  have hown : s.vm.findClass RX7 = some m.cls := findClass_of_methodNamed B.named
  have hlocks := B.notSynchronized
  generalize hAe : va_A (List.flatten (w_O7 G g a_reader (g_now 0) (g_air 0) a_acts a_sights a_slots a_plan a_trial V ++ w_O1 G g_air V_air ++ w_O2 G g_now V_now)) s.heap.size = A at hH hA ⊢
  have hl := lv_entry ([.ref (g 0), .int x0, .int x1, .int x2]) (n := 4) (Nat.le_of_ble_eq_true rfl)
  rw [lg_entry_eq]
  generalize (lg_sl ([.ref (g 0), .int x0, .int x1, .int x2]) ++ List.replicate (4 - (lg_sl ([.ref (g 0), .int x0, .int x1, .int x2])).length) Slot.unset).toArray = ls at hl ⊢
  have hl : lv_has ls 4 [(0, .ref (g 0)), (1, .int x0), (2, .int x1), (3, .int x2)] := hl
  have hH : HP G A s.heap (w_O7 G g a_reader (g_now 0) (g_air 0) a_acts a_sights a_slots a_plan a_trial V ++ w_O1 G g_air V_air ++ w_O2 G g_now V_now) s.heap [] := hH
  have hin7 : ∀ w ∈ u_ws RX7 TX7 9, w ∈ wsX7_brookHeld := fun w h => List.mem_cons_of_mem _ (List.mem_append_left _ (List.mem_append_left _ (List.mem_append_right _ h)))
  have hF : (f_X1_brookUnder V_air V_now x0 ((((1 : Int32) <<< (x1 &&& 31)) >>> ((1 : Int32) &&& 31)) ||| (((1 : Int32) <<< (x2 &&& 31)) >>> ((1 : Int32) &&& 31))) (0 : Int32)) = F := hF
  refine lv_aload_n hx hb dX7_brookHeld_0 rfl (lv_at hl 0 rfl) ?_
  refine kb_get (v := .ref (g_air 0)) hx hb hts hin7 hown hK hH 0 rfl rfl rfl 2 (by decide) (hts (.fieldLink RX7 26 "CockWar" "air" "LCockWar$Air;") (List.mem_of_getElem? (i := 1) rfl)) (fun _ h9 => h9) rfl dX7_brookHeld_1 ?_
  refine lv_aload_n hx hb dX7_brookHeld_4 rfl (lv_at hl 0 rfl) ?_
  refine kb_get (v := .ref (g_now 0)) hx hb hts hin7 hown hK hH 0 rfl rfl rfl 1 (by decide) (hts (.fieldLink RX7 19 "CockWar" "now" "LCockWar$Hill;") (List.mem_of_getElem? (i := 2) rfl)) (fun _ h9 => h9) rfl dX7_brookHeld_5 ?_
  refine lv_iload_n hx hb dX7_brookHeld_8 rfl (lv_at hl 1 rfl) ?_
  refine lv_iconst (v := 1) hx hb dX7_brookHeld_9 (by decide) ?_
  refine lv_iload_n hx hb dX7_brookHeld_10 rfl (lv_at hl 2 rfl) ?_
  refine lv_ishl hx hb dX7_brookHeld_11 ?_
  refine lv_iconst (v := 1) hx hb dX7_brookHeld_12 (by decide) ?_
  refine lv_ishr hx hb dX7_brookHeld_13 ?_
  refine lv_iconst (v := 1) hx hb dX7_brookHeld_14 (by decide) ?_
  refine lv_iload_n hx hb dX7_brookHeld_15 rfl (lv_at hl 3 rfl) ?_
  refine lv_ishl hx hb dX7_brookHeld_16 ?_
  refine lv_iconst (v := 1) hx hb dX7_brookHeld_17 (by decide) ?_
  refine lv_ishr hx hb dX7_brookHeld_18 ?_
  refine lv_ior hx hb dX7_brookHeld_19 ?_
  refine lv_iconst (v := 0) hx hb dX7_brookHeld_20 (by decide) ?_
  refine kb_ci hH hA [1, 2, 3, 4, 5, 6, 7, 8, 9, 10] (Wc := (w_O1 G g_air V_air ++ w_O2 G g_now V_now)) (Wc' := (w_O1 G g_air V_air ++ w_O2 G g_now V_now)) (WS' := (w_O7 G g a_reader (g_now 0) (g_air 0) a_acts a_sights a_slots a_plan a_trial V ++ w_O1 G g_air V_air ++ w_O2 G g_now V_now)) rfl (by decide) rfl rfl (va_runVN (C := RX1) (As := [.ref (g_now 0), .int x0, .int ((((1 : Int32) <<< (x1 &&& 31)) >>> ((1 : Int32) &&& 31)) ||| (((1 : Int32) <<< (x2 &&& 31)) >>> ((1 : Int32) &&& 31))), .int (0 : Int32)]) (rest := []) ⟨hx, hb, hml, hown, hts⟩ (c_X1_brookUnder l G g_air V_air g_now V_now x0 ((((1 : Int32) <<< (x1 &&& 31)) >>> ((1 : Int32) &&& 31)) ||| (((1 : Int32) <<< (x2 &&& 31)) >>> ((1 : Int32) &&& 31))) (0 : Int32) rfl _) ⟨va_cnB 4 hts gX7_brookHeld_X1_brookUnder_n172 rfl rfl rfl (kb_NM hN 43 rfl) (hts (.initialized RX1) (List.mem_of_getElem? (i := 4) rfl)) hd_X1_brookUnder ⟨Nat.le_of_ble_eq_true rfl, Nat.le_of_ble_eq_true rfl⟩, (hts (.instanceMethod yX1_brookUnder) (List.mem_of_getElem? (i := 3) rfl)), (hts (.selects RX1 yX1_brookUnder yX1_brookUnder) (List.mem_of_getElem? (i := 5) rfl))⟩ (kb_preV hH hK hN [1, 2, 3, 4, 5, 6, 7, 8, 9, 10] rfl (by decide) 1 rfl rfl rfl rfl) rfl rfl hl.1 rfl (lv_room (Nat.le_of_ble_eq_true rfl)) dX7_brookHeld_21 ⟨Nat.le_of_ble_eq_true rfl, Nat.le_of_ble_eq_true rfl⟩) (fun H locs hH => ?_)
  subst hF
  exact kb_iret hx hb hr hH rfl rfl dX7_brookHeld_24 hlocks
def f_X7_isAtRest_L1 (V : OV) (V_air : OV) (V_now : OV) (x0 : Int32) (x1 : Int32) (x2 : Int32) (iL1 : Nat) (s : (Unit)) : (Unit) ⊕ (Int32) := (if (f_X7_brookHeld V V_air V_now x0 x1 x2) = (1 : Int32) then (if (f_X7_mayHold V V_now (0 : Int32) (nI iL1)) = 0 then (if (f_X7_brookHeld V V_air V_now x0 x1 x2) = 0 then (if (f_X7_mayHold V V_now (1 : Int32) (nI iL1)) = 0 then (Sum.inl ()) else (if (f_X7_brookHeld V V_air V_now x0 x1 (nI iL1)) = (1 : Int32) then (Sum.inr (0 : Int32)) else (Sum.inl ()))) else (Sum.inl ())) else (if (f_X7_brookHeld V V_air V_now x0 (nI iL1) x2) = 0 then (Sum.inr (0 : Int32)) else (if (f_X7_brookHeld V V_air V_now x0 x1 x2) = 0 then (if (f_X7_mayHold V V_now (1 : Int32) (nI iL1)) = 0 then (Sum.inl ()) else (if (f_X7_brookHeld V V_air V_now x0 x1 (nI iL1)) = (1 : Int32) then (Sum.inr (0 : Int32)) else (Sum.inl ()))) else (Sum.inl ())))) else (if (f_X7_brookHeld V V_air V_now x0 x1 x2) = 0 then (if (f_X7_mayHold V V_now (1 : Int32) (nI iL1)) = 0 then (Sum.inl ()) else (if (f_X7_brookHeld V V_air V_now x0 x1 (nI iL1)) = (1 : Int32) then (Sum.inr (0 : Int32)) else (Sum.inl ()))) else (Sum.inl ())))
def f_X7_isAtRest (V : OV) (V_air : OV) (V_now : OV) (x0 : Int32) (x1 : Int32) (x2 : Int32) : (Int32) := (kAx (lpx (f_X7_isAtRest_L1 V V_air V_now x0 x1 x2) (cM (V_now.2.1 5)) 0 ()) (fun z15 => (1 : Int32)))
def d_X7_isAtRest (V : OV) (V_air : OV) (V_now : OV) (x0 : Int32) (x1 : Int32) (x2 : Int32) : Prop := (V_now.2.1 5).toInt < 2147483647
set_option maxHeartbeats 4000000 in
set_option maxRecDepth 100000 in
theorem c_X7_isAtRest (l : Launch) (G : Ge) (g : Nat → Nat) (a_reader : Nat) (a_acts : Nat) (a_sights : Nat) (a_slots : Nat) (a_plan : Nat) (a_trial : Nat) (V : OV) (g_air : Nat → Nat) (V_air : OV) (g_now : Nat → Nat) (V_now : OV) (x0 : Int32) (x1 : Int32) (x2 : Int32) (hD : d_X7_isAtRest V V_air V_now x0 x1 x2) {F : (Int32)} (hF : f_X7_isAtRest V V_air V_now x0 x1 x2 = F) : CI l yX7_isAtRest wsX7_isAtRest { frames := 5, cells := 0, slots := 0, locals := 121 } [.ref (g 0), .int x0, .int x1, .int x2] G (w_O7 G g a_reader (g_now 0) (g_air 0) a_acts a_sights a_slots a_plan a_trial V ++ w_O1 G g_air V_air ++ w_O2 G g_now V_now) (w_O7 G g a_reader (g_now 0) (g_air 0) a_acts a_sights a_slots a_plan a_trial V ++ w_O1 G g_air V_air ++ w_O2 G g_now V_now) F := by
  intro sz
  refine Met.ofW (cc := cX7_isAtRest) (maxL := 6) (ret := (some .boolean)) (by decide) rfl ?_
  intro p e s m args below meth c s₁ B hml hv
  obtain ⟨rfl, hpre⟩ := hv
  obtain ⟨hsz, hH, hK, hN, hA⟩ := kb_start hpre
  subst hsz
  have hx := B.exec
  have hb := B.bytes
  have hr := B.returns
  have hts := atoms_spec (ws := wsX7_isAtRest) B.pre
  have hown : s.vm.findClass RX7 = some m.cls := findClass_of_methodNamed B.named
  have hlocks := B.notSynchronized
  generalize hAe : va_A (List.flatten (w_O7 G g a_reader (g_now 0) (g_air 0) a_acts a_sights a_slots a_plan a_trial V ++ w_O1 G g_air V_air ++ w_O2 G g_now V_now)) s.heap.size = A at hH hA ⊢
  have hl := lv_entry ([.ref (g 0), .int x0, .int x1, .int x2]) (n := 6) (Nat.le_of_ble_eq_true rfl)
  rw [lg_entry_eq]
  generalize (lg_sl ([.ref (g 0), .int x0, .int x1, .int x2]) ++ List.replicate (6 - (lg_sl ([.ref (g 0), .int x0, .int x1, .int x2])).length) Slot.unset).toArray = ls at hl ⊢
  have hl : lv_has ls 6 [(0, .ref (g 0)), (1, .int x0), (2, .int x1), (3, .int x2)] := hl
  have hH : HP G A s.heap (w_O7 G g a_reader (g_now 0) (g_air 0) a_acts a_sights a_slots a_plan a_trial V ++ w_O1 G g_air V_air ++ w_O2 G g_now V_now) s.heap [] := hH
  have hin2 : ∀ w ∈ u_ws RX2 TX2 11, w ∈ wsX7_isAtRest := fun w h => List.mem_cons_of_mem _ (List.mem_append_left _ (List.mem_append_right _ h))
  have hin7 : ∀ w ∈ u_ws RX7 TX7 9, w ∈ wsX7_isAtRest := fun w h => List.mem_cons_of_mem _ (List.mem_append_left _ (List.mem_append_left _ (List.mem_append_right _ h)))
  have hF : (kAx (lpx (f_X7_isAtRest_L1 V V_air V_now x0 x1 x2) (cM (V_now.2.1 5)) 0 ()) (fun z15 => (1 : Int32))) = F := hF
  have hD : (V_now.2.1 5).toInt < 2147483647 := hD
  refine lv_aload_n hx hb dX7_isAtRest_0 rfl (lv_at hl 0 rfl) ?_
  refine lv_iload_n hx hb dX7_isAtRest_1 rfl (lv_at hl 1 rfl) ?_
  refine lv_iload_n hx hb dX7_isAtRest_2 rfl (lv_at hl 2 rfl) ?_
  refine lv_iload_n hx hb dX7_isAtRest_3 rfl (lv_at hl 3 rfl) ?_
  refine kb_ci hH hA [0, 1, 2, 3, 4, 5, 6, 7, 8, 9, 10] (Wc := (w_O7 G g a_reader (g_now 0) (g_air 0) a_acts a_sights a_slots a_plan a_trial V ++ w_O1 G g_air V_air ++ w_O2 G g_now V_now)) (Wc' := (w_O7 G g a_reader (g_now 0) (g_air 0) a_acts a_sights a_slots a_plan a_trial V ++ w_O1 G g_air V_air ++ w_O2 G g_now V_now)) (WS' := (w_O7 G g a_reader (g_now 0) (g_air 0) a_acts a_sights a_slots a_plan a_trial V ++ w_O1 G g_air V_air ++ w_O2 G g_now V_now)) rfl (by decide) rfl rfl (va_runV (As := [.int x0, .int x1, .int x2]) (rest := []) ⟨hx, hb, hml, hown, hts⟩ (c_X7_brookHeld l G g a_reader a_acts a_sights a_slots a_plan a_trial V g_air V_air g_now V_now x0 x1 x2 rfl _) (cwV 3 hts gX7_isAtRest_X7_brookHeld rfl rfl rfl he_X7_brookHeld ⟨Nat.le_of_ble_eq_true rfl, Nat.le_of_ble_eq_true rfl⟩) (kb_preV hH hK hN [0, 1, 2, 3, 4, 5, 6, 7, 8, 9, 10] rfl (by decide) 0 rfl rfl rfl rfl) rfl rfl hl.1 rfl (lv_room (Nat.le_of_ble_eq_true rfl)) dX7_isAtRest_4 ⟨Nat.le_of_ble_eq_true rfl, Nat.le_of_ble_eq_true rfl⟩) (fun H locs hH => ?_)
  refine lv_istore (lv' := [(4, .int (f_X7_brookHeld V V_air V_now x0 x1 x2)), (0, .ref (g 0)), (1, .int x0), (2, .int x1), (3, .int x2)]) hx hb dX7_isAtRest_7 hl (by decide) rfl (fun ls hl => ?_)
  refine lv_iconst (v := 0) hx hb dX7_isAtRest_9 (by decide) ?_
  refine lv_istore (lv' := [(5, .int (0 : Int32)), (4, .int (f_X7_brookHeld V V_air V_now x0 x1 x2)), (0, .ref (g 0)), (1, .int x0), (2, .int x1), (3, .int x2)]) hx hb dX7_isAtRest_10 hl (by decide) rfl (fun ls hl => ?_)
  have hsdL1 := hD
  obtain ⟨SFL1, hSFL1⟩ : ∃ z, z = (lpx (f_X7_isAtRest_L1 V V_air V_now x0 x1 x2) (cM (V_now.2.1 5)) 0 ()) := ⟨_, rfl⟩
  rw [← hSFL1] at hF
  refine kb_cut (fun H locs ls => ∃ z15 : (Unit), SFL1 = Sum.inl z15 ∧ HP G A s.heap (w_O7 G g a_reader (g_now 0) (g_air 0) a_acts a_sights a_slots a_plan a_trial V ++ w_O1 G g_air V_air ++ w_O2 G g_now V_now) H locs ∧ lv_has ls 6 []) 88 [] (fun EXL1 => ?_) (fun H locs ls hX => ?_)
  · refine kb_loop (σ := (Unit)) (fun n i x => n + i = (cM (V_now.2.1 5)) ∧ lpx (f_X7_isAtRest_L1 V V_air V_now x0 x1 x2) n i x = SFL1) (fun iL1 x H locs ls => HP G A s.heap (w_O7 G g a_reader (g_now 0) (g_air 0) a_acts a_sights a_slots a_plan a_trial V ++ w_O1 G g_air V_air ++ w_O2 G g_now V_now) H locs ∧ lv_has ls 6 [(5, .int (nI iL1)), (4, .int (f_X7_brookHeld V V_air V_now x0 x1 x2)), (0, .ref (g 0)), (1, .int x0), (2, .int x1), (3, .int x2)]) (fun iL1 x H locs ls hI hX => ?_) (fun n iL1 x hI ihL1 H locs ls hX => ?_) (cM (V_now.2.1 5)) 0 () _ _ _ ⟨Nat.add_zero _, hSFL1.symm⟩ ⟨hH, lv_sub hl [0, 1, 2, 3, 4, 5] rfl⟩
    · have hH : HP G A s.heap (w_O7 G g a_reader (g_now 0) (g_air 0) a_acts a_sights a_slots a_plan a_trial V ++ w_O1 G g_air V_air ++ w_O2 G g_now V_now) H locs := hX.1
      have hl : lv_has ls 6 [(5, .int (nI iL1)), (4, .int (f_X7_brookHeld V V_air V_now x0 x1 x2)), (0, .ref (g 0)), (1, .int x0), (2, .int x1), (3, .int x2)] := hX.2
      obtain ⟨hiL1, hs⟩ := hI
      have hiL1 : iL1 = (cM (V_now.2.1 5)) := by omega
      refine lv_iload hx hb dX7_isAtRest_12 (lv_at hl 0 rfl) ?_
      refine lv_aload_n hx hb dX7_isAtRest_14 rfl (lv_at hl 2 rfl) ?_
      refine kb_get (v := .ref (g_now 0)) hx hb hts hin7 hown hK hH 0 rfl rfl rfl 1 (by decide) (hts (.fieldLink RX7 19 "CockWar" "now" "LCockWar$Hill;") (List.mem_of_getElem? (i := 1) rfl)) (fun _ h9 => h9) rfl dX7_isAtRest_15 ?_
      refine kb_getN (v := .int (V_now.2.1 5)) hx hb hts hin2 hown hK hH 5 rfl rfl rfl 5 (by decide) (kb_NF hN 10 rfl) (fun _ h9 => h9) rfl dX7_isAtRest_18 ?_
      refine lv_icmp_gt (tgt := 88) hx hb dX7_isAtRest_21 (by decide) (fun _ => ?_) (fun c => absurd (cM_end hsdL1 hiL1) c)
      exact EXL1 _ _ _ ⟨_, hs.symm, hH, lv_sub hl [] rfl⟩
    · have hH : HP G A s.heap (w_O7 G g a_reader (g_now 0) (g_air 0) a_acts a_sights a_slots a_plan a_trial V ++ w_O1 G g_air V_air ++ w_O2 G g_now V_now) H locs := hX.1
      have hl : lv_has ls 6 [(5, .int (nI iL1)), (4, .int (f_X7_brookHeld V V_air V_now x0 x1 x2)), (0, .ref (g 0)), (1, .int x0), (2, .int x1), (3, .int x2)] := hX.2
      obtain ⟨hiL1, hs⟩ := hI
      have hltL1 : iL1 < (cM (V_now.2.1 5)) := by omega
      obtain ⟨BVL1, hBd⟩ : ∃ z, (f_X7_isAtRest_L1 V V_air V_now x0 x1 x2) iL1 x = z := ⟨_, rfl⟩
      have hBL1 : (if (f_X7_brookHeld V V_air V_now x0 x1 x2) = (1 : Int32) then (if (f_X7_mayHold V V_now (0 : Int32) (nI iL1)) = 0 then (if (f_X7_brookHeld V V_air V_now x0 x1 x2) = 0 then (if (f_X7_mayHold V V_now (1 : Int32) (nI iL1)) = 0 then (Sum.inl ()) else (if (f_X7_brookHeld V V_air V_now x0 x1 (nI iL1)) = (1 : Int32) then (Sum.inr (0 : Int32)) else (Sum.inl ()))) else (Sum.inl ())) else (if (f_X7_brookHeld V V_air V_now x0 (nI iL1) x2) = 0 then (Sum.inr (0 : Int32)) else (if (f_X7_brookHeld V V_air V_now x0 x1 x2) = 0 then (if (f_X7_mayHold V V_now (1 : Int32) (nI iL1)) = 0 then (Sum.inl ()) else (if (f_X7_brookHeld V V_air V_now x0 x1 (nI iL1)) = (1 : Int32) then (Sum.inr (0 : Int32)) else (Sum.inl ()))) else (Sum.inl ())))) else (if (f_X7_brookHeld V V_air V_now x0 x1 x2) = 0 then (if (f_X7_mayHold V V_now (1 : Int32) (nI iL1)) = 0 then (Sum.inl ()) else (if (f_X7_brookHeld V V_air V_now x0 x1 (nI iL1)) = (1 : Int32) then (Sum.inr (0 : Int32)) else (Sum.inl ()))) else (Sum.inl ()))) = BVL1 := hBd
      refine lv_iload hx hb dX7_isAtRest_12 (lv_at hl 0 rfl) ?_
      refine lv_aload_n hx hb dX7_isAtRest_14 rfl (lv_at hl 2 rfl) ?_
      refine kb_get (v := .ref (g_now 0)) hx hb hts hin7 hown hK hH 0 rfl rfl rfl 1 (by decide) (hts (.fieldLink RX7 19 "CockWar" "now" "LCockWar$Hill;") (List.mem_of_getElem? (i := 1) rfl)) (fun _ h9 => h9) rfl dX7_isAtRest_15 ?_
      refine kb_getN (v := .int (V_now.2.1 5)) hx hb hts hin2 hown hK hH 5 rfl rfl rfl 5 (by decide) (kb_NF hN 10 rfl) (fun _ h9 => h9) rfl dX7_isAtRest_18 ?_
      refine lv_icmp_gt (tgt := 88) hx hb dX7_isAtRest_21 (by decide) (fun c => absurd c (cM_gt hsdL1 hltL1)) (fun c2 => ?_)
      refine lv_iload hx hb dX7_isAtRest_24 (lv_at hl 1 rfl) ?_
      refine lv_iconst (v := 1) hx hb dX7_isAtRest_26 (by decide) ?_
      refine lv_icmp_ne (tgt := 53) hx hb dX7_isAtRest_27 (by decide) (fun c3 => ?_) (fun c3 => ?_)
      · rw [if_neg c3] at hBL1
        refine lv_iload hx hb dX7_isAtRest_53 (lv_at hl 1 rfl) ?_
        refine lv_if_ne (tgt := 82) hx hb dX7_isAtRest_55 (by decide) (fun c12 => ?_) (fun c12 => ?_)
        · rw [if_neg c12] at hBL1
          refine lv_iinc (v := (nI (iL1 + 1))) (lv' := [(5, .int (nI (iL1 + 1))), (4, .int (f_X7_brookHeld V V_air V_now x0 x1 x2)), (0, .ref (g 0)), (1, .int x0), (2, .int x1), (3, .int x2)]) hx hb dX7_isAtRest_82 hl (k := 0) rfl (nI_1 _) (by decide) rfl (fun ls hl => ?_)
          refine lv_goto (tgt := 12) hx hb dX7_isAtRest_85 (by decide) ?_
          have hs := lpx_l hs (hBd.trans hBL1.symm)
          exact ihL1 _ _ _ _ ⟨by omega, hs⟩ ⟨hH, lv_sub hl [0, 1, 2, 3, 4, 5] rfl⟩
        · rw [if_pos c12] at hBL1
          refine lv_aload_n hx hb dX7_isAtRest_58 rfl (lv_at hl 2 rfl) ?_
          refine lv_iconst (v := 1) hx hb dX7_isAtRest_59 (by decide) ?_
          refine lv_iload hx hb dX7_isAtRest_60 (lv_at hl 0 rfl) ?_
          refine kb_ci hH hA [0, 5, 6, 7, 8, 9, 10] (Wc := (w_O7 G g a_reader (g_now 0) (g_air 0) a_acts a_sights a_slots a_plan a_trial V ++ w_O2 G g_now V_now)) (Wc' := (w_O7 G g a_reader (g_now 0) (g_air 0) a_acts a_sights a_slots a_plan a_trial V ++ w_O2 G g_now V_now)) (WS' := (w_O7 G g a_reader (g_now 0) (g_air 0) a_acts a_sights a_slots a_plan a_trial V ++ w_O1 G g_air V_air ++ w_O2 G g_now V_now)) rfl (by decide) rfl rfl (va_runV (As := [.int (1 : Int32), .int (nI iL1)]) (rest := []) ⟨hx, hb, hml, hown, hts⟩ (c_X7_mayHold l G g a_reader (g_air 0) a_acts a_sights a_slots a_plan a_trial V g_now V_now (1 : Int32) (nI iL1) rfl _) (cwV 2 hts gX7_isAtRest_X7_mayHold rfl rfl rfl he_X7_mayHold ⟨Nat.le_of_ble_eq_true rfl, Nat.le_of_ble_eq_true rfl⟩) (kb_preV hH hK hN [0, 5, 6, 7, 8, 9, 10] rfl (by decide) 0 rfl rfl rfl rfl) rfl rfl hl.1 rfl (lv_room (Nat.le_of_ble_eq_true rfl)) dX7_isAtRest_62 ⟨Nat.le_of_ble_eq_true rfl, Nat.le_of_ble_eq_true rfl⟩) (fun H locs hH => ?_)
          refine lv_if_eq (tgt := 82) hx hb dX7_isAtRest_65 (by decide) (fun c13 => ?_) (fun c13 => ?_)
          · rw [if_pos c13] at hBL1
            refine lv_iinc (v := (nI (iL1 + 1))) (lv' := [(5, .int (nI (iL1 + 1))), (4, .int (f_X7_brookHeld V V_air V_now x0 x1 x2)), (0, .ref (g 0)), (1, .int x0), (2, .int x1), (3, .int x2)]) hx hb dX7_isAtRest_82 hl (k := 0) rfl (nI_1 _) (by decide) rfl (fun ls hl => ?_)
            refine lv_goto (tgt := 12) hx hb dX7_isAtRest_85 (by decide) ?_
            have hs := lpx_l hs (hBd.trans hBL1.symm)
            exact ihL1 _ _ _ _ ⟨by omega, hs⟩ ⟨hH, lv_sub hl [0, 1, 2, 3, 4, 5] rfl⟩
          · rw [if_neg c13] at hBL1
            refine lv_aload_n hx hb dX7_isAtRest_68 rfl (lv_at hl 2 rfl) ?_
            refine lv_iload_n hx hb dX7_isAtRest_69 rfl (lv_at hl 3 rfl) ?_
            refine lv_iload_n hx hb dX7_isAtRest_70 rfl (lv_at hl 4 rfl) ?_
            refine lv_iload hx hb dX7_isAtRest_71 (lv_at hl 0 rfl) ?_
            refine kb_ci hH hA [0, 1, 2, 3, 4, 5, 6, 7, 8, 9, 10] (Wc := (w_O7 G g a_reader (g_now 0) (g_air 0) a_acts a_sights a_slots a_plan a_trial V ++ w_O1 G g_air V_air ++ w_O2 G g_now V_now)) (Wc' := (w_O7 G g a_reader (g_now 0) (g_air 0) a_acts a_sights a_slots a_plan a_trial V ++ w_O1 G g_air V_air ++ w_O2 G g_now V_now)) (WS' := (w_O7 G g a_reader (g_now 0) (g_air 0) a_acts a_sights a_slots a_plan a_trial V ++ w_O1 G g_air V_air ++ w_O2 G g_now V_now)) rfl (by decide) rfl rfl (va_runV (As := [.int x0, .int x1, .int (nI iL1)]) (rest := []) ⟨hx, hb, hml, hown, hts⟩ (c_X7_brookHeld l G g a_reader a_acts a_sights a_slots a_plan a_trial V g_air V_air g_now V_now x0 x1 (nI iL1) rfl _) (cwV 3 hts gX7_isAtRest_X7_brookHeld rfl rfl rfl he_X7_brookHeld ⟨Nat.le_of_ble_eq_true rfl, Nat.le_of_ble_eq_true rfl⟩) (kb_preV hH hK hN [0, 1, 2, 3, 4, 5, 6, 7, 8, 9, 10] rfl (by decide) 0 rfl rfl rfl rfl) rfl rfl hl.1 rfl (lv_room (Nat.le_of_ble_eq_true rfl)) dX7_isAtRest_73 ⟨Nat.le_of_ble_eq_true rfl, Nat.le_of_ble_eq_true rfl⟩) (fun H locs hH => ?_)
            refine lv_iconst (v := 1) hx hb dX7_isAtRest_76 (by decide) ?_
            refine lv_icmp_ne (tgt := 82) hx hb dX7_isAtRest_77 (by decide) (fun c14 => ?_) (fun c14 => ?_)
            · rw [if_neg c14] at hBL1
              refine lv_iinc (v := (nI (iL1 + 1))) (lv' := [(5, .int (nI (iL1 + 1))), (4, .int (f_X7_brookHeld V V_air V_now x0 x1 x2)), (0, .ref (g 0)), (1, .int x0), (2, .int x1), (3, .int x2)]) hx hb dX7_isAtRest_82 hl (k := 0) rfl (nI_1 _) (by decide) rfl (fun ls hl => ?_)
              refine lv_goto (tgt := 12) hx hb dX7_isAtRest_85 (by decide) ?_
              have hs := lpx_l hs (hBd.trans hBL1.symm)
              exact ihL1 _ _ _ _ ⟨by omega, hs⟩ ⟨hH, lv_sub hl [0, 1, 2, 3, 4, 5] rfl⟩
            · rw [if_pos c14] at hBL1
              refine lv_iconst (v := 0) hx hb dX7_isAtRest_80 (by decide) ?_
              have hx2 := lpx_r hs (hBd.trans hBL1.symm)
              have hF := kAx_r hF hx2
              subst hF
              exact kb_zret hx hb hr hH rfl rfl (kb_nar _ (Or.inl rfl)) dX7_isAtRest_81 hlocks
      · rw [if_pos c3] at hBL1
        refine lv_aload_n hx hb dX7_isAtRest_30 rfl (lv_at hl 2 rfl) ?_
        refine lv_iconst (v := 0) hx hb dX7_isAtRest_31 (by decide) ?_
        refine lv_iload hx hb dX7_isAtRest_32 (lv_at hl 0 rfl) ?_
        refine kb_ci hH hA [0, 5, 6, 7, 8, 9, 10] (Wc := (w_O7 G g a_reader (g_now 0) (g_air 0) a_acts a_sights a_slots a_plan a_trial V ++ w_O2 G g_now V_now)) (Wc' := (w_O7 G g a_reader (g_now 0) (g_air 0) a_acts a_sights a_slots a_plan a_trial V ++ w_O2 G g_now V_now)) (WS' := (w_O7 G g a_reader (g_now 0) (g_air 0) a_acts a_sights a_slots a_plan a_trial V ++ w_O1 G g_air V_air ++ w_O2 G g_now V_now)) rfl (by decide) rfl rfl (va_runV (As := [.int (0 : Int32), .int (nI iL1)]) (rest := []) ⟨hx, hb, hml, hown, hts⟩ (c_X7_mayHold l G g a_reader (g_air 0) a_acts a_sights a_slots a_plan a_trial V g_now V_now (0 : Int32) (nI iL1) rfl _) (cwV 2 hts gX7_isAtRest_X7_mayHold rfl rfl rfl he_X7_mayHold ⟨Nat.le_of_ble_eq_true rfl, Nat.le_of_ble_eq_true rfl⟩) (kb_preV hH hK hN [0, 5, 6, 7, 8, 9, 10] rfl (by decide) 0 rfl rfl rfl rfl) rfl rfl hl.1 rfl (lv_room (Nat.le_of_ble_eq_true rfl)) dX7_isAtRest_34 ⟨Nat.le_of_ble_eq_true rfl, Nat.le_of_ble_eq_true rfl⟩) (fun H locs hH => ?_)
        refine lv_if_eq (tgt := 53) hx hb dX7_isAtRest_37 (by decide) (fun c4 => ?_) (fun c4 => ?_)
        · rw [if_pos c4] at hBL1
          refine lv_iload hx hb dX7_isAtRest_53 (lv_at hl 1 rfl) ?_
          refine lv_if_ne (tgt := 82) hx hb dX7_isAtRest_55 (by decide) (fun c5 => ?_) (fun c5 => ?_)
          · rw [if_neg c5] at hBL1
            refine lv_iinc (v := (nI (iL1 + 1))) (lv' := [(5, .int (nI (iL1 + 1))), (4, .int (f_X7_brookHeld V V_air V_now x0 x1 x2)), (0, .ref (g 0)), (1, .int x0), (2, .int x1), (3, .int x2)]) hx hb dX7_isAtRest_82 hl (k := 0) rfl (nI_1 _) (by decide) rfl (fun ls hl => ?_)
            refine lv_goto (tgt := 12) hx hb dX7_isAtRest_85 (by decide) ?_
            have hs := lpx_l hs (hBd.trans hBL1.symm)
            exact ihL1 _ _ _ _ ⟨by omega, hs⟩ ⟨hH, lv_sub hl [0, 1, 2, 3, 4, 5] rfl⟩
          · rw [if_pos c5] at hBL1
            refine lv_aload_n hx hb dX7_isAtRest_58 rfl (lv_at hl 2 rfl) ?_
            refine lv_iconst (v := 1) hx hb dX7_isAtRest_59 (by decide) ?_
            refine lv_iload hx hb dX7_isAtRest_60 (lv_at hl 0 rfl) ?_
            refine kb_ci hH hA [0, 5, 6, 7, 8, 9, 10] (Wc := (w_O7 G g a_reader (g_now 0) (g_air 0) a_acts a_sights a_slots a_plan a_trial V ++ w_O2 G g_now V_now)) (Wc' := (w_O7 G g a_reader (g_now 0) (g_air 0) a_acts a_sights a_slots a_plan a_trial V ++ w_O2 G g_now V_now)) (WS' := (w_O7 G g a_reader (g_now 0) (g_air 0) a_acts a_sights a_slots a_plan a_trial V ++ w_O1 G g_air V_air ++ w_O2 G g_now V_now)) rfl (by decide) rfl rfl (va_runV (As := [.int (1 : Int32), .int (nI iL1)]) (rest := []) ⟨hx, hb, hml, hown, hts⟩ (c_X7_mayHold l G g a_reader (g_air 0) a_acts a_sights a_slots a_plan a_trial V g_now V_now (1 : Int32) (nI iL1) rfl _) (cwV 2 hts gX7_isAtRest_X7_mayHold rfl rfl rfl he_X7_mayHold ⟨Nat.le_of_ble_eq_true rfl, Nat.le_of_ble_eq_true rfl⟩) (kb_preV hH hK hN [0, 5, 6, 7, 8, 9, 10] rfl (by decide) 0 rfl rfl rfl rfl) rfl rfl hl.1 rfl (lv_room (Nat.le_of_ble_eq_true rfl)) dX7_isAtRest_62 ⟨Nat.le_of_ble_eq_true rfl, Nat.le_of_ble_eq_true rfl⟩) (fun H locs hH => ?_)
            refine lv_if_eq (tgt := 82) hx hb dX7_isAtRest_65 (by decide) (fun c6 => ?_) (fun c6 => ?_)
            · rw [if_pos c6] at hBL1
              refine lv_iinc (v := (nI (iL1 + 1))) (lv' := [(5, .int (nI (iL1 + 1))), (4, .int (f_X7_brookHeld V V_air V_now x0 x1 x2)), (0, .ref (g 0)), (1, .int x0), (2, .int x1), (3, .int x2)]) hx hb dX7_isAtRest_82 hl (k := 0) rfl (nI_1 _) (by decide) rfl (fun ls hl => ?_)
              refine lv_goto (tgt := 12) hx hb dX7_isAtRest_85 (by decide) ?_
              have hs := lpx_l hs (hBd.trans hBL1.symm)
              exact ihL1 _ _ _ _ ⟨by omega, hs⟩ ⟨hH, lv_sub hl [0, 1, 2, 3, 4, 5] rfl⟩
            · rw [if_neg c6] at hBL1
              refine lv_aload_n hx hb dX7_isAtRest_68 rfl (lv_at hl 2 rfl) ?_
              refine lv_iload_n hx hb dX7_isAtRest_69 rfl (lv_at hl 3 rfl) ?_
              refine lv_iload_n hx hb dX7_isAtRest_70 rfl (lv_at hl 4 rfl) ?_
              refine lv_iload hx hb dX7_isAtRest_71 (lv_at hl 0 rfl) ?_
              refine kb_ci hH hA [0, 1, 2, 3, 4, 5, 6, 7, 8, 9, 10] (Wc := (w_O7 G g a_reader (g_now 0) (g_air 0) a_acts a_sights a_slots a_plan a_trial V ++ w_O1 G g_air V_air ++ w_O2 G g_now V_now)) (Wc' := (w_O7 G g a_reader (g_now 0) (g_air 0) a_acts a_sights a_slots a_plan a_trial V ++ w_O1 G g_air V_air ++ w_O2 G g_now V_now)) (WS' := (w_O7 G g a_reader (g_now 0) (g_air 0) a_acts a_sights a_slots a_plan a_trial V ++ w_O1 G g_air V_air ++ w_O2 G g_now V_now)) rfl (by decide) rfl rfl (va_runV (As := [.int x0, .int x1, .int (nI iL1)]) (rest := []) ⟨hx, hb, hml, hown, hts⟩ (c_X7_brookHeld l G g a_reader a_acts a_sights a_slots a_plan a_trial V g_air V_air g_now V_now x0 x1 (nI iL1) rfl _) (cwV 3 hts gX7_isAtRest_X7_brookHeld rfl rfl rfl he_X7_brookHeld ⟨Nat.le_of_ble_eq_true rfl, Nat.le_of_ble_eq_true rfl⟩) (kb_preV hH hK hN [0, 1, 2, 3, 4, 5, 6, 7, 8, 9, 10] rfl (by decide) 0 rfl rfl rfl rfl) rfl rfl hl.1 rfl (lv_room (Nat.le_of_ble_eq_true rfl)) dX7_isAtRest_73 ⟨Nat.le_of_ble_eq_true rfl, Nat.le_of_ble_eq_true rfl⟩) (fun H locs hH => ?_)
              refine lv_iconst (v := 1) hx hb dX7_isAtRest_76 (by decide) ?_
              refine lv_icmp_ne (tgt := 82) hx hb dX7_isAtRest_77 (by decide) (fun c7 => ?_) (fun c7 => ?_)
              · rw [if_neg c7] at hBL1
                refine lv_iinc (v := (nI (iL1 + 1))) (lv' := [(5, .int (nI (iL1 + 1))), (4, .int (f_X7_brookHeld V V_air V_now x0 x1 x2)), (0, .ref (g 0)), (1, .int x0), (2, .int x1), (3, .int x2)]) hx hb dX7_isAtRest_82 hl (k := 0) rfl (nI_1 _) (by decide) rfl (fun ls hl => ?_)
                refine lv_goto (tgt := 12) hx hb dX7_isAtRest_85 (by decide) ?_
                have hs := lpx_l hs (hBd.trans hBL1.symm)
                exact ihL1 _ _ _ _ ⟨by omega, hs⟩ ⟨hH, lv_sub hl [0, 1, 2, 3, 4, 5] rfl⟩
              · rw [if_pos c7] at hBL1
                refine lv_iconst (v := 0) hx hb dX7_isAtRest_80 (by decide) ?_
                have hx2 := lpx_r hs (hBd.trans hBL1.symm)
                have hF := kAx_r hF hx2
                subst hF
                exact kb_zret hx hb hr hH rfl rfl (kb_nar _ (Or.inl rfl)) dX7_isAtRest_81 hlocks
        · rw [if_neg c4] at hBL1
          refine lv_aload_n hx hb dX7_isAtRest_40 rfl (lv_at hl 2 rfl) ?_
          refine lv_iload_n hx hb dX7_isAtRest_41 rfl (lv_at hl 3 rfl) ?_
          refine lv_iload hx hb dX7_isAtRest_42 (lv_at hl 0 rfl) ?_
          refine lv_iload_n hx hb dX7_isAtRest_44 rfl (lv_at hl 5 rfl) ?_
          refine kb_ci hH hA [0, 1, 2, 3, 4, 5, 6, 7, 8, 9, 10] (Wc := (w_O7 G g a_reader (g_now 0) (g_air 0) a_acts a_sights a_slots a_plan a_trial V ++ w_O1 G g_air V_air ++ w_O2 G g_now V_now)) (Wc' := (w_O7 G g a_reader (g_now 0) (g_air 0) a_acts a_sights a_slots a_plan a_trial V ++ w_O1 G g_air V_air ++ w_O2 G g_now V_now)) (WS' := (w_O7 G g a_reader (g_now 0) (g_air 0) a_acts a_sights a_slots a_plan a_trial V ++ w_O1 G g_air V_air ++ w_O2 G g_now V_now)) rfl (by decide) rfl rfl (va_runV (As := [.int x0, .int (nI iL1), .int x2]) (rest := []) ⟨hx, hb, hml, hown, hts⟩ (c_X7_brookHeld l G g a_reader a_acts a_sights a_slots a_plan a_trial V g_air V_air g_now V_now x0 (nI iL1) x2 rfl _) (cwV 3 hts gX7_isAtRest_X7_brookHeld rfl rfl rfl he_X7_brookHeld ⟨Nat.le_of_ble_eq_true rfl, Nat.le_of_ble_eq_true rfl⟩) (kb_preV hH hK hN [0, 1, 2, 3, 4, 5, 6, 7, 8, 9, 10] rfl (by decide) 0 rfl rfl rfl rfl) rfl rfl hl.1 rfl (lv_room (Nat.le_of_ble_eq_true rfl)) dX7_isAtRest_45 ⟨Nat.le_of_ble_eq_true rfl, Nat.le_of_ble_eq_true rfl⟩) (fun H locs hH => ?_)
          refine lv_if_ne (tgt := 53) hx hb dX7_isAtRest_48 (by decide) (fun c8 => ?_) (fun c8 => ?_)
          · rw [if_neg c8] at hBL1
            refine lv_iload hx hb dX7_isAtRest_53 (lv_at hl 1 rfl) ?_
            refine lv_if_ne (tgt := 82) hx hb dX7_isAtRest_55 (by decide) (fun c9 => ?_) (fun c9 => ?_)
            · rw [if_neg c9] at hBL1
              refine lv_iinc (v := (nI (iL1 + 1))) (lv' := [(5, .int (nI (iL1 + 1))), (4, .int (f_X7_brookHeld V V_air V_now x0 x1 x2)), (0, .ref (g 0)), (1, .int x0), (2, .int x1), (3, .int x2)]) hx hb dX7_isAtRest_82 hl (k := 0) rfl (nI_1 _) (by decide) rfl (fun ls hl => ?_)
              refine lv_goto (tgt := 12) hx hb dX7_isAtRest_85 (by decide) ?_
              have hs := lpx_l hs (hBd.trans hBL1.symm)
              exact ihL1 _ _ _ _ ⟨by omega, hs⟩ ⟨hH, lv_sub hl [0, 1, 2, 3, 4, 5] rfl⟩
            · rw [if_pos c9] at hBL1
              refine lv_aload_n hx hb dX7_isAtRest_58 rfl (lv_at hl 2 rfl) ?_
              refine lv_iconst (v := 1) hx hb dX7_isAtRest_59 (by decide) ?_
              refine lv_iload hx hb dX7_isAtRest_60 (lv_at hl 0 rfl) ?_
              refine kb_ci hH hA [0, 5, 6, 7, 8, 9, 10] (Wc := (w_O7 G g a_reader (g_now 0) (g_air 0) a_acts a_sights a_slots a_plan a_trial V ++ w_O2 G g_now V_now)) (Wc' := (w_O7 G g a_reader (g_now 0) (g_air 0) a_acts a_sights a_slots a_plan a_trial V ++ w_O2 G g_now V_now)) (WS' := (w_O7 G g a_reader (g_now 0) (g_air 0) a_acts a_sights a_slots a_plan a_trial V ++ w_O1 G g_air V_air ++ w_O2 G g_now V_now)) rfl (by decide) rfl rfl (va_runV (As := [.int (1 : Int32), .int (nI iL1)]) (rest := []) ⟨hx, hb, hml, hown, hts⟩ (c_X7_mayHold l G g a_reader (g_air 0) a_acts a_sights a_slots a_plan a_trial V g_now V_now (1 : Int32) (nI iL1) rfl _) (cwV 2 hts gX7_isAtRest_X7_mayHold rfl rfl rfl he_X7_mayHold ⟨Nat.le_of_ble_eq_true rfl, Nat.le_of_ble_eq_true rfl⟩) (kb_preV hH hK hN [0, 5, 6, 7, 8, 9, 10] rfl (by decide) 0 rfl rfl rfl rfl) rfl rfl hl.1 rfl (lv_room (Nat.le_of_ble_eq_true rfl)) dX7_isAtRest_62 ⟨Nat.le_of_ble_eq_true rfl, Nat.le_of_ble_eq_true rfl⟩) (fun H locs hH => ?_)
              refine lv_if_eq (tgt := 82) hx hb dX7_isAtRest_65 (by decide) (fun c10 => ?_) (fun c10 => ?_)
              · rw [if_pos c10] at hBL1
                refine lv_iinc (v := (nI (iL1 + 1))) (lv' := [(5, .int (nI (iL1 + 1))), (4, .int (f_X7_brookHeld V V_air V_now x0 x1 x2)), (0, .ref (g 0)), (1, .int x0), (2, .int x1), (3, .int x2)]) hx hb dX7_isAtRest_82 hl (k := 0) rfl (nI_1 _) (by decide) rfl (fun ls hl => ?_)
                refine lv_goto (tgt := 12) hx hb dX7_isAtRest_85 (by decide) ?_
                have hs := lpx_l hs (hBd.trans hBL1.symm)
                exact ihL1 _ _ _ _ ⟨by omega, hs⟩ ⟨hH, lv_sub hl [0, 1, 2, 3, 4, 5] rfl⟩
              · rw [if_neg c10] at hBL1
                refine lv_aload_n hx hb dX7_isAtRest_68 rfl (lv_at hl 2 rfl) ?_
                refine lv_iload_n hx hb dX7_isAtRest_69 rfl (lv_at hl 3 rfl) ?_
                refine lv_iload_n hx hb dX7_isAtRest_70 rfl (lv_at hl 4 rfl) ?_
                refine lv_iload hx hb dX7_isAtRest_71 (lv_at hl 0 rfl) ?_
                refine kb_ci hH hA [0, 1, 2, 3, 4, 5, 6, 7, 8, 9, 10] (Wc := (w_O7 G g a_reader (g_now 0) (g_air 0) a_acts a_sights a_slots a_plan a_trial V ++ w_O1 G g_air V_air ++ w_O2 G g_now V_now)) (Wc' := (w_O7 G g a_reader (g_now 0) (g_air 0) a_acts a_sights a_slots a_plan a_trial V ++ w_O1 G g_air V_air ++ w_O2 G g_now V_now)) (WS' := (w_O7 G g a_reader (g_now 0) (g_air 0) a_acts a_sights a_slots a_plan a_trial V ++ w_O1 G g_air V_air ++ w_O2 G g_now V_now)) rfl (by decide) rfl rfl (va_runV (As := [.int x0, .int x1, .int (nI iL1)]) (rest := []) ⟨hx, hb, hml, hown, hts⟩ (c_X7_brookHeld l G g a_reader a_acts a_sights a_slots a_plan a_trial V g_air V_air g_now V_now x0 x1 (nI iL1) rfl _) (cwV 3 hts gX7_isAtRest_X7_brookHeld rfl rfl rfl he_X7_brookHeld ⟨Nat.le_of_ble_eq_true rfl, Nat.le_of_ble_eq_true rfl⟩) (kb_preV hH hK hN [0, 1, 2, 3, 4, 5, 6, 7, 8, 9, 10] rfl (by decide) 0 rfl rfl rfl rfl) rfl rfl hl.1 rfl (lv_room (Nat.le_of_ble_eq_true rfl)) dX7_isAtRest_73 ⟨Nat.le_of_ble_eq_true rfl, Nat.le_of_ble_eq_true rfl⟩) (fun H locs hH => ?_)
                refine lv_iconst (v := 1) hx hb dX7_isAtRest_76 (by decide) ?_
                refine lv_icmp_ne (tgt := 82) hx hb dX7_isAtRest_77 (by decide) (fun c11 => ?_) (fun c11 => ?_)
                · rw [if_neg c11] at hBL1
                  refine lv_iinc (v := (nI (iL1 + 1))) (lv' := [(5, .int (nI (iL1 + 1))), (4, .int (f_X7_brookHeld V V_air V_now x0 x1 x2)), (0, .ref (g 0)), (1, .int x0), (2, .int x1), (3, .int x2)]) hx hb dX7_isAtRest_82 hl (k := 0) rfl (nI_1 _) (by decide) rfl (fun ls hl => ?_)
                  refine lv_goto (tgt := 12) hx hb dX7_isAtRest_85 (by decide) ?_
                  have hs := lpx_l hs (hBd.trans hBL1.symm)
                  exact ihL1 _ _ _ _ ⟨by omega, hs⟩ ⟨hH, lv_sub hl [0, 1, 2, 3, 4, 5] rfl⟩
                · rw [if_pos c11] at hBL1
                  refine lv_iconst (v := 0) hx hb dX7_isAtRest_80 (by decide) ?_
                  have hx2 := lpx_r hs (hBd.trans hBL1.symm)
                  have hF := kAx_r hF hx2
                  subst hF
                  exact kb_zret hx hb hr hH rfl rfl (kb_nar _ (Or.inl rfl)) dX7_isAtRest_81 hlocks
          · rw [if_pos c8] at hBL1
            refine lv_iconst (v := 0) hx hb dX7_isAtRest_51 (by decide) ?_
            have hx2 := lpx_r hs (hBd.trans hBL1.symm)
            have hF := kAx_r hF hx2
            subst hF
            exact kb_zret hx hb hr hH rfl rfl (kb_nar _ (Or.inl rfl)) dX7_isAtRest_52 hlocks
  · obtain ⟨z15, hzz15, hH, hl⟩ := hX
    have hF := kAx_l hF hzz15
    refine lv_iconst (v := 1) hx hb dX7_isAtRest_88 (by decide) ?_
    subst hF
    exact kb_zret hx hb hr hH rfl rfl (kb_nar _ (Or.inr rfl)) dX7_isAtRest_89 hlocks
def f_X7_rests_L6 (V : OV) (V_air : OV) (V_now : OV) (x0 : Int32) (iL4 : Nat) (iL6 : Nat) (s : (Int32 × Int32)) : (Int32 × Int32) := (if (f_X7_mayHold V V_now (0 : Int32) (nI iL4)) = 0 then (s.1, s.2) else (if (f_X7_mayHold V V_now (1 : Int32) (nI iL6)) = 0 then (s.1, s.2) else (if (f_X7_isAtRest V V_air V_now x0 (nI iL4) (nI iL6)) = 0 then (s.1, s.2) else (if s.1 = (-9 : Int32) then ((((10 : Int32) * (nI iL4)) + (nI iL6)), (s.2 + (1 : Int32))) else (s.1, (s.2 + (1 : Int32)))))))
def d_X7_rests_L6 (V : OV) (V_air : OV) (V_now : OV) (x0 : Int32) (iL4 : Nat) (iL6 : Nat) (s : (Int32 × Int32)) : Prop := (¬ ((f_X7_mayHold V V_now (0 : Int32) (nI iL4)) = 0) → (¬ ((f_X7_mayHold V V_now (1 : Int32) (nI iL6)) = 0) → (d_X7_isAtRest V V_air V_now x0 (nI iL4) (nI iL6))))
def f_X7_rests_L4 (V : OV) (V_air : OV) (V_now : OV) (x0 : Int32) (iL4 : Nat) (s : (Int32 × Int32)) : (Int32 × Int32) := (kAp (lpu (f_X7_rests_L6 V V_air V_now x0 iL4) (cM (V_now.2.1 5)) 0 (s.1, s.2)) (fun z13 => (z13.1, z13.2)))
def d_X7_rests_L4 (V : OV) (V_air : OV) (V_now : OV) (x0 : Int32) (iL4 : Nat) (s : (Int32 × Int32)) : Prop := ((V_now.2.1 5).toInt < 2147483647 ∧ (lpuD (f_X7_rests_L6 V V_air V_now x0 iL4) (d_X7_rests_L6 V V_air V_now x0 iL4) (cM (V_now.2.1 5)) 0 (s.1, s.2)))
def f_X7_rests (V : OV) (V_air : OV) (V_now : OV) (x0 : Int32) (x1 : Int32) : (Int32) := (if (f_X1_hasWind V_air x0) = 0 then (-1 : Int32) else (if x1 < 0 then (-2 : Int32) else (if x1 ≤ (1 : Int32) then (kAp (lpu (f_X7_rests_L4 V V_air V_now x0) (cM (V_now.2.1 5)) 0 ((-9 : Int32), (0 : Int32))) (fun z14 => (if x1 = 0 then z14.2 else z14.1))) else (-2 : Int32))))
def d_X7_rests (V : OV) (V_air : OV) (V_now : OV) (x0 : Int32) (x1 : Int32) : Prop := (¬ ((f_X1_hasWind V_air x0) = 0) → (¬ (x1 < 0) → (x1 ≤ (1 : Int32) → ((V_now.2.1 5).toInt < 2147483647 ∧ (lpuD (f_X7_rests_L4 V V_air V_now x0) (d_X7_rests_L4 V V_air V_now x0) (cM (V_now.2.1 5)) 0 ((-9 : Int32), (0 : Int32)))))))
set_option maxHeartbeats 4000000 in
set_option maxRecDepth 100000 in
theorem c_X7_rests (l : Launch) (G : Ge) (g : Nat → Nat) (a_reader : Nat) (a_acts : Nat) (a_sights : Nat) (a_slots : Nat) (a_plan : Nat) (a_trial : Nat) (V : OV) (g_air : Nat → Nat) (V_air : OV) (g_now : Nat → Nat) (V_now : OV) (x0 : Int32) (x1 : Int32) (hD : d_X7_rests V V_air V_now x0 x1) {F : (Int32)} (hF : f_X7_rests V V_air V_now x0 x1 = F) : CI l yX7_rests wsX7_rests { frames := 6, cells := 0, slots := 0, locals := 146 } [.ref (g 0), .int x0, .int x1] G (w_O7 G g a_reader (g_now 0) (g_air 0) a_acts a_sights a_slots a_plan a_trial V ++ w_O1 G g_air V_air ++ w_O2 G g_now V_now) (w_O7 G g a_reader (g_now 0) (g_air 0) a_acts a_sights a_slots a_plan a_trial V ++ w_O1 G g_air V_air ++ w_O2 G g_now V_now) F := by
  intro sz
  refine Met.ofW (cc := cX7_rests) (maxL := 7) (ret := (some .int)) (by decide) rfl ?_
  intro p e s m args below meth c s₁ B hml hv
  obtain ⟨rfl, hpre⟩ := hv
  obtain ⟨hsz, hH, hK, hN, hA⟩ := kb_start hpre
  subst hsz
  have hx := B.exec
  have hb := B.bytes
  have hr := B.returns
  have hts := atoms_spec (ws := wsX7_rests) B.pre
  have hown : s.vm.findClass RX7 = some m.cls := findClass_of_methodNamed B.named
  have hlocks := B.notSynchronized
  generalize hAe : va_A (List.flatten (w_O7 G g a_reader (g_now 0) (g_air 0) a_acts a_sights a_slots a_plan a_trial V ++ w_O1 G g_air V_air ++ w_O2 G g_now V_now)) s.heap.size = A at hH hA ⊢
  have hl := lv_entry ([.ref (g 0), .int x0, .int x1]) (n := 7) (Nat.le_of_ble_eq_true rfl)
  rw [lg_entry_eq]
  generalize (lg_sl ([.ref (g 0), .int x0, .int x1]) ++ List.replicate (7 - (lg_sl ([.ref (g 0), .int x0, .int x1])).length) Slot.unset).toArray = ls at hl ⊢
  have hl : lv_has ls 7 [(0, .ref (g 0)), (1, .int x0), (2, .int x1)] := hl
  have hH : HP G A s.heap (w_O7 G g a_reader (g_now 0) (g_air 0) a_acts a_sights a_slots a_plan a_trial V ++ w_O1 G g_air V_air ++ w_O2 G g_now V_now) s.heap [] := hH
  have hin2 : ∀ w ∈ u_ws RX2 TX2 11, w ∈ wsX7_rests := fun w h => List.mem_cons_of_mem _ (List.mem_append_left _ (List.mem_append_right _ h))
  have hin7 : ∀ w ∈ u_ws RX7 TX7 9, w ∈ wsX7_rests := fun w h => List.mem_cons_of_mem _ (List.mem_append_left _ (List.mem_append_left _ (List.mem_append_right _ h)))
  have hF : (if (f_X1_hasWind V_air x0) = 0 then (-1 : Int32) else (if x1 < 0 then (-2 : Int32) else (if x1 ≤ (1 : Int32) then (kAp (lpu (f_X7_rests_L4 V V_air V_now x0) (cM (V_now.2.1 5)) 0 ((-9 : Int32), (0 : Int32))) (fun z14 => (if x1 = 0 then z14.2 else z14.1))) else (-2 : Int32)))) = F := hF
  have hD : (¬ ((f_X1_hasWind V_air x0) = 0) → (¬ (x1 < 0) → (x1 ≤ (1 : Int32) → ((V_now.2.1 5).toInt < 2147483647 ∧ (lpuD (f_X7_rests_L4 V V_air V_now x0) (d_X7_rests_L4 V V_air V_now x0) (cM (V_now.2.1 5)) 0 ((-9 : Int32), (0 : Int32))))))) := hD
  refine lv_aload_n hx hb dX7_rests_0 rfl (lv_at hl 0 rfl) ?_
  refine kb_get (v := .ref (g_air 0)) hx hb hts hin7 hown hK hH 0 rfl rfl rfl 2 (by decide) (hts (.fieldLink RX7 26 "CockWar" "air" "LCockWar$Air;") (List.mem_of_getElem? (i := 1) rfl)) (fun _ h9 => h9) rfl dX7_rests_1 ?_
  refine lv_iload_n hx hb dX7_rests_4 rfl (lv_at hl 1 rfl) ?_
  refine kb_ci hH hA [1, 2, 3, 4] (Wc := (w_O1 G g_air V_air)) (Wc' := (w_O1 G g_air V_air)) (WS' := (w_O7 G g a_reader (g_now 0) (g_air 0) a_acts a_sights a_slots a_plan a_trial V ++ w_O1 G g_air V_air ++ w_O2 G g_now V_now)) rfl (by decide) rfl rfl (va_runVN (C := RX1) (As := [.int x0]) (rest := []) ⟨hx, hb, hml, hown, hts⟩ (c_X1_hasWind l G g_air V_air x0 rfl _) ⟨va_cnB 1 hts gX7_rests_X1_hasWind_n138 rfl rfl rfl (kb_NM hN 32 rfl) (hts (.initialized RX1) (List.mem_of_getElem? (i := 4) rfl)) hd_X1_hasWind ⟨Nat.le_of_ble_eq_true rfl, Nat.le_of_ble_eq_true rfl⟩, (hts (.instanceMethod yX1_hasWind) (List.mem_of_getElem? (i := 3) rfl)), (hts (.selects RX1 yX1_hasWind yX1_hasWind) (List.mem_of_getElem? (i := 5) rfl))⟩ (kb_preV hH hK hN [1, 2, 3, 4] rfl (by decide) 1 rfl rfl rfl rfl) rfl rfl hl.1 rfl (lv_room (Nat.le_of_ble_eq_true rfl)) dX7_rests_5 ⟨Nat.le_of_ble_eq_true rfl, Nat.le_of_ble_eq_true rfl⟩) (fun H locs hH => ?_)
  refine lv_if_ne (tgt := 13) hx hb dX7_rests_8 (by decide) (fun c1 => ?_) (fun c1 => ?_)
  · have hD := hD c1
    rw [if_neg c1] at hF
    refine lv_iload_n hx hb dX7_rests_13 rfl (lv_at hl 2 rfl) ?_
    refine lv_if_lt (tgt := 22) hx hb dX7_rests_14 (by decide) (fun c2 => ?_) (fun c2 => ?_)
    · rw [if_pos c2] at hF
      refine lv_bipush (v := -2) hx hb dX7_rests_22 (by decide) ?_
      subst hF
      exact kb_iret hx hb hr hH rfl rfl dX7_rests_24 hlocks
    · have hD := hD c2
      rw [if_neg c2] at hF
      refine lv_iload_n hx hb dX7_rests_17 rfl (lv_at hl 2 rfl) ?_
      refine lv_iconst (v := 1) hx hb dX7_rests_18 (by decide) ?_
      refine lv_icmp_le (tgt := 25) hx hb dX7_rests_19 (by decide) (fun c3 => ?_) (fun c3 => ?_)
      · have hD := hD c3
        rw [if_pos c3] at hF
        refine lv_iconst (v := 0) hx hb dX7_rests_25 (by decide) ?_
        refine lv_istore_n (lv' := [(3, .int (0 : Int32)), (0, .ref (g 0)), (1, .int x0), (2, .int x1)]) hx hb dX7_rests_26 rfl hl (by decide) rfl (fun ls hl => ?_)
        refine lv_bipush (v := -9) hx hb dX7_rests_27 (by decide) ?_
        refine lv_istore (lv' := [(4, .int (-9 : Int32)), (3, .int (0 : Int32)), (0, .ref (g 0)), (1, .int x0), (2, .int x1)]) hx hb dX7_rests_29 hl (by decide) rfl (fun ls hl => ?_)
        refine lv_iconst (v := 0) hx hb dX7_rests_31 (by decide) ?_
        refine lv_istore (lv' := [(5, .int (0 : Int32)), (4, .int (-9 : Int32)), (3, .int (0 : Int32)), (0, .ref (g 0)), (1, .int x0), (2, .int x1)]) hx hb dX7_rests_32 hl (by decide) rfl (fun ls hl => ?_)
        obtain ⟨hsdL4, hD⟩ := hD
        have hDlL4 := hD
        obtain ⟨SFL4, hSFL4⟩ : ∃ z, z = (lpu (f_X7_rests_L4 V V_air V_now x0) (cM (V_now.2.1 5)) 0 ((-9 : Int32), (0 : Int32))) := ⟨_, rfl⟩
        have hF := kAp_eq hF hSFL4
        refine kb_cut (fun H locs ls => HP G A s.heap (w_O7 G g a_reader (g_now 0) (g_air 0) a_acts a_sights a_slots a_plan a_trial V ++ w_O1 G g_air V_air ++ w_O2 G g_now V_now) H locs ∧ lv_has ls 7 [(4, .int SFL4.1), (3, .int SFL4.2), (2, .int x1)]) 130 [] (fun EXL4 => ?_) (fun H locs ls hX => ?_)
        · refine kb_loop (σ := (Int32 × Int32)) (fun n i x => n + i = (cM (V_now.2.1 5)) ∧ lpu (f_X7_rests_L4 V V_air V_now x0) n i x = SFL4 ∧ lpuD (f_X7_rests_L4 V V_air V_now x0) (d_X7_rests_L4 V V_air V_now x0) n i x) (fun iL4 x H locs ls => HP G A s.heap (w_O7 G g a_reader (g_now 0) (g_air 0) a_acts a_sights a_slots a_plan a_trial V ++ w_O1 G g_air V_air ++ w_O2 G g_now V_now) H locs ∧ lv_has ls 7 [(5, .int (nI iL4)), (4, .int x.1), (3, .int x.2), (0, .ref (g 0)), (1, .int x0), (2, .int x1)]) (fun iL4 x H locs ls hI hX => ?_) (fun n iL4 x hI ihL4 H locs ls hX => ?_) (cM (V_now.2.1 5)) 0 ((-9 : Int32), (0 : Int32)) _ _ _ ⟨Nat.add_zero _, hSFL4.symm, hDlL4⟩ ⟨hH, lv_sub hl [0, 1, 2, 3, 4, 5] rfl⟩
          · obtain ⟨L4a, L4b⟩ := x
            have hH : HP G A s.heap (w_O7 G g a_reader (g_now 0) (g_air 0) a_acts a_sights a_slots a_plan a_trial V ++ w_O1 G g_air V_air ++ w_O2 G g_now V_now) H locs := hX.1
            have hl : lv_has ls 7 [(5, .int (nI iL4)), (4, .int L4a), (3, .int L4b), (0, .ref (g 0)), (1, .int x0), (2, .int x1)] := hX.2
            obtain ⟨hiL4, hs, _⟩ := hI
            have hiL4 : iL4 = (cM (V_now.2.1 5)) := by omega
            refine lv_iload hx hb dX7_rests_34 (lv_at hl 0 rfl) ?_
            refine lv_aload_n hx hb dX7_rests_36 rfl (lv_at hl 3 rfl) ?_
            refine kb_get (v := .ref (g_now 0)) hx hb hts hin7 hown hK hH 0 rfl rfl rfl 1 (by decide) (hts (.fieldLink RX7 19 "CockWar" "now" "LCockWar$Hill;") (List.mem_of_getElem? (i := 2) rfl)) (fun _ h9 => h9) rfl dX7_rests_37 ?_
            refine kb_getN (v := .int (V_now.2.1 5)) hx hb hts hin2 hown hK hH 5 rfl rfl rfl 5 (by decide) (kb_NF hN 10 rfl) (fun _ h9 => h9) rfl dX7_rests_40 ?_
            refine lv_icmp_gt (tgt := 130) hx hb dX7_rests_43 (by decide) (fun _ => ?_) (fun c => absurd (cM_end hsdL4 hiL4) c)
            exact EXL4 _ _ _ ⟨by subst hs; exact hH, by subst hs; exact lv_sub hl [1, 2, 5] rfl⟩
          · obtain ⟨L4a, L4b⟩ := x
            have hH : HP G A s.heap (w_O7 G g a_reader (g_now 0) (g_air 0) a_acts a_sights a_slots a_plan a_trial V ++ w_O1 G g_air V_air ++ w_O2 G g_now V_now) H locs := hX.1
            have hl : lv_has ls 7 [(5, .int (nI iL4)), (4, .int L4a), (3, .int L4b), (0, .ref (g 0)), (1, .int x0), (2, .int x1)] := hX.2
            obtain ⟨hiL4, hs, hDi⟩ := hI
            obtain ⟨hD, hDn⟩ := hDi
            have hD : ((V_now.2.1 5).toInt < 2147483647 ∧ (lpuD (f_X7_rests_L6 V V_air V_now x0 iL4) (d_X7_rests_L6 V V_air V_now x0 iL4) (cM (V_now.2.1 5)) 0 (L4a, L4b))) := hD
            have hltL4 : iL4 < (cM (V_now.2.1 5)) := by omega
            obtain ⟨BVL4, hBd⟩ : ∃ z, (f_X7_rests_L4 V V_air V_now x0) iL4 (L4a, L4b) = z := ⟨_, rfl⟩
            have hs : lpu (f_X7_rests_L4 V V_air V_now x0) n (iL4 + 1) BVL4 = SFL4 := by rw [← hBd]; exact hs
            have hDn : lpuD (f_X7_rests_L4 V V_air V_now x0) (d_X7_rests_L4 V V_air V_now x0) n (iL4 + 1) BVL4 := by rw [← hBd]; exact hDn
            have hBL4 : (kAp (lpu (f_X7_rests_L6 V V_air V_now x0 iL4) (cM (V_now.2.1 5)) 0 (L4a, L4b)) (fun z13 => (z13.1, z13.2))) = BVL4 := hBd
            refine lv_iload hx hb dX7_rests_34 (lv_at hl 0 rfl) ?_
            refine lv_aload_n hx hb dX7_rests_36 rfl (lv_at hl 3 rfl) ?_
            refine kb_get (v := .ref (g_now 0)) hx hb hts hin7 hown hK hH 0 rfl rfl rfl 1 (by decide) (hts (.fieldLink RX7 19 "CockWar" "now" "LCockWar$Hill;") (List.mem_of_getElem? (i := 2) rfl)) (fun _ h9 => h9) rfl dX7_rests_37 ?_
            refine kb_getN (v := .int (V_now.2.1 5)) hx hb hts hin2 hown hK hH 5 rfl rfl rfl 5 (by decide) (kb_NF hN 10 rfl) (fun _ h9 => h9) rfl dX7_rests_40 ?_
            refine lv_icmp_gt (tgt := 130) hx hb dX7_rests_43 (by decide) (fun c => absurd c (cM_gt hsdL4 hltL4)) (fun c5 => ?_)
            refine lv_iconst (v := 0) hx hb dX7_rests_46 (by decide) ?_
            refine lv_istore (lv' := [(6, .int (0 : Int32)), (5, .int (nI iL4)), (4, .int L4a), (3, .int L4b), (0, .ref (g 0)), (1, .int x0), (2, .int x1)]) hx hb dX7_rests_47 hl (by decide) rfl (fun ls hl => ?_)
            obtain ⟨hsdL6, hD⟩ := hD
            have hDlL6 := hD
            obtain ⟨SFL6, hSFL6⟩ : ∃ z, z = (lpu (f_X7_rests_L6 V V_air V_now x0 iL4) (cM (V_now.2.1 5)) 0 (L4a, L4b)) := ⟨_, rfl⟩
            have hBL4 := kAp_eq hBL4 hSFL6
            refine kb_cut (fun H locs ls => HP G A s.heap (w_O7 G g a_reader (g_now 0) (g_air 0) a_acts a_sights a_slots a_plan a_trial V ++ w_O1 G g_air V_air ++ w_O2 G g_now V_now) H locs ∧ lv_has ls 7 [(5, .int (nI iL4)), (4, .int SFL6.1), (3, .int SFL6.2), (0, .ref (g 0)), (1, .int x0), (2, .int x1)]) 124 [] (fun EXL6 => ?_) (fun H locs ls hX => ?_)
            · refine kb_loop (σ := (Int32 × Int32)) (fun n i x => n + i = (cM (V_now.2.1 5)) ∧ lpu (f_X7_rests_L6 V V_air V_now x0 iL4) n i x = SFL6 ∧ lpuD (f_X7_rests_L6 V V_air V_now x0 iL4) (d_X7_rests_L6 V V_air V_now x0 iL4) n i x) (fun iL6 x H locs ls => HP G A s.heap (w_O7 G g a_reader (g_now 0) (g_air 0) a_acts a_sights a_slots a_plan a_trial V ++ w_O1 G g_air V_air ++ w_O2 G g_now V_now) H locs ∧ lv_has ls 7 [(6, .int (nI iL6)), (5, .int (nI iL4)), (4, .int x.1), (3, .int x.2), (0, .ref (g 0)), (1, .int x0), (2, .int x1)]) (fun iL6 x H locs ls hI hX => ?_) (fun n iL6 x hI ihL6 H locs ls hX => ?_) (cM (V_now.2.1 5)) 0 (L4a, L4b) _ _ _ ⟨Nat.add_zero _, hSFL6.symm, hDlL6⟩ ⟨hH, lv_sub hl [0, 1, 2, 3, 4, 5, 6] rfl⟩
              · obtain ⟨L6a, L6b⟩ := x
                have hH : HP G A s.heap (w_O7 G g a_reader (g_now 0) (g_air 0) a_acts a_sights a_slots a_plan a_trial V ++ w_O1 G g_air V_air ++ w_O2 G g_now V_now) H locs := hX.1
                have hl : lv_has ls 7 [(6, .int (nI iL6)), (5, .int (nI iL4)), (4, .int L6a), (3, .int L6b), (0, .ref (g 0)), (1, .int x0), (2, .int x1)] := hX.2
                obtain ⟨hiL6, hs, _⟩ := hI
                have hiL6 : iL6 = (cM (V_now.2.1 5)) := by omega
                refine lv_iload hx hb dX7_rests_49 (lv_at hl 0 rfl) ?_
                refine lv_aload_n hx hb dX7_rests_51 rfl (lv_at hl 4 rfl) ?_
                refine kb_get (v := .ref (g_now 0)) hx hb hts hin7 hown hK hH 0 rfl rfl rfl 1 (by decide) (hts (.fieldLink RX7 19 "CockWar" "now" "LCockWar$Hill;") (List.mem_of_getElem? (i := 2) rfl)) (fun _ h9 => h9) rfl dX7_rests_52 ?_
                refine kb_getN (v := .int (V_now.2.1 5)) hx hb hts hin2 hown hK hH 5 rfl rfl rfl 5 (by decide) (kb_NF hN 10 rfl) (fun _ h9 => h9) rfl dX7_rests_55 ?_
                refine lv_icmp_gt (tgt := 124) hx hb dX7_rests_58 (by decide) (fun _ => ?_) (fun c => absurd (cM_end hsdL6 hiL6) c)
                exact EXL6 _ _ _ ⟨by subst hs; exact hH, by subst hs; exact lv_sub hl [1, 2, 3, 4, 5, 6] rfl⟩
              · obtain ⟨L6a, L6b⟩ := x
                have hH : HP G A s.heap (w_O7 G g a_reader (g_now 0) (g_air 0) a_acts a_sights a_slots a_plan a_trial V ++ w_O1 G g_air V_air ++ w_O2 G g_now V_now) H locs := hX.1
                have hl : lv_has ls 7 [(6, .int (nI iL6)), (5, .int (nI iL4)), (4, .int L6a), (3, .int L6b), (0, .ref (g 0)), (1, .int x0), (2, .int x1)] := hX.2
                obtain ⟨hiL6, hs, hDi⟩ := hI
                obtain ⟨hD, hDn⟩ := hDi
                have hD : (¬ ((f_X7_mayHold V V_now (0 : Int32) (nI iL4)) = 0) → (¬ ((f_X7_mayHold V V_now (1 : Int32) (nI iL6)) = 0) → (d_X7_isAtRest V V_air V_now x0 (nI iL4) (nI iL6)))) := hD
                have hltL6 : iL6 < (cM (V_now.2.1 5)) := by omega
                obtain ⟨BVL6, hBd⟩ : ∃ z, (f_X7_rests_L6 V V_air V_now x0 iL4) iL6 (L6a, L6b) = z := ⟨_, rfl⟩
                have hs : lpu (f_X7_rests_L6 V V_air V_now x0 iL4) n (iL6 + 1) BVL6 = SFL6 := by rw [← hBd]; exact hs
                have hDn : lpuD (f_X7_rests_L6 V V_air V_now x0 iL4) (d_X7_rests_L6 V V_air V_now x0 iL4) n (iL6 + 1) BVL6 := by rw [← hBd]; exact hDn
                have hBL6 : (if (f_X7_mayHold V V_now (0 : Int32) (nI iL4)) = 0 then (L6a, L6b) else (if (f_X7_mayHold V V_now (1 : Int32) (nI iL6)) = 0 then (L6a, L6b) else (if (f_X7_isAtRest V V_air V_now x0 (nI iL4) (nI iL6)) = 0 then (L6a, L6b) else (if L6a = (-9 : Int32) then ((((10 : Int32) * (nI iL4)) + (nI iL6)), (L6b + (1 : Int32))) else (L6a, (L6b + (1 : Int32))))))) = BVL6 := hBd
                refine lv_iload hx hb dX7_rests_49 (lv_at hl 0 rfl) ?_
                refine lv_aload_n hx hb dX7_rests_51 rfl (lv_at hl 4 rfl) ?_
                refine kb_get (v := .ref (g_now 0)) hx hb hts hin7 hown hK hH 0 rfl rfl rfl 1 (by decide) (hts (.fieldLink RX7 19 "CockWar" "now" "LCockWar$Hill;") (List.mem_of_getElem? (i := 2) rfl)) (fun _ h9 => h9) rfl dX7_rests_52 ?_
                refine kb_getN (v := .int (V_now.2.1 5)) hx hb hts hin2 hown hK hH 5 rfl rfl rfl 5 (by decide) (kb_NF hN 10 rfl) (fun _ h9 => h9) rfl dX7_rests_55 ?_
                refine lv_icmp_gt (tgt := 124) hx hb dX7_rests_58 (by decide) (fun c => absurd c (cM_gt hsdL6 hltL6)) (fun c7 => ?_)
                refine lv_aload_n hx hb dX7_rests_61 rfl (lv_at hl 4 rfl) ?_
                refine lv_iconst (v := 0) hx hb dX7_rests_62 (by decide) ?_
                refine lv_iload hx hb dX7_rests_63 (lv_at hl 1 rfl) ?_
                refine kb_ci hH hA [0, 5, 6, 7, 8, 9, 10] (Wc := (w_O7 G g a_reader (g_now 0) (g_air 0) a_acts a_sights a_slots a_plan a_trial V ++ w_O2 G g_now V_now)) (Wc' := (w_O7 G g a_reader (g_now 0) (g_air 0) a_acts a_sights a_slots a_plan a_trial V ++ w_O2 G g_now V_now)) (WS' := (w_O7 G g a_reader (g_now 0) (g_air 0) a_acts a_sights a_slots a_plan a_trial V ++ w_O1 G g_air V_air ++ w_O2 G g_now V_now)) rfl (by decide) rfl rfl (va_runV (As := [.int (0 : Int32), .int (nI iL4)]) (rest := []) ⟨hx, hb, hml, hown, hts⟩ (c_X7_mayHold l G g a_reader (g_air 0) a_acts a_sights a_slots a_plan a_trial V g_now V_now (0 : Int32) (nI iL4) rfl _) (cwV 2 hts gX7_rests_X7_mayHold rfl rfl rfl he_X7_mayHold ⟨Nat.le_of_ble_eq_true rfl, Nat.le_of_ble_eq_true rfl⟩) (kb_preV hH hK hN [0, 5, 6, 7, 8, 9, 10] rfl (by decide) 0 rfl rfl rfl rfl) rfl rfl hl.1 rfl (lv_room (Nat.le_of_ble_eq_true rfl)) dX7_rests_65 ⟨Nat.le_of_ble_eq_true rfl, Nat.le_of_ble_eq_true rfl⟩) (fun H locs hH => ?_)
                refine lv_if_eq (tgt := 118) hx hb dX7_rests_68 (by decide) (fun c8 => ?_) (fun c8 => ?_)
                · rw [if_pos c8] at hBL6
                  refine lv_iinc (v := (nI (iL6 + 1))) (lv' := [(6, .int (nI (iL6 + 1))), (5, .int (nI iL4)), (4, .int L6a), (3, .int L6b), (0, .ref (g 0)), (1, .int x0), (2, .int x1)]) hx hb dX7_rests_118 hl (k := 0) rfl (nI_1 _) (by decide) rfl (fun ls hl => ?_)
                  refine lv_goto (tgt := 49) hx hb dX7_rests_121 (by decide) ?_
                  subst hBL6
                  exact ihL6 _ _ _ _ ⟨by omega, hs, hDn⟩ ⟨hH, lv_sub hl [0, 1, 2, 3, 4, 5, 6] rfl⟩
                · have hD := hD c8
                  rw [if_neg c8] at hBL6
                  refine lv_aload_n hx hb dX7_rests_71 rfl (lv_at hl 4 rfl) ?_
                  refine lv_iconst (v := 1) hx hb dX7_rests_72 (by decide) ?_
                  refine lv_iload hx hb dX7_rests_73 (lv_at hl 0 rfl) ?_
                  refine kb_ci hH hA [0, 5, 6, 7, 8, 9, 10] (Wc := (w_O7 G g a_reader (g_now 0) (g_air 0) a_acts a_sights a_slots a_plan a_trial V ++ w_O2 G g_now V_now)) (Wc' := (w_O7 G g a_reader (g_now 0) (g_air 0) a_acts a_sights a_slots a_plan a_trial V ++ w_O2 G g_now V_now)) (WS' := (w_O7 G g a_reader (g_now 0) (g_air 0) a_acts a_sights a_slots a_plan a_trial V ++ w_O1 G g_air V_air ++ w_O2 G g_now V_now)) rfl (by decide) rfl rfl (va_runV (As := [.int (1 : Int32), .int (nI iL6)]) (rest := []) ⟨hx, hb, hml, hown, hts⟩ (c_X7_mayHold l G g a_reader (g_air 0) a_acts a_sights a_slots a_plan a_trial V g_now V_now (1 : Int32) (nI iL6) rfl _) (cwV 2 hts gX7_rests_X7_mayHold rfl rfl rfl he_X7_mayHold ⟨Nat.le_of_ble_eq_true rfl, Nat.le_of_ble_eq_true rfl⟩) (kb_preV hH hK hN [0, 5, 6, 7, 8, 9, 10] rfl (by decide) 0 rfl rfl rfl rfl) rfl rfl hl.1 rfl (lv_room (Nat.le_of_ble_eq_true rfl)) dX7_rests_75 ⟨Nat.le_of_ble_eq_true rfl, Nat.le_of_ble_eq_true rfl⟩) (fun H locs hH => ?_)
                  refine lv_if_eq (tgt := 118) hx hb dX7_rests_78 (by decide) (fun c9 => ?_) (fun c9 => ?_)
                  · rw [if_pos c9] at hBL6
                    refine lv_iinc (v := (nI (iL6 + 1))) (lv' := [(6, .int (nI (iL6 + 1))), (5, .int (nI iL4)), (4, .int L6a), (3, .int L6b), (0, .ref (g 0)), (1, .int x0), (2, .int x1)]) hx hb dX7_rests_118 hl (k := 0) rfl (nI_1 _) (by decide) rfl (fun ls hl => ?_)
                    refine lv_goto (tgt := 49) hx hb dX7_rests_121 (by decide) ?_
                    subst hBL6
                    exact ihL6 _ _ _ _ ⟨by omega, hs, hDn⟩ ⟨hH, lv_sub hl [0, 1, 2, 3, 4, 5, 6] rfl⟩
                  · have hD := hD c9
                    rw [if_neg c9] at hBL6
                    refine lv_aload_n hx hb dX7_rests_81 rfl (lv_at hl 4 rfl) ?_
                    refine lv_iload_n hx hb dX7_rests_82 rfl (lv_at hl 5 rfl) ?_
                    refine lv_iload hx hb dX7_rests_83 (lv_at hl 1 rfl) ?_
                    refine lv_iload hx hb dX7_rests_85 (lv_at hl 0 rfl) ?_
                    have hz10 := hD
                    refine kb_ci hH hA [0, 1, 2, 3, 4, 5, 6, 7, 8, 9, 10] (Wc := (w_O7 G g a_reader (g_now 0) (g_air 0) a_acts a_sights a_slots a_plan a_trial V ++ w_O1 G g_air V_air ++ w_O2 G g_now V_now)) (Wc' := (w_O7 G g a_reader (g_now 0) (g_air 0) a_acts a_sights a_slots a_plan a_trial V ++ w_O1 G g_air V_air ++ w_O2 G g_now V_now)) (WS' := (w_O7 G g a_reader (g_now 0) (g_air 0) a_acts a_sights a_slots a_plan a_trial V ++ w_O1 G g_air V_air ++ w_O2 G g_now V_now)) rfl (by decide) rfl rfl (va_runV (As := [.int x0, .int (nI iL4), .int (nI iL6)]) (rest := []) ⟨hx, hb, hml, hown, hts⟩ (c_X7_isAtRest l G g a_reader a_acts a_sights a_slots a_plan a_trial V g_air V_air g_now V_now x0 (nI iL4) (nI iL6) hz10 rfl _) (cwV 3 hts gX7_rests_X7_isAtRest rfl rfl rfl he_X7_isAtRest ⟨Nat.le_of_ble_eq_true rfl, Nat.le_of_ble_eq_true rfl⟩) (kb_preV hH hK hN [0, 1, 2, 3, 4, 5, 6, 7, 8, 9, 10] rfl (by decide) 0 rfl rfl rfl rfl) rfl rfl hl.1 rfl (lv_room (Nat.le_of_ble_eq_true rfl)) dX7_rests_87 ⟨Nat.le_of_ble_eq_true rfl, Nat.le_of_ble_eq_true rfl⟩) (fun H locs hH => ?_)
                    refine lv_if_eq (tgt := 118) hx hb dX7_rests_90 (by decide) (fun c11 => ?_) (fun c11 => ?_)
                    · rw [if_pos c11] at hBL6
                      refine lv_iinc (v := (nI (iL6 + 1))) (lv' := [(6, .int (nI (iL6 + 1))), (5, .int (nI iL4)), (4, .int L6a), (3, .int L6b), (0, .ref (g 0)), (1, .int x0), (2, .int x1)]) hx hb dX7_rests_118 hl (k := 0) rfl (nI_1 _) (by decide) rfl (fun ls hl => ?_)
                      refine lv_goto (tgt := 49) hx hb dX7_rests_121 (by decide) ?_
                      subst hBL6
                      exact ihL6 _ _ _ _ ⟨by omega, hs, hDn⟩ ⟨hH, lv_sub hl [0, 1, 2, 3, 4, 5, 6] rfl⟩
                    · rw [if_neg c11] at hBL6
                      refine lv_iinc (v := (L6b + (1 : Int32))) (lv' := [(3, .int (L6b + (1 : Int32))), (6, .int (nI iL6)), (5, .int (nI iL4)), (4, .int L6a), (0, .ref (g 0)), (1, .int x0), (2, .int x1)]) hx hb dX7_rests_93 hl (k := 3) rfl rfl (by decide) rfl (fun ls hl => ?_)
                      refine lv_iload hx hb dX7_rests_96 (lv_at hl 3 rfl) ?_
                      refine lv_bipush (v := -9) hx hb dX7_rests_98 (by decide) ?_
                      refine lv_icmp_ne (tgt := 114) hx hb dX7_rests_100 (by decide) (fun c12 => ?_) (fun c12 => ?_)
                      · rw [if_neg c12] at hBL6
                        refine lv_iload hx hb dX7_rests_114 (lv_at hl 3 rfl) ?_
                        refine lv_istore (lv' := [(4, .int L6a), (3, .int (L6b + (1 : Int32))), (6, .int (nI iL6)), (5, .int (nI iL4)), (0, .ref (g 0)), (1, .int x0), (2, .int x1)]) hx hb dX7_rests_116 hl (by decide) rfl (fun ls hl => ?_)
                        refine lv_iinc (v := (nI (iL6 + 1))) (lv' := [(6, .int (nI (iL6 + 1))), (4, .int L6a), (3, .int (L6b + (1 : Int32))), (5, .int (nI iL4)), (0, .ref (g 0)), (1, .int x0), (2, .int x1)]) hx hb dX7_rests_118 hl (k := 2) rfl (nI_1 _) (by decide) rfl (fun ls hl => ?_)
                        refine lv_goto (tgt := 49) hx hb dX7_rests_121 (by decide) ?_
                        subst hBL6
                        exact ihL6 _ _ _ _ ⟨by omega, hs, hDn⟩ ⟨hH, lv_sub hl [0, 3, 1, 2, 4, 5, 6] rfl⟩
                      · rw [if_pos c12] at hBL6
                        refine lv_bipush (v := 10) hx hb dX7_rests_103 (by decide) ?_
                        refine lv_iload hx hb dX7_rests_105 (lv_at hl 2 rfl) ?_
                        refine lv_imul hx hb dX7_rests_107 ?_
                        refine lv_iload hx hb dX7_rests_108 (lv_at hl 1 rfl) ?_
                        refine lv_iadd hx hb dX7_rests_110 ?_
                        refine lv_goto (tgt := 116) hx hb dX7_rests_111 (by decide) ?_
                        refine lv_istore (lv' := [(4, .int (((10 : Int32) * (nI iL4)) + (nI iL6))), (3, .int (L6b + (1 : Int32))), (6, .int (nI iL6)), (5, .int (nI iL4)), (0, .ref (g 0)), (1, .int x0), (2, .int x1)]) hx hb dX7_rests_116 hl (by decide) rfl (fun ls hl => ?_)
                        refine lv_iinc (v := (nI (iL6 + 1))) (lv' := [(6, .int (nI (iL6 + 1))), (4, .int (((10 : Int32) * (nI iL4)) + (nI iL6))), (3, .int (L6b + (1 : Int32))), (5, .int (nI iL4)), (0, .ref (g 0)), (1, .int x0), (2, .int x1)]) hx hb dX7_rests_118 hl (k := 2) rfl (nI_1 _) (by decide) rfl (fun ls hl => ?_)
                        refine lv_goto (tgt := 49) hx hb dX7_rests_121 (by decide) ?_
                        subst hBL6
                        exact ihL6 _ _ _ _ ⟨by omega, hs, hDn⟩ ⟨hH, lv_sub hl [0, 3, 1, 2, 4, 5, 6] rfl⟩
            · obtain ⟨hH, hl⟩ := hX
              refine lv_iinc (v := (nI (iL4 + 1))) (lv' := [(5, .int (nI (iL4 + 1))), (4, .int SFL6.1), (3, .int SFL6.2), (0, .ref (g 0)), (1, .int x0), (2, .int x1)]) hx hb dX7_rests_124 hl (k := 0) rfl (nI_1 _) (by decide) rfl (fun ls hl => ?_)
              refine lv_goto (tgt := 34) hx hb dX7_rests_127 (by decide) ?_
              subst hBL4
              exact ihL4 _ _ _ _ ⟨by omega, hs, hDn⟩ ⟨hH, lv_sub hl [0, 1, 2, 3, 4, 5] rfl⟩
        · obtain ⟨hH, hl⟩ := hX
          refine lv_iload_n hx hb dX7_rests_130 rfl (lv_at hl 2 rfl) ?_
          refine lv_if_ne (tgt := 138) hx hb dX7_rests_131 (by decide) (fun c15 => ?_) (fun c15 => ?_)
          · rw [if_neg c15] at hF
            refine lv_iload hx hb dX7_rests_138 (lv_at hl 0 rfl) ?_
            subst hF
            exact kb_iret hx hb hr hH rfl rfl dX7_rests_140 hlocks
          · rw [if_pos c15] at hF
            refine lv_iload_n hx hb dX7_rests_134 rfl (lv_at hl 1 rfl) ?_
            refine lv_goto (tgt := 140) hx hb dX7_rests_135 (by decide) ?_
            subst hF
            exact kb_iret hx hb hr hH rfl rfl dX7_rests_140 hlocks
      · rw [if_neg c3] at hF
        refine lv_bipush (v := -2) hx hb dX7_rests_22 (by decide) ?_
        subst hF
        exact kb_iret hx hb hr hH rfl rfl dX7_rests_24 hlocks
  · rw [if_pos c1] at hF
    refine lv_iconst (v := -1) hx hb dX7_rests_11 (by decide) ?_
    subst hF
    exact kb_iret hx hb hr hH rfl rfl dX7_rests_12 hlocks
def f_X7_waysToFreeze_L1 (x0 : Int32) (x1 : Int32) (iL1 : Nat) (s : (Int32)) : (Int32) := (if (f_X7_bit x0 (nI iL1)) = (1 : Int32) then (s * x1) else (s * ((10 : Int32) - x1)))
def f_X7_waysToFreeze (V : OV) (V_now : OV) (x0 : Int32) (x1 : Int32) : (Int32) := (kAp (lpu (f_X7_waysToFreeze_L1 x0 x1) (cN (V_now.2.1 5)) 0 (1 : Int32)) (fun z4 => z4))
set_option maxHeartbeats 4000000 in
set_option maxRecDepth 100000 in
theorem c_X7_waysToFreeze (l : Launch) (G : Ge) (g : Nat → Nat) (a_reader : Nat) (a_air : Nat) (a_acts : Nat) (a_sights : Nat) (a_slots : Nat) (a_plan : Nat) (a_trial : Nat) (V : OV) (g_now : Nat → Nat) (V_now : OV) (x0 : Int32) (x1 : Int32) {F : (Int32)} (hF : f_X7_waysToFreeze V V_now x0 x1 = F) : CI l yX7_waysToFreeze wsX7_waysToFreeze { frames := 1, cells := 0, slots := 0, locals := 21 } [.ref (g 0), .int x0, .int x1] G (w_O7 G g a_reader (g_now 0) a_air a_acts a_sights a_slots a_plan a_trial V ++ w_O2 G g_now V_now) (w_O7 G g a_reader (g_now 0) a_air a_acts a_sights a_slots a_plan a_trial V ++ w_O2 G g_now V_now) F := by
  intro sz
  refine Met.ofW (cc := cX7_waysToFreeze) (maxL := 5) (ret := (some .int)) (by decide) rfl ?_
  intro p e s m args below meth c s₁ B hml hv
  obtain ⟨rfl, hpre⟩ := hv
  obtain ⟨hsz, hH, hK, hN, hA⟩ := kb_start hpre
  subst hsz
  have hx := B.exec
  have hb := B.bytes
  have hr := B.returns
  have hts := atoms_spec (ws := wsX7_waysToFreeze) B.pre
  have hown : s.vm.findClass RX7 = some m.cls := findClass_of_methodNamed B.named
  have hlocks := B.notSynchronized
  generalize hAe : va_A (List.flatten (w_O7 G g a_reader (g_now 0) a_air a_acts a_sights a_slots a_plan a_trial V ++ w_O2 G g_now V_now)) s.heap.size = A at hH hA ⊢
  have hl := lv_entry ([.ref (g 0), .int x0, .int x1]) (n := 5) (Nat.le_of_ble_eq_true rfl)
  rw [lg_entry_eq]
  generalize (lg_sl ([.ref (g 0), .int x0, .int x1]) ++ List.replicate (5 - (lg_sl ([.ref (g 0), .int x0, .int x1])).length) Slot.unset).toArray = ls at hl ⊢
  have hl : lv_has ls 5 [(0, .ref (g 0)), (1, .int x0), (2, .int x1)] := hl
  have hH : HP G A s.heap (w_O7 G g a_reader (g_now 0) a_air a_acts a_sights a_slots a_plan a_trial V ++ w_O2 G g_now V_now) s.heap [] := hH
  have hin2 : ∀ w ∈ u_ws RX2 TX2 11, w ∈ wsX7_waysToFreeze := fun w h => List.mem_cons_of_mem _ (List.mem_append_right _ h)
  have hin7 : ∀ w ∈ u_ws RX7 TX7 9, w ∈ wsX7_waysToFreeze := fun w h => List.mem_cons_of_mem _ (List.mem_append_left _ (List.mem_append_right _ h))
  have hF : (kAp (lpu (f_X7_waysToFreeze_L1 x0 x1) (cN (V_now.2.1 5)) 0 (1 : Int32)) (fun z4 => z4)) = F := hF
  refine lv_iconst (v := 1) hx hb dX7_waysToFreeze_0 (by decide) ?_
  refine lv_istore_n (lv' := [(3, .int (1 : Int32)), (0, .ref (g 0)), (1, .int x0), (2, .int x1)]) hx hb dX7_waysToFreeze_1 rfl hl (by decide) rfl (fun ls hl => ?_)
  refine lv_iconst (v := 0) hx hb dX7_waysToFreeze_2 (by decide) ?_
  refine lv_istore (lv' := [(4, .int (0 : Int32)), (3, .int (1 : Int32)), (0, .ref (g 0)), (1, .int x0), (2, .int x1)]) hx hb dX7_waysToFreeze_3 hl (by decide) rfl (fun ls hl => ?_)
  obtain ⟨SFL1, hSFL1⟩ : ∃ z, z = (lpu (f_X7_waysToFreeze_L1 x0 x1) (cN (V_now.2.1 5)) 0 (1 : Int32)) := ⟨_, rfl⟩
  have hF := kAp_eq hF hSFL1
  refine kb_cut (fun H locs ls => HP G A s.heap (w_O7 G g a_reader (g_now 0) a_air a_acts a_sights a_slots a_plan a_trial V ++ w_O2 G g_now V_now) H locs ∧ lv_has ls 5 [(3, .int SFL1)]) 44 [] (fun EXL1 => ?_) (fun H locs ls hX => ?_)
  · refine kb_loop (σ := (Int32)) (fun n i x => n + i = (cN (V_now.2.1 5)) ∧ lpu (f_X7_waysToFreeze_L1 x0 x1) n i x = SFL1) (fun iL1 x H locs ls => HP G A s.heap (w_O7 G g a_reader (g_now 0) a_air a_acts a_sights a_slots a_plan a_trial V ++ w_O2 G g_now V_now) H locs ∧ lv_has ls 5 [(4, .int (nI iL1)), (3, .int x), (0, .ref (g 0)), (1, .int x0), (2, .int x1)]) (fun iL1 x H locs ls hI hX => ?_) (fun n iL1 x hI ihL1 H locs ls hX => ?_) (cN (V_now.2.1 5)) 0 (1 : Int32) _ _ _ ⟨Nat.add_zero _, hSFL1.symm⟩ ⟨hH, lv_sub hl [0, 1, 2, 3, 4] rfl⟩
    · obtain ⟨L1a, exL1a⟩ : ∃ z, z = x := ⟨_, rfl⟩
      subst exL1a
      have hH : HP G A s.heap (w_O7 G g a_reader (g_now 0) a_air a_acts a_sights a_slots a_plan a_trial V ++ w_O2 G g_now V_now) H locs := hX.1
      have hl : lv_has ls 5 [(4, .int (nI iL1)), (3, .int L1a), (0, .ref (g 0)), (1, .int x0), (2, .int x1)] := hX.2
      obtain ⟨hiL1, hs⟩ := hI
      have hiL1 : iL1 = (cN (V_now.2.1 5)) := by omega
      refine lv_iload hx hb dX7_waysToFreeze_5 (lv_at hl 0 rfl) ?_
      refine lv_aload_n hx hb dX7_waysToFreeze_7 rfl (lv_at hl 2 rfl) ?_
      refine kb_get (v := .ref (g_now 0)) hx hb hts hin7 hown hK hH 0 rfl rfl rfl 1 (by decide) (hts (.fieldLink RX7 19 "CockWar" "now" "LCockWar$Hill;") (List.mem_of_getElem? (i := 1) rfl)) (fun _ h9 => h9) rfl dX7_waysToFreeze_8 ?_
      refine kb_getN (v := .int (V_now.2.1 5)) hx hb hts hin2 hown hK hH 1 rfl rfl rfl 5 (by decide) (kb_NF hN 10 rfl) (fun _ h9 => h9) rfl dX7_waysToFreeze_11 ?_
      refine lv_icmp_ge (tgt := 44) hx hb dX7_waysToFreeze_14 (by decide) (fun _ => ?_) (fun c => absurd (cN_end hiL1) c)
      exact EXL1 _ _ _ ⟨by subst hs; exact hH, by subst hs; exact lv_sub hl [1] rfl⟩
    · obtain ⟨L1a, exL1a⟩ : ∃ z, z = x := ⟨_, rfl⟩
      subst exL1a
      have hH : HP G A s.heap (w_O7 G g a_reader (g_now 0) a_air a_acts a_sights a_slots a_plan a_trial V ++ w_O2 G g_now V_now) H locs := hX.1
      have hl : lv_has ls 5 [(4, .int (nI iL1)), (3, .int L1a), (0, .ref (g 0)), (1, .int x0), (2, .int x1)] := hX.2
      obtain ⟨hiL1, hs⟩ := hI
      have hltL1 : iL1 < (cN (V_now.2.1 5)) := by omega
      obtain ⟨BVL1, hBd⟩ : ∃ z, (f_X7_waysToFreeze_L1 x0 x1) iL1 L1a = z := ⟨_, rfl⟩
      have hs : lpu (f_X7_waysToFreeze_L1 x0 x1) n (iL1 + 1) BVL1 = SFL1 := by rw [← hBd]; exact hs
      have hBL1 : (if (f_X7_bit x0 (nI iL1)) = (1 : Int32) then (L1a * x1) else (L1a * ((10 : Int32) - x1))) = BVL1 := hBd
      refine lv_iload hx hb dX7_waysToFreeze_5 (lv_at hl 0 rfl) ?_
      refine lv_aload_n hx hb dX7_waysToFreeze_7 rfl (lv_at hl 2 rfl) ?_
      refine kb_get (v := .ref (g_now 0)) hx hb hts hin7 hown hK hH 0 rfl rfl rfl 1 (by decide) (hts (.fieldLink RX7 19 "CockWar" "now" "LCockWar$Hill;") (List.mem_of_getElem? (i := 1) rfl)) (fun _ h9 => h9) rfl dX7_waysToFreeze_8 ?_
      refine kb_getN (v := .int (V_now.2.1 5)) hx hb hts hin2 hown hK hH 1 rfl rfl rfl 5 (by decide) (kb_NF hN 10 rfl) (fun _ h9 => h9) rfl dX7_waysToFreeze_11 ?_
      refine lv_icmp_ge (tgt := 44) hx hb dX7_waysToFreeze_14 (by decide) (fun c => absurd c (cN_ge hltL1)) (fun c2 => ?_)
      refine lv_iload_n hx hb dX7_waysToFreeze_17 rfl (lv_at hl 1 rfl) ?_
      refine lv_iload_n hx hb dX7_waysToFreeze_18 rfl (lv_at hl 3 rfl) ?_
      refine lv_iload hx hb dX7_waysToFreeze_19 (lv_at hl 0 rfl) ?_
      refine kb_ci hH hA [] (Wc := ([] : List va_W)) (Wc' := ([] : List va_W)) (WS' := (w_O7 G g a_reader (g_now 0) a_air a_acts a_sights a_slots a_plan a_trial V ++ w_O2 G g_now V_now)) rfl (by decide) rfl rfl (va_runS (As := [.int x0, .int (nI iL1)]) (rest := [.int L1a]) ⟨hx, hb, hml, hown, hts⟩ (c_X7_bit l G x0 (nI iL1) rfl _) (va_cwS 2 hts gX7_waysToFreeze_X7_bit rfl rfl rfl hd_X7_bit ⟨Nat.le_of_ble_eq_true rfl, Nat.le_of_ble_eq_true rfl⟩) (kb_preS hH hK hN [] rfl (by decide)) rfl rfl hl.1 rfl (lv_room (Nat.le_of_ble_eq_true rfl)) dX7_waysToFreeze_21 ⟨Nat.le_of_ble_eq_true rfl, Nat.le_of_ble_eq_true rfl⟩) (fun H locs hH => ?_)
      refine lv_iconst (v := 1) hx hb dX7_waysToFreeze_24 (by decide) ?_
      refine lv_icmp_ne (tgt := 32) hx hb dX7_waysToFreeze_25 (by decide) (fun c3 => ?_) (fun c3 => ?_)
      · rw [if_neg c3] at hBL1
        refine lv_bipush (v := 10) hx hb dX7_waysToFreeze_32 (by decide) ?_
        refine lv_iload_n hx hb dX7_waysToFreeze_34 rfl (lv_at hl 4 rfl) ?_
        refine lv_isub hx hb dX7_waysToFreeze_35 ?_
        refine lv_imul hx hb dX7_waysToFreeze_36 ?_
        refine lv_istore_n (lv' := [(3, .int (L1a * ((10 : Int32) - x1))), (4, .int (nI iL1)), (0, .ref (g 0)), (1, .int x0), (2, .int x1)]) hx hb dX7_waysToFreeze_37 rfl hl (by decide) rfl (fun ls hl => ?_)
        refine lv_iinc (v := (nI (iL1 + 1))) (lv' := [(4, .int (nI (iL1 + 1))), (3, .int (L1a * ((10 : Int32) - x1))), (0, .ref (g 0)), (1, .int x0), (2, .int x1)]) hx hb dX7_waysToFreeze_38 hl (k := 1) rfl (nI_1 _) (by decide) rfl (fun ls hl => ?_)
        refine lv_goto (tgt := 5) hx hb dX7_waysToFreeze_41 (by decide) ?_
        subst hBL1
        exact ihL1 _ _ _ _ ⟨by omega, hs⟩ ⟨hH, lv_sub hl [0, 1, 2, 3, 4] rfl⟩
      · rw [if_pos c3] at hBL1
        refine lv_iload_n hx hb dX7_waysToFreeze_28 rfl (lv_at hl 4 rfl) ?_
        refine lv_goto (tgt := 36) hx hb dX7_waysToFreeze_29 (by decide) ?_
        refine lv_imul hx hb dX7_waysToFreeze_36 ?_
        refine lv_istore_n (lv' := [(3, .int (L1a * x1)), (4, .int (nI iL1)), (0, .ref (g 0)), (1, .int x0), (2, .int x1)]) hx hb dX7_waysToFreeze_37 rfl hl (by decide) rfl (fun ls hl => ?_)
        refine lv_iinc (v := (nI (iL1 + 1))) (lv' := [(4, .int (nI (iL1 + 1))), (3, .int (L1a * x1)), (0, .ref (g 0)), (1, .int x0), (2, .int x1)]) hx hb dX7_waysToFreeze_38 hl (k := 1) rfl (nI_1 _) (by decide) rfl (fun ls hl => ?_)
        refine lv_goto (tgt := 5) hx hb dX7_waysToFreeze_41 (by decide) ?_
        subst hBL1
        exact ihL1 _ _ _ _ ⟨by omega, hs⟩ ⟨hH, lv_sub hl [0, 1, 2, 3, 4] rfl⟩
  · obtain ⟨hH, hl⟩ := hX
    refine lv_iload_n hx hb dX7_waysToFreeze_44 rfl (lv_at hl 0 rfl) ?_
    subst hF
    exact kb_iret hx hb hr hH rfl rfl dX7_waysToFreeze_45 hlocks
def f_X7_frost_L4 (V : OV) (V_air : OV) (V_now : OV) (x0 : Int32) (x1 : Int32) (iL4 : Nat) (s : (Int32)) : (Int32) := (if (f_X1_brookUnder V_air V_now x0 ((V_now.2.1 8) ||| (nI iL4)) (0 : Int32)) = 0 then (s + (f_X7_waysToFreeze V V_now (nI iL4) x1)) else s)
def f_X7_frost_L8 (iL8 : Nat) (s : (Int32)) : (Int32) := (s * (10 : Int32))
def f_X7_frost (V : OV) (V_air : OV) (V_now : OV) (x0 : Int32) (x1 : Int32) (x2 : Int32) : (Int32) := (if (f_X1_hasWind V_air x0) = 0 then (-1 : Int32) else (if x1 < 0 then (-2 : Int32) else (if x1 ≤ (10 : Int32) then (kAp (lpu (f_X7_frost_L4 V V_air V_now x0 x1) (cM (f_X2_everyCock V_now)) 0 (0 : Int32)) (fun z7 => (kAp (lpu (f_X7_frost_L8) (cN (V_now.2.1 5)) 0 (1 : Int32)) (fun z10 => (if (1 : Int32) ≤ (f_X7_commonDivisor z10 z7) then (if x2 = 0 then (z10 / (f_X7_commonDivisor z10 z7)) else (z7 / (f_X7_commonDivisor z10 z7))) else (if x2 = 0 then z10 else z7)))))) else (-2 : Int32))))
def d_X7_frost (V : OV) (V_air : OV) (V_now : OV) (x0 : Int32) (x1 : Int32) (x2 : Int32) : Prop := (¬ ((f_X1_hasWind V_air x0) = 0) → (¬ (x1 < 0) → (x1 ≤ (10 : Int32) → ((f_X2_everyCock V_now).toInt < 2147483647 ∧ (kAp (lpu (f_X7_frost_L4 V V_air V_now x0 x1) (cM (f_X2_everyCock V_now)) 0 (0 : Int32)) (fun z7 => (kAp (lpu (f_X7_frost_L8) (cN (V_now.2.1 5)) 0 (1 : Int32)) (fun z10 => ((1 : Int32) ≤ (f_X7_commonDivisor z10 z7) → ((x2 = 0 → ¬ (f_X7_commonDivisor z10 z7) = 0) ∧ (¬ (x2 = 0) → ¬ (f_X7_commonDivisor z10 z7) = 0)))))))))))
set_option maxHeartbeats 4000000 in
set_option maxRecDepth 100000 in
theorem c_X7_frost (l : Launch) (G : Ge) (g : Nat → Nat) (a_reader : Nat) (a_acts : Nat) (a_sights : Nat) (a_slots : Nat) (a_plan : Nat) (a_trial : Nat) (V : OV) (g_air : Nat → Nat) (V_air : OV) (g_now : Nat → Nat) (V_now : OV) (x0 : Int32) (x1 : Int32) (x2 : Int32) (hD : d_X7_frost V V_air V_now x0 x1 x2) {F : (Int32)} (hF : f_X7_frost V V_air V_now x0 x1 x2 = F) : CI l yX7_frost wsX7_frost { frames := 4, cells := 0, slots := 0, locals := 98 } [.ref (g 0), .int x0, .int x1, .int x2] G (w_O7 G g a_reader (g_now 0) (g_air 0) a_acts a_sights a_slots a_plan a_trial V ++ w_O1 G g_air V_air ++ w_O2 G g_now V_now) (w_O7 G g a_reader (g_now 0) (g_air 0) a_acts a_sights a_slots a_plan a_trial V ++ w_O1 G g_air V_air ++ w_O2 G g_now V_now) F := by
  intro sz
  refine Met.ofW (cc := cX7_frost) (maxL := 8) (ret := (some .int)) (by decide) rfl ?_
  intro p e s m args below meth c s₁ B hml hv
  obtain ⟨rfl, hpre⟩ := hv
  obtain ⟨hsz, hH, hK, hN, hA⟩ := kb_start hpre
  subst hsz
  have hx := B.exec
  have hb := B.bytes
  have hr := B.returns
  have hts := atoms_spec (ws := wsX7_frost) B.pre
  have hown : s.vm.findClass RX7 = some m.cls := findClass_of_methodNamed B.named
  have hlocks := B.notSynchronized
  generalize hAe : va_A (List.flatten (w_O7 G g a_reader (g_now 0) (g_air 0) a_acts a_sights a_slots a_plan a_trial V ++ w_O1 G g_air V_air ++ w_O2 G g_now V_now)) s.heap.size = A at hH hA ⊢
  have hl := lv_entry ([.ref (g 0), .int x0, .int x1, .int x2]) (n := 8) (Nat.le_of_ble_eq_true rfl)
  rw [lg_entry_eq]
  generalize (lg_sl ([.ref (g 0), .int x0, .int x1, .int x2]) ++ List.replicate (8 - (lg_sl ([.ref (g 0), .int x0, .int x1, .int x2])).length) Slot.unset).toArray = ls at hl ⊢
  have hl : lv_has ls 8 [(0, .ref (g 0)), (1, .int x0), (2, .int x1), (3, .int x2)] := hl
  have hH : HP G A s.heap (w_O7 G g a_reader (g_now 0) (g_air 0) a_acts a_sights a_slots a_plan a_trial V ++ w_O1 G g_air V_air ++ w_O2 G g_now V_now) s.heap [] := hH
  have hin2 : ∀ w ∈ u_ws RX2 TX2 11, w ∈ wsX7_frost := fun w h => List.mem_cons_of_mem _ (List.mem_append_left _ (List.mem_append_right _ h))
  have hin7 : ∀ w ∈ u_ws RX7 TX7 9, w ∈ wsX7_frost := fun w h => List.mem_cons_of_mem _ (List.mem_append_left _ (List.mem_append_left _ (List.mem_append_right _ h)))
  have hF : (if (f_X1_hasWind V_air x0) = 0 then (-1 : Int32) else (if x1 < 0 then (-2 : Int32) else (if x1 ≤ (10 : Int32) then (kAp (lpu (f_X7_frost_L4 V V_air V_now x0 x1) (cM (f_X2_everyCock V_now)) 0 (0 : Int32)) (fun z7 => (kAp (lpu (f_X7_frost_L8) (cN (V_now.2.1 5)) 0 (1 : Int32)) (fun z10 => (if (1 : Int32) ≤ (f_X7_commonDivisor z10 z7) then (if x2 = 0 then (z10 / (f_X7_commonDivisor z10 z7)) else (z7 / (f_X7_commonDivisor z10 z7))) else (if x2 = 0 then z10 else z7)))))) else (-2 : Int32)))) = F := hF
  have hD : (¬ ((f_X1_hasWind V_air x0) = 0) → (¬ (x1 < 0) → (x1 ≤ (10 : Int32) → ((f_X2_everyCock V_now).toInt < 2147483647 ∧ (kAp (lpu (f_X7_frost_L4 V V_air V_now x0 x1) (cM (f_X2_everyCock V_now)) 0 (0 : Int32)) (fun z7 => (kAp (lpu (f_X7_frost_L8) (cN (V_now.2.1 5)) 0 (1 : Int32)) (fun z10 => ((1 : Int32) ≤ (f_X7_commonDivisor z10 z7) → ((x2 = 0 → ¬ (f_X7_commonDivisor z10 z7) = 0) ∧ (¬ (x2 = 0) → ¬ (f_X7_commonDivisor z10 z7) = 0))))))))))) := hD
  refine lv_aload_n hx hb dX7_frost_0 rfl (lv_at hl 0 rfl) ?_
  refine kb_get (v := .ref (g_air 0)) hx hb hts hin7 hown hK hH 0 rfl rfl rfl 2 (by decide) (hts (.fieldLink RX7 26 "CockWar" "air" "LCockWar$Air;") (List.mem_of_getElem? (i := 1) rfl)) (fun _ h9 => h9) rfl dX7_frost_1 ?_
  refine lv_iload_n hx hb dX7_frost_4 rfl (lv_at hl 1 rfl) ?_
  refine kb_ci hH hA [1, 2, 3, 4] (Wc := (w_O1 G g_air V_air)) (Wc' := (w_O1 G g_air V_air)) (WS' := (w_O7 G g a_reader (g_now 0) (g_air 0) a_acts a_sights a_slots a_plan a_trial V ++ w_O1 G g_air V_air ++ w_O2 G g_now V_now)) rfl (by decide) rfl rfl (va_runVN (C := RX1) (As := [.int x0]) (rest := []) ⟨hx, hb, hml, hown, hts⟩ (c_X1_hasWind l G g_air V_air x0 rfl _) ⟨va_cnB 1 hts gX7_frost_X1_hasWind_n138 rfl rfl rfl (kb_NM hN 32 rfl) (hts (.initialized RX1) (List.mem_of_getElem? (i := 4) rfl)) hd_X1_hasWind ⟨Nat.le_of_ble_eq_true rfl, Nat.le_of_ble_eq_true rfl⟩, (hts (.instanceMethod yX1_hasWind) (List.mem_of_getElem? (i := 3) rfl)), (hts (.selects RX1 yX1_hasWind yX1_hasWind) (List.mem_of_getElem? (i := 5) rfl))⟩ (kb_preV hH hK hN [1, 2, 3, 4] rfl (by decide) 1 rfl rfl rfl rfl) rfl rfl hl.1 rfl (lv_room (Nat.le_of_ble_eq_true rfl)) dX7_frost_5 ⟨Nat.le_of_ble_eq_true rfl, Nat.le_of_ble_eq_true rfl⟩) (fun H locs hH => ?_)
  refine lv_if_ne (tgt := 13) hx hb dX7_frost_8 (by decide) (fun c1 => ?_) (fun c1 => ?_)
  · have hD := hD c1
    rw [if_neg c1] at hF
    refine lv_iload_n hx hb dX7_frost_13 rfl (lv_at hl 2 rfl) ?_
    refine lv_if_lt (tgt := 23) hx hb dX7_frost_14 (by decide) (fun c2 => ?_) (fun c2 => ?_)
    · rw [if_pos c2] at hF
      refine lv_bipush (v := -2) hx hb dX7_frost_23 (by decide) ?_
      subst hF
      exact kb_iret hx hb hr hH rfl rfl dX7_frost_25 hlocks
    · have hD := hD c2
      rw [if_neg c2] at hF
      refine lv_iload_n hx hb dX7_frost_17 rfl (lv_at hl 2 rfl) ?_
      refine lv_bipush (v := 10) hx hb dX7_frost_18 (by decide) ?_
      refine lv_icmp_le (tgt := 26) hx hb dX7_frost_20 (by decide) (fun c3 => ?_) (fun c3 => ?_)
      · have hD := hD c3
        rw [if_pos c3] at hF
        refine lv_aload_n hx hb dX7_frost_26 rfl (lv_at hl 0 rfl) ?_
        refine kb_get (v := .ref (g_now 0)) hx hb hts hin7 hown hK hH 0 rfl rfl rfl 1 (by decide) (hts (.fieldLink RX7 19 "CockWar" "now" "LCockWar$Hill;") (List.mem_of_getElem? (i := 2) rfl)) (fun _ h9 => h9) rfl dX7_frost_27 ?_
        refine kb_ci hH hA [5, 6, 7, 8, 9, 10] (Wc := (w_O2 G g_now V_now)) (Wc' := (w_O2 G g_now V_now)) (WS' := (w_O7 G g a_reader (g_now 0) (g_air 0) a_acts a_sights a_slots a_plan a_trial V ++ w_O1 G g_air V_air ++ w_O2 G g_now V_now)) rfl (by decide) rfl rfl (va_runVN (C := RX2) (As := []) (rest := []) ⟨hx, hb, hml, hown, hts⟩ (c_X2_everyCock l G g_now V_now rfl _) ⟨va_cnB 0 hts gX7_frost_X2_everyCock_n208 rfl rfl rfl (kb_NM hN 54 rfl) (hts (.initialized RX2) (List.mem_of_getElem? (i := 9) rfl)) hd_X2_everyCock ⟨Nat.le_of_ble_eq_true rfl, Nat.le_of_ble_eq_true rfl⟩, (hts (.instanceMethod yX2_everyCock) (List.mem_of_getElem? (i := 8) rfl)), (hts (.selects RX2 yX2_everyCock yX2_everyCock) (List.mem_of_getElem? (i := 10) rfl))⟩ (kb_preV hH hK hN [5, 6, 7, 8, 9, 10] rfl (by decide) 5 rfl rfl rfl rfl) rfl rfl hl.1 rfl (lv_room (Nat.le_of_ble_eq_true rfl)) dX7_frost_30 ⟨Nat.le_of_ble_eq_true rfl, Nat.le_of_ble_eq_true rfl⟩) (fun H locs hH => ?_)
        refine lv_istore (lv' := [(4, .int (f_X2_everyCock V_now)), (0, .ref (g 0)), (1, .int x0), (2, .int x1), (3, .int x2)]) hx hb dX7_frost_33 hl (by decide) rfl (fun ls hl => ?_)
        refine lv_iconst (v := 0) hx hb dX7_frost_35 (by decide) ?_
        refine lv_istore (lv' := [(5, .int (0 : Int32)), (4, .int (f_X2_everyCock V_now)), (0, .ref (g 0)), (1, .int x0), (2, .int x1), (3, .int x2)]) hx hb dX7_frost_36 hl (by decide) rfl (fun ls hl => ?_)
        refine lv_iconst (v := 0) hx hb dX7_frost_38 (by decide) ?_
        refine lv_istore (lv' := [(6, .int (0 : Int32)), (5, .int (0 : Int32)), (4, .int (f_X2_everyCock V_now)), (0, .ref (g 0)), (1, .int x0), (2, .int x1), (3, .int x2)]) hx hb dX7_frost_39 hl (by decide) rfl (fun ls hl => ?_)
        obtain ⟨hsdL4, hD⟩ := hD
        obtain ⟨SFL4, hSFL4⟩ : ∃ z, z = (lpu (f_X7_frost_L4 V V_air V_now x0 x1) (cM (f_X2_everyCock V_now)) 0 (0 : Int32)) := ⟨_, rfl⟩
        have hF := kAp_eq hF hSFL4
        have hD := kAp_D hD hSFL4
        refine kb_cut (fun H locs ls => HP G A s.heap (w_O7 G g a_reader (g_now 0) (g_air 0) a_acts a_sights a_slots a_plan a_trial V ++ w_O1 G g_air V_air ++ w_O2 G g_now V_now) H locs ∧ lv_has ls 8 [(5, .int SFL4), (0, .ref (g 0)), (3, .int x2)]) 92 [] (fun EXL4 => ?_) (fun H locs ls hX => ?_)
        · refine kb_loop (σ := (Int32)) (fun n i x => n + i = (cM (f_X2_everyCock V_now)) ∧ lpu (f_X7_frost_L4 V V_air V_now x0 x1) n i x = SFL4) (fun iL4 x H locs ls => HP G A s.heap (w_O7 G g a_reader (g_now 0) (g_air 0) a_acts a_sights a_slots a_plan a_trial V ++ w_O1 G g_air V_air ++ w_O2 G g_now V_now) H locs ∧ lv_has ls 8 [(6, .int (nI iL4)), (5, .int x), (4, .int (f_X2_everyCock V_now)), (0, .ref (g 0)), (1, .int x0), (2, .int x1), (3, .int x2)]) (fun iL4 x H locs ls hI hX => ?_) (fun n iL4 x hI ihL4 H locs ls hX => ?_) (cM (f_X2_everyCock V_now)) 0 (0 : Int32) _ _ _ ⟨Nat.add_zero _, hSFL4.symm⟩ ⟨hH, lv_sub hl [0, 1, 2, 3, 4, 5, 6] rfl⟩
          · obtain ⟨L4a, exL4a⟩ : ∃ z, z = x := ⟨_, rfl⟩
            subst exL4a
            have hH : HP G A s.heap (w_O7 G g a_reader (g_now 0) (g_air 0) a_acts a_sights a_slots a_plan a_trial V ++ w_O1 G g_air V_air ++ w_O2 G g_now V_now) H locs := hX.1
            have hl : lv_has ls 8 [(6, .int (nI iL4)), (5, .int L4a), (4, .int (f_X2_everyCock V_now)), (0, .ref (g 0)), (1, .int x0), (2, .int x1), (3, .int x2)] := hX.2
            obtain ⟨hiL4, hs⟩ := hI
            have hiL4 : iL4 = (cM (f_X2_everyCock V_now)) := by omega
            refine lv_iload hx hb dX7_frost_41 (lv_at hl 0 rfl) ?_
            refine lv_iload hx hb dX7_frost_43 (lv_at hl 2 rfl) ?_
            refine lv_icmp_gt (tgt := 92) hx hb dX7_frost_45 (by decide) (fun _ => ?_) (fun c => absurd (cM_end hsdL4 hiL4) c)
            exact EXL4 _ _ _ ⟨by subst hs; exact hH, by subst hs; exact lv_sub hl [1, 3, 6] rfl⟩
          · obtain ⟨L4a, exL4a⟩ : ∃ z, z = x := ⟨_, rfl⟩
            subst exL4a
            have hH : HP G A s.heap (w_O7 G g a_reader (g_now 0) (g_air 0) a_acts a_sights a_slots a_plan a_trial V ++ w_O1 G g_air V_air ++ w_O2 G g_now V_now) H locs := hX.1
            have hl : lv_has ls 8 [(6, .int (nI iL4)), (5, .int L4a), (4, .int (f_X2_everyCock V_now)), (0, .ref (g 0)), (1, .int x0), (2, .int x1), (3, .int x2)] := hX.2
            obtain ⟨hiL4, hs⟩ := hI
            have hltL4 : iL4 < (cM (f_X2_everyCock V_now)) := by omega
            obtain ⟨BVL4, hBd⟩ : ∃ z, (f_X7_frost_L4 V V_air V_now x0 x1) iL4 L4a = z := ⟨_, rfl⟩
            have hs : lpu (f_X7_frost_L4 V V_air V_now x0 x1) n (iL4 + 1) BVL4 = SFL4 := by rw [← hBd]; exact hs
            have hBL4 : (if (f_X1_brookUnder V_air V_now x0 ((V_now.2.1 8) ||| (nI iL4)) (0 : Int32)) = 0 then (L4a + (f_X7_waysToFreeze V V_now (nI iL4) x1)) else L4a) = BVL4 := hBd
            refine lv_iload hx hb dX7_frost_41 (lv_at hl 0 rfl) ?_
            refine lv_iload hx hb dX7_frost_43 (lv_at hl 2 rfl) ?_
            refine lv_icmp_gt (tgt := 92) hx hb dX7_frost_45 (by decide) (fun c => absurd c (cM_gt hsdL4 hltL4)) (fun c5 => ?_)
            refine lv_aload_n hx hb dX7_frost_48 rfl (lv_at hl 3 rfl) ?_
            refine kb_get (v := .ref (g_air 0)) hx hb hts hin7 hown hK hH 0 rfl rfl rfl 2 (by decide) (hts (.fieldLink RX7 26 "CockWar" "air" "LCockWar$Air;") (List.mem_of_getElem? (i := 1) rfl)) (fun _ h9 => h9) rfl dX7_frost_49 ?_
            refine lv_aload_n hx hb dX7_frost_52 rfl (lv_at hl 3 rfl) ?_
            refine kb_get (v := .ref (g_now 0)) hx hb hts hin7 hown hK hH 0 rfl rfl rfl 1 (by decide) (hts (.fieldLink RX7 19 "CockWar" "now" "LCockWar$Hill;") (List.mem_of_getElem? (i := 2) rfl)) (fun _ h9 => h9) rfl dX7_frost_53 ?_
            refine lv_iload_n hx hb dX7_frost_56 rfl (lv_at hl 4 rfl) ?_
            refine lv_aload_n hx hb dX7_frost_57 rfl (lv_at hl 3 rfl) ?_
            refine kb_get (v := .ref (g_now 0)) hx hb hts hin7 hown hK hH 0 rfl rfl rfl 1 (by decide) (hts (.fieldLink RX7 19 "CockWar" "now" "LCockWar$Hill;") (List.mem_of_getElem? (i := 2) rfl)) (fun _ h9 => h9) rfl dX7_frost_58 ?_
            refine kb_getN (v := .int (V_now.2.1 8)) hx hb hts hin2 hown hK hH 5 rfl rfl rfl 8 (by decide) (kb_NF hN 16 rfl) (fun _ h9 => h9) rfl dX7_frost_61 ?_
            refine lv_iload hx hb dX7_frost_64 (lv_at hl 0 rfl) ?_
            refine lv_ior hx hb dX7_frost_66 ?_
            refine lv_iconst (v := 0) hx hb dX7_frost_67 (by decide) ?_
            refine kb_ci hH hA [1, 2, 3, 4, 5, 6, 7, 8, 9, 10] (Wc := (w_O1 G g_air V_air ++ w_O2 G g_now V_now)) (Wc' := (w_O1 G g_air V_air ++ w_O2 G g_now V_now)) (WS' := (w_O7 G g a_reader (g_now 0) (g_air 0) a_acts a_sights a_slots a_plan a_trial V ++ w_O1 G g_air V_air ++ w_O2 G g_now V_now)) rfl (by decide) rfl rfl (va_runVN (C := RX1) (As := [.ref (g_now 0), .int x0, .int ((V_now.2.1 8) ||| (nI iL4)), .int (0 : Int32)]) (rest := []) ⟨hx, hb, hml, hown, hts⟩ (c_X1_brookUnder l G g_air V_air g_now V_now x0 ((V_now.2.1 8) ||| (nI iL4)) (0 : Int32) rfl _) ⟨va_cnB 4 hts gX7_frost_X1_brookUnder_n172 rfl rfl rfl (kb_NM hN 43 rfl) (hts (.initialized RX1) (List.mem_of_getElem? (i := 4) rfl)) hd_X1_brookUnder ⟨Nat.le_of_ble_eq_true rfl, Nat.le_of_ble_eq_true rfl⟩, (hts (.instanceMethod yX1_brookUnder) (List.mem_of_getElem? (i := 13) rfl)), (hts (.selects RX1 yX1_brookUnder yX1_brookUnder) (List.mem_of_getElem? (i := 14) rfl))⟩ (kb_preV hH hK hN [1, 2, 3, 4, 5, 6, 7, 8, 9, 10] rfl (by decide) 1 rfl rfl rfl rfl) rfl rfl hl.1 rfl (lv_room (Nat.le_of_ble_eq_true rfl)) dX7_frost_68 ⟨Nat.le_of_ble_eq_true rfl, Nat.le_of_ble_eq_true rfl⟩) (fun H locs hH => ?_)
            refine lv_if_ne (tgt := 86) hx hb dX7_frost_71 (by decide) (fun c6 => ?_) (fun c6 => ?_)
            · rw [if_neg c6] at hBL4
              refine lv_iinc (v := (nI (iL4 + 1))) (lv' := [(6, .int (nI (iL4 + 1))), (5, .int L4a), (4, .int (f_X2_everyCock V_now)), (0, .ref (g 0)), (1, .int x0), (2, .int x1), (3, .int x2)]) hx hb dX7_frost_86 hl (k := 0) rfl (nI_1 _) (by decide) rfl (fun ls hl => ?_)
              refine lv_goto (tgt := 41) hx hb dX7_frost_89 (by decide) ?_
              subst hBL4
              exact ihL4 _ _ _ _ ⟨by omega, hs⟩ ⟨hH, lv_sub hl [0, 1, 2, 3, 4, 5, 6] rfl⟩
            · rw [if_pos c6] at hBL4
              refine lv_iload hx hb dX7_frost_74 (lv_at hl 1 rfl) ?_
              refine lv_aload_n hx hb dX7_frost_76 rfl (lv_at hl 3 rfl) ?_
              refine lv_iload hx hb dX7_frost_77 (lv_at hl 0 rfl) ?_
              refine lv_iload_n hx hb dX7_frost_79 rfl (lv_at hl 5 rfl) ?_
              refine kb_ci hH hA [0, 5, 6, 7, 8, 9, 10] (Wc := (w_O7 G g a_reader (g_now 0) (g_air 0) a_acts a_sights a_slots a_plan a_trial V ++ w_O2 G g_now V_now)) (Wc' := (w_O7 G g a_reader (g_now 0) (g_air 0) a_acts a_sights a_slots a_plan a_trial V ++ w_O2 G g_now V_now)) (WS' := (w_O7 G g a_reader (g_now 0) (g_air 0) a_acts a_sights a_slots a_plan a_trial V ++ w_O1 G g_air V_air ++ w_O2 G g_now V_now)) rfl (by decide) rfl rfl (va_runV (As := [.int (nI iL4), .int x1]) (rest := [.int L4a]) ⟨hx, hb, hml, hown, hts⟩ (c_X7_waysToFreeze l G g a_reader (g_air 0) a_acts a_sights a_slots a_plan a_trial V g_now V_now (nI iL4) x1 rfl _) (cwV 2 hts gX7_frost_X7_waysToFreeze rfl rfl rfl he_X7_waysToFreeze ⟨Nat.le_of_ble_eq_true rfl, Nat.le_of_ble_eq_true rfl⟩) (kb_preV hH hK hN [0, 5, 6, 7, 8, 9, 10] rfl (by decide) 0 rfl rfl rfl rfl) rfl rfl hl.1 rfl (lv_room (Nat.le_of_ble_eq_true rfl)) dX7_frost_80 ⟨Nat.le_of_ble_eq_true rfl, Nat.le_of_ble_eq_true rfl⟩) (fun H locs hH => ?_)
              refine lv_iadd hx hb dX7_frost_83 ?_
              refine lv_istore (lv' := [(5, .int (L4a + (f_X7_waysToFreeze V V_now (nI iL4) x1))), (6, .int (nI iL4)), (4, .int (f_X2_everyCock V_now)), (0, .ref (g 0)), (1, .int x0), (2, .int x1), (3, .int x2)]) hx hb dX7_frost_84 hl (by decide) rfl (fun ls hl => ?_)
              refine lv_iinc (v := (nI (iL4 + 1))) (lv' := [(6, .int (nI (iL4 + 1))), (5, .int (L4a + (f_X7_waysToFreeze V V_now (nI iL4) x1))), (4, .int (f_X2_everyCock V_now)), (0, .ref (g 0)), (1, .int x0), (2, .int x1), (3, .int x2)]) hx hb dX7_frost_86 hl (k := 1) rfl (nI_1 _) (by decide) rfl (fun ls hl => ?_)
              refine lv_goto (tgt := 41) hx hb dX7_frost_89 (by decide) ?_
              subst hBL4
              exact ihL4 _ _ _ _ ⟨by omega, hs⟩ ⟨hH, lv_sub hl [0, 1, 2, 3, 4, 5, 6] rfl⟩
        · obtain ⟨hH, hl⟩ := hX
          refine lv_iconst (v := 1) hx hb dX7_frost_92 (by decide) ?_
          refine lv_istore (lv' := [(6, .int (1 : Int32)), (5, .int SFL4), (0, .ref (g 0)), (3, .int x2)]) hx hb dX7_frost_93 hl (by decide) rfl (fun ls hl => ?_)
          refine lv_iconst (v := 0) hx hb dX7_frost_95 (by decide) ?_
          refine lv_istore (lv' := [(7, .int (0 : Int32)), (6, .int (1 : Int32)), (5, .int SFL4), (0, .ref (g 0)), (3, .int x2)]) hx hb dX7_frost_96 hl (by decide) rfl (fun ls hl => ?_)
          obtain ⟨SFL8, hSFL8⟩ : ∃ z, z = (lpu (f_X7_frost_L8) (cN (V_now.2.1 5)) 0 (1 : Int32)) := ⟨_, rfl⟩
          have hF := kAp_eq hF hSFL8
          have hD := kAp_D hD hSFL8
          refine kb_cut (fun H locs ls => HP G A s.heap (w_O7 G g a_reader (g_now 0) (g_air 0) a_acts a_sights a_slots a_plan a_trial V ++ w_O1 G g_air V_air ++ w_O2 G g_now V_now) H locs ∧ lv_has ls 8 [(6, .int SFL8), (5, .int SFL4), (3, .int x2)]) 123 [] (fun EXL8 => ?_) (fun H locs ls hX => ?_)
          · refine kb_loop (σ := (Int32)) (fun n i x => n + i = (cN (V_now.2.1 5)) ∧ lpu (f_X7_frost_L8) n i x = SFL8) (fun iL8 x H locs ls => HP G A s.heap (w_O7 G g a_reader (g_now 0) (g_air 0) a_acts a_sights a_slots a_plan a_trial V ++ w_O1 G g_air V_air ++ w_O2 G g_now V_now) H locs ∧ lv_has ls 8 [(7, .int (nI iL8)), (6, .int x), (5, .int SFL4), (0, .ref (g 0)), (3, .int x2)]) (fun iL8 x H locs ls hI hX => ?_) (fun n iL8 x hI ihL8 H locs ls hX => ?_) (cN (V_now.2.1 5)) 0 (1 : Int32) _ _ _ ⟨Nat.add_zero _, hSFL8.symm⟩ ⟨hH, lv_sub hl [0, 1, 2, 3, 4] rfl⟩
            · obtain ⟨L8a, exL8a⟩ : ∃ z, z = x := ⟨_, rfl⟩
              subst exL8a
              have hH : HP G A s.heap (w_O7 G g a_reader (g_now 0) (g_air 0) a_acts a_sights a_slots a_plan a_trial V ++ w_O1 G g_air V_air ++ w_O2 G g_now V_now) H locs := hX.1
              have hl : lv_has ls 8 [(7, .int (nI iL8)), (6, .int L8a), (5, .int SFL4), (0, .ref (g 0)), (3, .int x2)] := hX.2
              obtain ⟨hiL8, hs⟩ := hI
              have hiL8 : iL8 = (cN (V_now.2.1 5)) := by omega
              refine lv_iload hx hb dX7_frost_98 (lv_at hl 0 rfl) ?_
              refine lv_aload_n hx hb dX7_frost_100 rfl (lv_at hl 3 rfl) ?_
              refine kb_get (v := .ref (g_now 0)) hx hb hts hin7 hown hK hH 0 rfl rfl rfl 1 (by decide) (hts (.fieldLink RX7 19 "CockWar" "now" "LCockWar$Hill;") (List.mem_of_getElem? (i := 2) rfl)) (fun _ h9 => h9) rfl dX7_frost_101 ?_
              refine kb_getN (v := .int (V_now.2.1 5)) hx hb hts hin2 hown hK hH 5 rfl rfl rfl 5 (by decide) (kb_NF hN 10 rfl) (fun _ h9 => h9) rfl dX7_frost_104 ?_
              refine lv_icmp_ge (tgt := 123) hx hb dX7_frost_107 (by decide) (fun _ => ?_) (fun c => absurd (cN_end hiL8) c)
              exact EXL8 _ _ _ ⟨by subst hs; exact hH, by subst hs; exact lv_sub hl [1, 2, 4] rfl⟩
            · obtain ⟨L8a, exL8a⟩ : ∃ z, z = x := ⟨_, rfl⟩
              subst exL8a
              have hH : HP G A s.heap (w_O7 G g a_reader (g_now 0) (g_air 0) a_acts a_sights a_slots a_plan a_trial V ++ w_O1 G g_air V_air ++ w_O2 G g_now V_now) H locs := hX.1
              have hl : lv_has ls 8 [(7, .int (nI iL8)), (6, .int L8a), (5, .int SFL4), (0, .ref (g 0)), (3, .int x2)] := hX.2
              obtain ⟨hiL8, hs⟩ := hI
              have hltL8 : iL8 < (cN (V_now.2.1 5)) := by omega
              obtain ⟨BVL8, hBd⟩ : ∃ z, (f_X7_frost_L8) iL8 L8a = z := ⟨_, rfl⟩
              have hs : lpu (f_X7_frost_L8) n (iL8 + 1) BVL8 = SFL8 := by rw [← hBd]; exact hs
              have hBL8 : (L8a * (10 : Int32)) = BVL8 := hBd
              refine lv_iload hx hb dX7_frost_98 (lv_at hl 0 rfl) ?_
              refine lv_aload_n hx hb dX7_frost_100 rfl (lv_at hl 3 rfl) ?_
              refine kb_get (v := .ref (g_now 0)) hx hb hts hin7 hown hK hH 0 rfl rfl rfl 1 (by decide) (hts (.fieldLink RX7 19 "CockWar" "now" "LCockWar$Hill;") (List.mem_of_getElem? (i := 2) rfl)) (fun _ h9 => h9) rfl dX7_frost_101 ?_
              refine kb_getN (v := .int (V_now.2.1 5)) hx hb hts hin2 hown hK hH 5 rfl rfl rfl 5 (by decide) (kb_NF hN 10 rfl) (fun _ h9 => h9) rfl dX7_frost_104 ?_
              refine lv_icmp_ge (tgt := 123) hx hb dX7_frost_107 (by decide) (fun c => absurd c (cN_ge hltL8)) (fun c9 => ?_)
              refine lv_iload hx hb dX7_frost_110 (lv_at hl 1 rfl) ?_
              refine lv_bipush (v := 10) hx hb dX7_frost_112 (by decide) ?_
              refine lv_imul hx hb dX7_frost_114 ?_
              refine lv_istore (lv' := [(6, .int (L8a * (10 : Int32))), (7, .int (nI iL8)), (5, .int SFL4), (0, .ref (g 0)), (3, .int x2)]) hx hb dX7_frost_115 hl (by decide) rfl (fun ls hl => ?_)
              refine lv_iinc (v := (nI (iL8 + 1))) (lv' := [(7, .int (nI (iL8 + 1))), (6, .int (L8a * (10 : Int32))), (5, .int SFL4), (0, .ref (g 0)), (3, .int x2)]) hx hb dX7_frost_117 hl (k := 1) rfl (nI_1 _) (by decide) rfl (fun ls hl => ?_)
              refine lv_goto (tgt := 98) hx hb dX7_frost_120 (by decide) ?_
              subst hBL8
              exact ihL8 _ _ _ _ ⟨by omega, hs⟩ ⟨hH, lv_sub hl [0, 1, 2, 3, 4] rfl⟩
          · obtain ⟨hH, hl⟩ := hX
            refine lv_iload hx hb dX7_frost_123 (lv_at hl 0 rfl) ?_
            refine lv_iload hx hb dX7_frost_125 (lv_at hl 1 rfl) ?_
            refine kb_ci hH hA [] (Wc := ([] : List va_W)) (Wc' := ([] : List va_W)) (WS' := (w_O7 G g a_reader (g_now 0) (g_air 0) a_acts a_sights a_slots a_plan a_trial V ++ w_O1 G g_air V_air ++ w_O2 G g_now V_now)) rfl (by decide) rfl rfl (va_runS (As := [.int SFL8, .int SFL4]) (rest := []) ⟨hx, hb, hml, hown, hts⟩ (c_X7_commonDivisor l G SFL8 SFL4 rfl _) (va_cwS 2 hts gX7_frost_X7_commonDivisor rfl rfl rfl hd_X7_commonDivisor ⟨Nat.le_of_ble_eq_true rfl, Nat.le_of_ble_eq_true rfl⟩) (kb_preS hH hK hN [] rfl (by decide)) rfl rfl hl.1 rfl (lv_room (Nat.le_of_ble_eq_true rfl)) dX7_frost_127 ⟨Nat.le_of_ble_eq_true rfl, Nat.le_of_ble_eq_true rfl⟩) (fun H locs hH => ?_)
            refine lv_istore (lv' := [(7, .int (f_X7_commonDivisor SFL8 SFL4)), (6, .int SFL8), (5, .int SFL4), (3, .int x2)]) hx hb dX7_frost_130 hl (by decide) rfl (fun ls hl => ?_)
            refine lv_iload hx hb dX7_frost_132 (lv_at hl 0 rfl) ?_
            refine lv_iconst (v := 1) hx hb dX7_frost_134 (by decide) ?_
            refine lv_icmp_ge (tgt := 150) hx hb dX7_frost_135 (by decide) (fun c11 => ?_) (fun c11 => ?_)
            · have hD := hD c11
              rw [if_pos c11] at hF
              refine lv_iload_n hx hb dX7_frost_150 rfl (lv_at hl 3 rfl) ?_
              refine lv_if_eq (tgt := 162) hx hb dX7_frost_151 (by decide) (fun c12 => ?_) (fun c12 => ?_)
              · have hD := hD.1 c12
                rw [if_pos c12] at hF
                refine lv_iload hx hb dX7_frost_162 (lv_at hl 1 rfl) ?_
                refine lv_iload hx hb dX7_frost_164 (lv_at hl 0 rfl) ?_
                have hz13 := hD
                refine lv_idiv hx hb dX7_frost_166 hz13 ?_
                subst hF
                exact kb_iret hx hb hr hH rfl rfl dX7_frost_167 hlocks
              · have hD := hD.2 c12
                rw [if_neg c12] at hF
                refine lv_iload hx hb dX7_frost_154 (lv_at hl 2 rfl) ?_
                refine lv_iload hx hb dX7_frost_156 (lv_at hl 0 rfl) ?_
                have hz14 := hD
                refine lv_idiv hx hb dX7_frost_158 hz14 ?_
                refine lv_goto (tgt := 167) hx hb dX7_frost_159 (by decide) ?_
                subst hF
                exact kb_iret hx hb hr hH rfl rfl dX7_frost_167 hlocks
            · rw [if_neg c11] at hF
              refine lv_iload_n hx hb dX7_frost_138 rfl (lv_at hl 3 rfl) ?_
              refine lv_if_eq (tgt := 147) hx hb dX7_frost_139 (by decide) (fun c15 => ?_) (fun c15 => ?_)
              · rw [if_pos c15] at hF
                refine lv_iload hx hb dX7_frost_147 (lv_at hl 1 rfl) ?_
                subst hF
                exact kb_iret hx hb hr hH rfl rfl dX7_frost_149 hlocks
              · rw [if_neg c15] at hF
                refine lv_iload hx hb dX7_frost_142 (lv_at hl 2 rfl) ?_
                refine lv_goto (tgt := 149) hx hb dX7_frost_144 (by decide) ?_
                subst hF
                exact kb_iret hx hb hr hH rfl rfl dX7_frost_149 hlocks
      · rw [if_neg c3] at hF
        refine lv_bipush (v := -2) hx hb dX7_frost_23 (by decide) ?_
        subst hF
        exact kb_iret hx hb hr hH rfl rfl dX7_frost_25 hlocks
  · rw [if_pos c1] at hF
    refine lv_iconst (v := -1) hx hb dX7_frost_11 (by decide) ?_
    subst hF
    exact kb_iret hx hb hr hH rfl rfl dX7_frost_12 hlocks
def f_X7_seed (V : OV) (x0 : Int64) : (Int64 × OV) := ((V.2.2 8), (oL V 8 x0))
set_option maxHeartbeats 4000000 in
set_option maxRecDepth 100000 in
theorem c_X7_seed (l : Launch) (G : Ge) (g : Nat → Nat) (a_reader : Nat) (a_now : Nat) (a_air : Nat) (a_acts : Nat) (a_sights : Nat) (a_slots : Nat) (a_plan : Nat) (a_trial : Nat) (V : OV) (x0 : Int64) {F : (Int64 × OV)} (hF : f_X7_seed V x0 = F) : CJ l yX7_seed wsX7_seed { frames := 0, cells := 0, slots := 0, locals := 0 } [.ref (g 0), .long x0] G (w_O7 G g a_reader a_now a_air a_acts a_sights a_slots a_plan a_trial V) (w_O7 G g a_reader a_now a_air a_acts a_sights a_slots a_plan a_trial F.2) F.1 := by
  intro sz
  refine Met.ofW (cc := cX7_seed) (maxL := 5) (ret := (some .long)) (by decide) rfl ?_
  intro p e s m args below meth c s₁ B hml hv
  obtain ⟨rfl, hpre⟩ := hv
  obtain ⟨hsz, hH, hK, hN, hA⟩ := kb_start hpre
  subst hsz
  have hx := B.exec
  have hb := B.bytes
  have hr := B.returns
  have hts := atoms_spec (ws := wsX7_seed) B.pre
  have hown : s.vm.findClass RX7 = some m.cls := findClass_of_methodNamed B.named
  have hlocks := B.notSynchronized
  generalize hAe : va_A (List.flatten (w_O7 G g a_reader a_now a_air a_acts a_sights a_slots a_plan a_trial V)) s.heap.size = A at hH hA ⊢
  have hl := lv_entry ([.ref (g 0), .long x0]) (n := 5) (Nat.le_of_ble_eq_true rfl)
  rw [lg_entry_eq]
  generalize (lg_sl ([.ref (g 0), .long x0]) ++ List.replicate (5 - (lg_sl ([.ref (g 0), .long x0])).length) Slot.unset).toArray = ls at hl ⊢
  have hl : lv_has ls 5 [(0, .ref (g 0)), (1, .long x0)] := hl
  have hH : HP G A s.heap (w_O7 G g a_reader a_now a_air a_acts a_sights a_slots a_plan a_trial V) s.heap [] := hH
  have hin7 : ∀ w ∈ u_ws RX7 TX7 9, w ∈ wsX7_seed := fun w h => List.mem_cons_of_mem _ (List.mem_append_right _ h)
  have hF : ((V.2.2 8), (oL V 8 x0)) = F := hF
  refine lv_aload_n hx hb dX7_seed_0 rfl (lv_at hl 0 rfl) ?_
  refine kb_get (v := .long (V.2.2 8)) hx hb hts hin7 hown hK hH 0 rfl rfl rfl 8 (by decide) (hts (.fieldLink RX7 61 "CockWar" "drawn" "J") (List.mem_of_getElem? (i := 1) rfl)) (fun _ h9 => h9) rfl dX7_seed_1 ?_
  refine lv_lstore_n (lv' := [(3, .long (V.2.2 8)), (0, .ref (g 0)), (1, .long x0)]) hx hb dX7_seed_4 rfl hl (by decide) rfl (fun ls hl => ?_)
  refine lv_aload_n hx hb dX7_seed_5 rfl (lv_at hl 1 rfl) ?_
  refine lv_lload_n hx hb dX7_seed_6 rfl (lv_at hl 2 rfl) ?_
  refine kb_put (ty := .long) (v := .long x0) (WS' := (w_O7 G g a_reader a_now a_air a_acts a_sights a_slots a_plan a_trial (oL V 8 x0))) hx hb hts hin7 tyX7 tyX7_ok nmX7 hown hK hH 0 rfl rfl 8 (by decide) (hts (.fieldLink RX7 61 "CockWar" "drawn" "J") (List.mem_of_getElem? (i := 1) rfl)) (fun _ h9 => h9) rfl (by decide +kernel) rfl rfl (Nat.le_of_ble_eq_true rfl) rfl dX7_seed_7 (fun H locs hH => ?_)
  refine lv_lload_n hx hb dX7_seed_10 rfl (lv_at hl 0 rfl) ?_
  subst hF
  exact kb_lret hx hb hr hH rfl rfl dX7_seed_11 hlocks
def f_X7_years_L5 (V_air : OV) (iL5 : Nat) (s : (Int32 × OV × OV)) : (Int32 × OV × OV) := (kAp (f_X1_blowOver V_air s.2.2 (f_X1_windOfDay V_air (((((((s.2.1.2.2 8) * (6364136223846793005 : Int64)) + (1442695040888963407 : Int64)).toUInt64 >>> ((33 : Int32).toInt64.toUInt64 &&& Int64.toUInt64 63)).toInt64) - (((((s.2.1.2.2 8) * (6364136223846793005 : Int64)) + (1442695040888963407 : Int64)).toUInt64 >>> ((33 : Int32).toInt64.toUInt64 &&& Int64.toUInt64 63)).toInt64) / ((f_X1_daysInAll V_air).toInt64) * ((f_X1_daysInAll V_air).toInt64)).toInt32))) (fun q8 => (if q8.1 = 0 then ((s.1 + (1 : Int32)), (oL s.2.1 8 (((s.2.1.2.2 8) * (6364136223846793005 : Int64)) + (1442695040888963407 : Int64))), q8.2) else (s.1, (oL s.2.1 8 (((s.2.1.2.2 8) * (6364136223846793005 : Int64)) + (1442695040888963407 : Int64))), q8.2))))
def d_X7_years_L5 (V_air : OV) (iL5 : Nat) (s : (Int32 × OV × OV)) : Prop := ¬ ((f_X1_daysInAll V_air).toInt64) = 0
def f_X7_years (V : OV) (V_air : OV) (V_trial : OV) (V_now : OV) (x0 : Int32) : (Int32 × OV × OV) := (if x0 < (1 : Int32) then ((-2 : Int32), V, V_trial) else (if x0 ≤ (30 : Int32) then (if (1 : Int32) ≤ (f_X1_daysInAll V_air) then (kAp (f_X2_copyFrom V_trial V_now) (fun q4 => (kAp (lpu (f_X7_years_L5 V_air) (cN x0) 0 ((0 : Int32), V, q4)) (fun z10 => (z10.1, z10.2.1, z10.2.2))))) else ((0 : Int32), V, V_trial)) else ((-2 : Int32), V, V_trial)))
def d_X7_years (V : OV) (V_air : OV) (V_trial : OV) (V_now : OV) (x0 : Int32) : Prop := (¬ (x0 < (1 : Int32)) → (x0 ≤ (30 : Int32) → ((1 : Int32) ≤ (f_X1_daysInAll V_air) → (kAp (f_X2_copyFrom V_trial V_now) (fun q4 => (lpuD (f_X7_years_L5 V_air) (d_X7_years_L5 V_air) (cN x0) 0 ((0 : Int32), V, q4)))))))
set_option maxHeartbeats 4000000 in
set_option maxRecDepth 100000 in
theorem c_X7_years (l : Launch) (G : Ge) (g : Nat → Nat) (a_reader : Nat) (a_acts : Nat) (a_sights : Nat) (a_slots : Nat) (a_plan : Nat) (V : OV) (g_air : Nat → Nat) (V_air : OV) (g_trial : Nat → Nat) (V_trial : OV) (g_now : Nat → Nat) (V_now : OV) (x0 : Int32) (hD : d_X7_years V V_air V_trial V_now x0) {F : (Int32 × OV × OV)} (hF : f_X7_years V V_air V_trial V_now x0 = F) : CI l yX7_years wsX7_years { frames := 4, cells := 0, slots := 0, locals := 96 } [.ref (g 0), .int x0] G (w_O7 G g a_reader (g_now 0) (g_air 0) a_acts a_sights a_slots a_plan (g_trial 0) V ++ w_O1 G g_air V_air ++ w_O2 G g_trial V_trial ++ w_O2 G g_now V_now) (w_O7 G g a_reader (g_now 0) (g_air 0) a_acts a_sights a_slots a_plan (g_trial 0) F.2.1 ++ w_O1 G g_air V_air ++ w_O2 G g_trial F.2.2 ++ w_O2 G g_now V_now) F.1 := by
  intro sz
  refine Met.ofW (cc := cX7_years) (maxL := 6) (ret := (some .int)) (by decide) rfl ?_
  intro p e s m args below meth c s₁ B hml hv
  obtain ⟨rfl, hpre⟩ := hv
  obtain ⟨hsz, hH, hK, hN, hA⟩ := kb_start hpre
  subst hsz
  have hx := B.exec
  have hb := B.bytes
  have hr := B.returns
  have hts := atoms_spec (ws := wsX7_years) B.pre
  have hown : s.vm.findClass RX7 = some m.cls := findClass_of_methodNamed B.named
  have hlocks := B.notSynchronized
  generalize hAe : va_A (List.flatten (w_O7 G g a_reader (g_now 0) (g_air 0) a_acts a_sights a_slots a_plan (g_trial 0) V ++ w_O1 G g_air V_air ++ w_O2 G g_trial V_trial ++ w_O2 G g_now V_now)) s.heap.size = A at hH hA ⊢
  have hl := lv_entry ([.ref (g 0), .int x0]) (n := 6) (Nat.le_of_ble_eq_true rfl)
  rw [lg_entry_eq]
  generalize (lg_sl ([.ref (g 0), .int x0]) ++ List.replicate (6 - (lg_sl ([.ref (g 0), .int x0])).length) Slot.unset).toArray = ls at hl ⊢
  have hl : lv_has ls 6 [(0, .ref (g 0)), (1, .int x0)] := hl
  have hH : HP G A s.heap (w_O7 G g a_reader (g_now 0) (g_air 0) a_acts a_sights a_slots a_plan (g_trial 0) V ++ w_O1 G g_air V_air ++ w_O2 G g_trial V_trial ++ w_O2 G g_now V_now) s.heap [] := hH
  have hin7 : ∀ w ∈ u_ws RX7 TX7 9, w ∈ wsX7_years := fun w h => List.mem_cons_of_mem _ (List.mem_append_left _ (List.mem_append_left _ (List.mem_append_right _ h)))
  have hF : (if x0 < (1 : Int32) then ((-2 : Int32), V, V_trial) else (if x0 ≤ (30 : Int32) then (if (1 : Int32) ≤ (f_X1_daysInAll V_air) then (kAp (f_X2_copyFrom V_trial V_now) (fun q4 => (kAp (lpu (f_X7_years_L5 V_air) (cN x0) 0 ((0 : Int32), V, q4)) (fun z10 => (z10.1, z10.2.1, z10.2.2))))) else ((0 : Int32), V, V_trial)) else ((-2 : Int32), V, V_trial))) = F := hF
  have hD : (¬ (x0 < (1 : Int32)) → (x0 ≤ (30 : Int32) → ((1 : Int32) ≤ (f_X1_daysInAll V_air) → (kAp (f_X2_copyFrom V_trial V_now) (fun q4 => (lpuD (f_X7_years_L5 V_air) (d_X7_years_L5 V_air) (cN x0) 0 ((0 : Int32), V, q4))))))) := hD
  refine lv_iload_n hx hb dX7_years_0 rfl (lv_at hl 1 rfl) ?_
  refine lv_iconst (v := 1) hx hb dX7_years_1 (by decide) ?_
  refine lv_icmp_lt (tgt := 11) hx hb dX7_years_2 (by decide) (fun c1 => ?_) (fun c1 => ?_)
  · rw [if_pos c1] at hF
    refine lv_bipush (v := -2) hx hb dX7_years_11 (by decide) ?_
    subst hF
    exact kb_iret hx hb hr hH rfl rfl dX7_years_13 hlocks
  · have hD := hD c1
    rw [if_neg c1] at hF
    refine lv_iload_n hx hb dX7_years_5 rfl (lv_at hl 1 rfl) ?_
    refine lv_bipush (v := 30) hx hb dX7_years_6 (by decide) ?_
    refine lv_icmp_le (tgt := 14) hx hb dX7_years_8 (by decide) (fun c2 => ?_) (fun c2 => ?_)
    · have hD := hD c2
      rw [if_pos c2] at hF
      refine lv_aload_n hx hb dX7_years_14 rfl (lv_at hl 0 rfl) ?_
      refine kb_get (v := .ref (g_air 0)) hx hb hts hin7 hown hK hH 0 rfl rfl rfl 2 (by decide) (hts (.fieldLink RX7 26 "CockWar" "air" "LCockWar$Air;") (List.mem_of_getElem? (i := 1) rfl)) (fun _ h9 => h9) rfl dX7_years_15 ?_
      refine kb_ci hH hA [1, 2, 3, 4] (Wc := (w_O1 G g_air V_air)) (Wc' := (w_O1 G g_air V_air)) (WS' := (w_O7 G g a_reader (g_now 0) (g_air 0) a_acts a_sights a_slots a_plan (g_trial 0) V ++ w_O1 G g_air V_air ++ w_O2 G g_trial V_trial ++ w_O2 G g_now V_now)) rfl (by decide) rfl rfl (va_runVN (C := RX1) (As := []) (rest := []) ⟨hx, hb, hml, hown, hts⟩ (c_X1_daysInAll l G g_air V_air rfl _) ⟨va_cnB 0 hts gX7_years_X1_daysInAll_n238 rfl rfl rfl (kb_NM hN 61 rfl) (hts (.initialized RX1) (List.mem_of_getElem? (i := 8) rfl)) hd_X1_daysInAll ⟨Nat.le_of_ble_eq_true rfl, Nat.le_of_ble_eq_true rfl⟩, (hts (.instanceMethod yX1_daysInAll) (List.mem_of_getElem? (i := 7) rfl)), (hts (.selects RX1 yX1_daysInAll yX1_daysInAll) (List.mem_of_getElem? (i := 9) rfl))⟩ (kb_preV hH hK hN [1, 2, 3, 4] rfl (by decide) 1 rfl rfl rfl rfl) rfl rfl hl.1 rfl (lv_room (Nat.le_of_ble_eq_true rfl)) dX7_years_18 ⟨Nat.le_of_ble_eq_true rfl, Nat.le_of_ble_eq_true rfl⟩) (fun H locs hH => ?_)
      refine lv_istore_n (lv' := [(2, .int (f_X1_daysInAll V_air)), (0, .ref (g 0)), (1, .int x0)]) hx hb dX7_years_21 rfl hl (by decide) rfl (fun ls hl => ?_)
      refine lv_iload_n hx hb dX7_years_22 rfl (lv_at hl 0 rfl) ?_
      refine lv_iconst (v := 1) hx hb dX7_years_23 (by decide) ?_
      refine lv_icmp_ge (tgt := 29) hx hb dX7_years_24 (by decide) (fun c3 => ?_) (fun c3 => ?_)
      · have hD := hD c3
        rw [if_pos c3] at hF
        refine lv_aload_n hx hb dX7_years_29 rfl (lv_at hl 1 rfl) ?_
        refine kb_get (v := .ref (g_trial 0)) hx hb hts hin7 hown hK hH 0 rfl rfl rfl 7 (by decide) (hts (.fieldLink RX7 58 "CockWar" "trial" "LCockWar$Hill;") (List.mem_of_getElem? (i := 2) rfl)) (fun _ h9 => h9) rfl dX7_years_30 ?_
        refine lv_aload_n hx hb dX7_years_33 rfl (lv_at hl 1 rfl) ?_
        refine kb_get (v := .ref (g_now 0)) hx hb hts hin7 hown hK hH 0 rfl rfl rfl 1 (by decide) (hts (.fieldLink RX7 19 "CockWar" "now" "LCockWar$Hill;") (List.mem_of_getElem? (i := 3) rfl)) (fun _ h9 => h9) rfl dX7_years_34 ?_
        obtain ⟨q4, hq4⟩ : ∃ z, z = (f_X2_copyFrom V_trial V_now) := ⟨_, rfl⟩
        have hF := kAp_eq hF hq4
        have hD := kAp_D hD hq4
        refine kb_cv hH hA [5, 6, 7, 8, 9, 10, 11, 12, 13, 14, 15, 16] (Wc := (w_O2 G g_trial V_trial ++ w_O2 G g_now V_now)) (Wc' := (w_O2 G g_trial q4 ++ w_O2 G g_now V_now)) (WS' := (w_O7 G g a_reader (g_now 0) (g_air 0) a_acts a_sights a_slots a_plan (g_trial 0) V ++ w_O1 G g_air V_air ++ w_O2 G g_trial q4 ++ w_O2 G g_now V_now)) rfl (by decide) rfl rfl (va_runVN (C := RX2) (As := [.ref (g_now 0)]) (rest := []) ⟨hx, hb, hml, hown, hts⟩ (c_X2_copyFrom l G g_trial V_trial g_now V_now hq4.symm _) ⟨va_cnB 1 hts gX7_years_X2_copyFrom_n80 rfl rfl rfl (kb_NM hN 25 rfl) (hts (.initialized RX2) (List.mem_of_getElem? (i := 17) rfl)) hd_X2_copyFrom ⟨Nat.le_of_ble_eq_true rfl, Nat.le_of_ble_eq_true rfl⟩, (hts (.instanceMethod yX2_copyFrom) (List.mem_of_getElem? (i := 16) rfl)), (hts (.selects RX2 yX2_copyFrom yX2_copyFrom) (List.mem_of_getElem? (i := 18) rfl))⟩ (kb_preV hH hK hN [5, 6, 7, 8, 9, 10, 11, 12, 13, 14, 15, 16] rfl (by decide) 5 rfl rfl rfl rfl) rfl rfl hl.1 rfl (lv_room (Nat.le_of_ble_eq_true rfl)) dX7_years_37 ⟨Nat.le_of_ble_eq_true rfl, Nat.le_of_ble_eq_true rfl⟩) (fun H locs hH => ?_)
        refine lv_iconst (v := 0) hx hb dX7_years_40 (by decide) ?_
        refine lv_istore_n (lv' := [(3, .int (0 : Int32)), (2, .int (f_X1_daysInAll V_air)), (0, .ref (g 0)), (1, .int x0)]) hx hb dX7_years_41 rfl hl (by decide) rfl (fun ls hl => ?_)
        refine lv_iconst (v := 0) hx hb dX7_years_42 (by decide) ?_
        refine lv_istore (lv' := [(4, .int (0 : Int32)), (3, .int (0 : Int32)), (2, .int (f_X1_daysInAll V_air)), (0, .ref (g 0)), (1, .int x0)]) hx hb dX7_years_43 hl (by decide) rfl (fun ls hl => ?_)
        have hDlL5 := hD
        obtain ⟨SFL5, hSFL5⟩ : ∃ z, z = (lpu (f_X7_years_L5 V_air) (cN x0) 0 ((0 : Int32), V, q4)) := ⟨_, rfl⟩
        have hF := kAp_eq hF hSFL5
        refine kb_cut (fun H locs ls => HP G A s.heap (w_O7 G g a_reader (g_now 0) (g_air 0) a_acts a_sights a_slots a_plan (g_trial 0) SFL5.2.1 ++ w_O1 G g_air V_air ++ w_O2 G g_trial SFL5.2.2 ++ w_O2 G g_now V_now) H locs ∧ lv_has ls 6 [(3, .int SFL5.1)]) 112 [] (fun EXL5 => ?_) (fun H locs ls hX => ?_)
        · refine kb_loop (σ := (Int32 × OV × OV)) (fun n i x => n + i = (cN x0) ∧ lpu (f_X7_years_L5 V_air) n i x = SFL5 ∧ lpuD (f_X7_years_L5 V_air) (d_X7_years_L5 V_air) n i x) (fun iL5 x H locs ls => HP G A s.heap (w_O7 G g a_reader (g_now 0) (g_air 0) a_acts a_sights a_slots a_plan (g_trial 0) x.2.1 ++ w_O1 G g_air V_air ++ w_O2 G g_trial x.2.2 ++ w_O2 G g_now V_now) H locs ∧ lv_has ls 6 [(4, .int (nI iL5)), (3, .int x.1), (2, .int (f_X1_daysInAll V_air)), (0, .ref (g 0)), (1, .int x0)]) (fun iL5 x H locs ls hI hX => ?_) (fun n iL5 x hI ihL5 H locs ls hX => ?_) (cN x0) 0 ((0 : Int32), V, q4) _ _ _ ⟨Nat.add_zero _, hSFL5.symm, hDlL5⟩ ⟨hH, lv_sub hl [0, 1, 2, 3, 4] rfl⟩
          · obtain ⟨L5a, L5b, L5c⟩ := x
            have hH : HP G A s.heap (w_O7 G g a_reader (g_now 0) (g_air 0) a_acts a_sights a_slots a_plan (g_trial 0) L5b ++ w_O1 G g_air V_air ++ w_O2 G g_trial L5c ++ w_O2 G g_now V_now) H locs := hX.1
            have hl : lv_has ls 6 [(4, .int (nI iL5)), (3, .int L5a), (2, .int (f_X1_daysInAll V_air)), (0, .ref (g 0)), (1, .int x0)] := hX.2
            obtain ⟨hiL5, hs, _⟩ := hI
            have hiL5 : iL5 = (cN x0) := by omega
            refine lv_iload hx hb dX7_years_45 (lv_at hl 0 rfl) ?_
            refine lv_iload_n hx hb dX7_years_47 rfl (lv_at hl 4 rfl) ?_
            refine lv_icmp_ge (tgt := 112) hx hb dX7_years_48 (by decide) (fun _ => ?_) (fun c => absurd (cN_end hiL5) c)
            exact EXL5 _ _ _ ⟨by subst hs; exact hH, by subst hs; exact lv_sub hl [1] rfl⟩
          · obtain ⟨L5a, L5b, L5c⟩ := x
            have hH : HP G A s.heap (w_O7 G g a_reader (g_now 0) (g_air 0) a_acts a_sights a_slots a_plan (g_trial 0) L5b ++ w_O1 G g_air V_air ++ w_O2 G g_trial L5c ++ w_O2 G g_now V_now) H locs := hX.1
            have hl : lv_has ls 6 [(4, .int (nI iL5)), (3, .int L5a), (2, .int (f_X1_daysInAll V_air)), (0, .ref (g 0)), (1, .int x0)] := hX.2
            obtain ⟨hiL5, hs, hDi⟩ := hI
            obtain ⟨hD, hDn⟩ := hDi
            have hD : ¬ ((f_X1_daysInAll V_air).toInt64) = 0 := hD
            have hltL5 : iL5 < (cN x0) := by omega
            obtain ⟨BVL5, hBd⟩ : ∃ z, (f_X7_years_L5 V_air) iL5 (L5a, L5b, L5c) = z := ⟨_, rfl⟩
            have hs : lpu (f_X7_years_L5 V_air) n (iL5 + 1) BVL5 = SFL5 := by rw [← hBd]; exact hs
            have hDn : lpuD (f_X7_years_L5 V_air) (d_X7_years_L5 V_air) n (iL5 + 1) BVL5 := by rw [← hBd]; exact hDn
            have hBL5 : (kAp (f_X1_blowOver V_air L5c (f_X1_windOfDay V_air (((((((L5b.2.2 8) * (6364136223846793005 : Int64)) + (1442695040888963407 : Int64)).toUInt64 >>> ((33 : Int32).toInt64.toUInt64 &&& Int64.toUInt64 63)).toInt64) - (((((L5b.2.2 8) * (6364136223846793005 : Int64)) + (1442695040888963407 : Int64)).toUInt64 >>> ((33 : Int32).toInt64.toUInt64 &&& Int64.toUInt64 63)).toInt64) / ((f_X1_daysInAll V_air).toInt64) * ((f_X1_daysInAll V_air).toInt64)).toInt32))) (fun q8 => (if q8.1 = 0 then ((L5a + (1 : Int32)), (oL L5b 8 (((L5b.2.2 8) * (6364136223846793005 : Int64)) + (1442695040888963407 : Int64))), q8.2) else (L5a, (oL L5b 8 (((L5b.2.2 8) * (6364136223846793005 : Int64)) + (1442695040888963407 : Int64))), q8.2)))) = BVL5 := hBd
            refine lv_iload hx hb dX7_years_45 (lv_at hl 0 rfl) ?_
            refine lv_iload_n hx hb dX7_years_47 rfl (lv_at hl 4 rfl) ?_
            refine lv_icmp_ge (tgt := 112) hx hb dX7_years_48 (by decide) (fun c => absurd c (cN_ge hltL5)) (fun c6 => ?_)
            refine lv_aload_n hx hb dX7_years_51 rfl (lv_at hl 3 rfl) ?_
            refine lv_aload_n hx hb dX7_years_52 rfl (lv_at hl 3 rfl) ?_
            refine kb_get (v := .long (L5b.2.2 8)) hx hb hts hin7 hown hK hH 0 rfl rfl rfl 8 (by decide) (hts (.fieldLink RX7 61 "CockWar" "drawn" "J") (List.mem_of_getElem? (i := 4) rfl)) (fun _ h9 => h9) rfl dX7_years_53 ?_
            refine lv_ldc2 (v := 6364136223846793005) hx hb hown (hts (.constantLong RX7 241 (6364136223846793005)) (List.mem_of_getElem? (i := 5) rfl)) dX7_years_56 ?_
            refine lv_lmul hx hb dX7_years_59 ?_
            refine lv_ldc2 (v := 1442695040888963407) hx hb hown (hts (.constantLong RX7 243 (1442695040888963407)) (List.mem_of_getElem? (i := 6) rfl)) dX7_years_60 ?_
            refine lv_ladd hx hb dX7_years_63 ?_
            refine kb_put (ty := .long) (v := .long (((L5b.2.2 8) * (6364136223846793005 : Int64)) + (1442695040888963407 : Int64))) (WS' := (w_O7 G g a_reader (g_now 0) (g_air 0) a_acts a_sights a_slots a_plan (g_trial 0) (oL L5b 8 (((L5b.2.2 8) * (6364136223846793005 : Int64)) + (1442695040888963407 : Int64))) ++ w_O1 G g_air V_air ++ w_O2 G g_trial L5c ++ w_O2 G g_now V_now)) hx hb hts hin7 tyX7 tyX7_ok nmX7 hown hK hH 0 rfl rfl 8 (by decide) (hts (.fieldLink RX7 61 "CockWar" "drawn" "J") (List.mem_of_getElem? (i := 4) rfl)) (fun _ h9 => h9) rfl (by decide +kernel) rfl rfl (Nat.le_of_ble_eq_true rfl) rfl dX7_years_64 (fun H locs hH => ?_)
            refine lv_aload_n hx hb dX7_years_67 rfl (lv_at hl 3 rfl) ?_
            refine kb_get (v := .long (((L5b.2.2 8) * (6364136223846793005 : Int64)) + (1442695040888963407 : Int64))) hx hb hts hin7 hown hK hH 0 rfl rfl rfl 8 (by decide) (hts (.fieldLink RX7 61 "CockWar" "drawn" "J") (List.mem_of_getElem? (i := 4) rfl)) (fun _ h9 => h9) rfl dX7_years_68 ?_
            refine lv_bipush (v := 33) hx hb dX7_years_71 (by decide) ?_
            refine lv_lushr (v := (((((L5b.2.2 8) * (6364136223846793005 : Int64)) + (1442695040888963407 : Int64)).toUInt64 >>> ((33 : Int32).toInt64.toUInt64 &&& Int64.toUInt64 63)).toInt64)) hx hb dX7_years_73 rfl ?_
            refine lv_iload_n hx hb dX7_years_74 rfl (lv_at hl 2 rfl) ?_
            refine lv_i2l (v := ((f_X1_daysInAll V_air).toInt64)) hx hb dX7_years_75 rfl ?_
            have hz7 := hD
            refine lv_lrem hx hb dX7_years_76 hz7 ?_
            refine lv_l2i (v := (((((((L5b.2.2 8) * (6364136223846793005 : Int64)) + (1442695040888963407 : Int64)).toUInt64 >>> ((33 : Int32).toInt64.toUInt64 &&& Int64.toUInt64 63)).toInt64) - (((((L5b.2.2 8) * (6364136223846793005 : Int64)) + (1442695040888963407 : Int64)).toUInt64 >>> ((33 : Int32).toInt64.toUInt64 &&& Int64.toUInt64 63)).toInt64) / ((f_X1_daysInAll V_air).toInt64) * ((f_X1_daysInAll V_air).toInt64)).toInt32)) hx hb dX7_years_77 rfl ?_
            refine lv_istore (lv' := [(5, .int (((((((L5b.2.2 8) * (6364136223846793005 : Int64)) + (1442695040888963407 : Int64)).toUInt64 >>> ((33 : Int32).toInt64.toUInt64 &&& Int64.toUInt64 63)).toInt64) - (((((L5b.2.2 8) * (6364136223846793005 : Int64)) + (1442695040888963407 : Int64)).toUInt64 >>> ((33 : Int32).toInt64.toUInt64 &&& Int64.toUInt64 63)).toInt64) / ((f_X1_daysInAll V_air).toInt64) * ((f_X1_daysInAll V_air).toInt64)).toInt32)), (4, .int (nI iL5)), (3, .int L5a), (2, .int (f_X1_daysInAll V_air)), (0, .ref (g 0)), (1, .int x0)]) hx hb dX7_years_78 hl (by decide) rfl (fun ls hl => ?_)
            refine lv_aload_n hx hb dX7_years_80 rfl (lv_at hl 4 rfl) ?_
            refine kb_get (v := .ref (g_air 0)) hx hb hts hin7 hown hK hH 0 rfl rfl rfl 2 (by decide) (hts (.fieldLink RX7 26 "CockWar" "air" "LCockWar$Air;") (List.mem_of_getElem? (i := 1) rfl)) (fun _ h9 => h9) rfl dX7_years_81 ?_
            refine lv_aload_n hx hb dX7_years_84 rfl (lv_at hl 4 rfl) ?_
            refine kb_get (v := .ref (g_trial 0)) hx hb hts hin7 hown hK hH 0 rfl rfl rfl 7 (by decide) (hts (.fieldLink RX7 58 "CockWar" "trial" "LCockWar$Hill;") (List.mem_of_getElem? (i := 2) rfl)) (fun _ h9 => h9) rfl dX7_years_85 ?_
            refine lv_aload_n hx hb dX7_years_88 rfl (lv_at hl 4 rfl) ?_
            refine kb_get (v := .ref (g_air 0)) hx hb hts hin7 hown hK hH 0 rfl rfl rfl 2 (by decide) (hts (.fieldLink RX7 26 "CockWar" "air" "LCockWar$Air;") (List.mem_of_getElem? (i := 1) rfl)) (fun _ h9 => h9) rfl dX7_years_89 ?_
            refine lv_iload hx hb dX7_years_92 (lv_at hl 0 rfl) ?_
            refine kb_ci hH hA [1, 2, 3, 4] (Wc := (w_O1 G g_air V_air)) (Wc' := (w_O1 G g_air V_air)) (WS' := (w_O7 G g a_reader (g_now 0) (g_air 0) a_acts a_sights a_slots a_plan (g_trial 0) (oL L5b 8 (((L5b.2.2 8) * (6364136223846793005 : Int64)) + (1442695040888963407 : Int64))) ++ w_O1 G g_air V_air ++ w_O2 G g_trial L5c ++ w_O2 G g_now V_now)) rfl (by decide) rfl rfl (va_runVN (C := RX1) (As := [.int (((((((L5b.2.2 8) * (6364136223846793005 : Int64)) + (1442695040888963407 : Int64)).toUInt64 >>> ((33 : Int32).toInt64.toUInt64 &&& Int64.toUInt64 63)).toInt64) - (((((L5b.2.2 8) * (6364136223846793005 : Int64)) + (1442695040888963407 : Int64)).toUInt64 >>> ((33 : Int32).toInt64.toUInt64 &&& Int64.toUInt64 63)).toInt64) / ((f_X1_daysInAll V_air).toInt64) * ((f_X1_daysInAll V_air).toInt64)).toInt32)]) (rest := [.ref (g_trial 0), .ref (g_air 0)]) ⟨hx, hb, hml, hown, hts⟩ (c_X1_windOfDay l G g_air V_air (((((((L5b.2.2 8) * (6364136223846793005 : Int64)) + (1442695040888963407 : Int64)).toUInt64 >>> ((33 : Int32).toInt64.toUInt64 &&& Int64.toUInt64 63)).toInt64) - (((((L5b.2.2 8) * (6364136223846793005 : Int64)) + (1442695040888963407 : Int64)).toUInt64 >>> ((33 : Int32).toInt64.toUInt64 &&& Int64.toUInt64 63)).toInt64) / ((f_X1_daysInAll V_air).toInt64) * ((f_X1_daysInAll V_air).toInt64)).toInt32) rfl _) ⟨va_cnB 1 hts gX7_years_X1_windOfDay_n245 rfl rfl rfl (kb_NM hN 62 rfl) (hts (.initialized RX1) (List.mem_of_getElem? (i := 8) rfl)) hd_X1_windOfDay ⟨Nat.le_of_ble_eq_true rfl, Nat.le_of_ble_eq_true rfl⟩, (hts (.instanceMethod yX1_windOfDay) (List.mem_of_getElem? (i := 33) rfl)), (hts (.selects RX1 yX1_windOfDay yX1_windOfDay) (List.mem_of_getElem? (i := 34) rfl))⟩ (kb_preV hH hK hN [1, 2, 3, 4] rfl (by decide) 1 rfl rfl rfl rfl) rfl rfl hl.1 rfl (lv_room (Nat.le_of_ble_eq_true rfl)) dX7_years_94 ⟨Nat.le_of_ble_eq_true rfl, Nat.le_of_ble_eq_true rfl⟩) (fun H locs hH => ?_)
            obtain ⟨q8, hq8⟩ : ∃ z, z = (f_X1_blowOver V_air L5c (f_X1_windOfDay V_air (((((((L5b.2.2 8) * (6364136223846793005 : Int64)) + (1442695040888963407 : Int64)).toUInt64 >>> ((33 : Int32).toInt64.toUInt64 &&& Int64.toUInt64 63)).toInt64) - (((((L5b.2.2 8) * (6364136223846793005 : Int64)) + (1442695040888963407 : Int64)).toUInt64 >>> ((33 : Int32).toInt64.toUInt64 &&& Int64.toUInt64 63)).toInt64) / ((f_X1_daysInAll V_air).toInt64) * ((f_X1_daysInAll V_air).toInt64)).toInt32))) := ⟨_, rfl⟩
            have hBL5 := kAp_eq hBL5 hq8
            refine kb_ci hH hA [1, 2, 3, 4, 5, 6, 7, 8, 9, 10] (Wc := (w_O1 G g_air V_air ++ w_O2 G g_trial L5c)) (Wc' := (w_O1 G g_air V_air ++ w_O2 G g_trial q8.2)) (WS' := (w_O7 G g a_reader (g_now 0) (g_air 0) a_acts a_sights a_slots a_plan (g_trial 0) (oL L5b 8 (((L5b.2.2 8) * (6364136223846793005 : Int64)) + (1442695040888963407 : Int64))) ++ w_O1 G g_air V_air ++ w_O2 G g_trial q8.2 ++ w_O2 G g_now V_now)) rfl (by decide) rfl rfl (va_runVN (C := RX1) (As := [.ref (g_trial 0), .int (f_X1_windOfDay V_air (((((((L5b.2.2 8) * (6364136223846793005 : Int64)) + (1442695040888963407 : Int64)).toUInt64 >>> ((33 : Int32).toInt64.toUInt64 &&& Int64.toUInt64 63)).toInt64) - (((((L5b.2.2 8) * (6364136223846793005 : Int64)) + (1442695040888963407 : Int64)).toUInt64 >>> ((33 : Int32).toInt64.toUInt64 &&& Int64.toUInt64 63)).toInt64) / ((f_X1_daysInAll V_air).toInt64) * ((f_X1_daysInAll V_air).toInt64)).toInt32))]) (rest := []) ⟨hx, hb, hml, hown, hts⟩ (c_X1_blowOver l G g_air V_air g_trial L5c (f_X1_windOfDay V_air (((((((L5b.2.2 8) * (6364136223846793005 : Int64)) + (1442695040888963407 : Int64)).toUInt64 >>> ((33 : Int32).toInt64.toUInt64 &&& Int64.toUInt64 63)).toInt64) - (((((L5b.2.2 8) * (6364136223846793005 : Int64)) + (1442695040888963407 : Int64)).toUInt64 >>> ((33 : Int32).toInt64.toUInt64 &&& Int64.toUInt64 63)).toInt64) / ((f_X1_daysInAll V_air).toInt64) * ((f_X1_daysInAll V_air).toInt64)).toInt32)) hq8.symm _) ⟨va_cnB 2 hts gX7_years_X1_blowOver_n157 rfl rfl rfl (kb_NM hN 39 rfl) (hts (.initialized RX1) (List.mem_of_getElem? (i := 8) rfl)) hd_X1_blowOver ⟨Nat.le_of_ble_eq_true rfl, Nat.le_of_ble_eq_true rfl⟩, (hts (.instanceMethod yX1_blowOver) (List.mem_of_getElem? (i := 36) rfl)), (hts (.selects RX1 yX1_blowOver yX1_blowOver) (List.mem_of_getElem? (i := 37) rfl))⟩ (kb_preV hH hK hN [1, 2, 3, 4, 5, 6, 7, 8, 9, 10] rfl (by decide) 1 rfl rfl rfl rfl) rfl rfl hl.1 rfl (lv_room (Nat.le_of_ble_eq_true rfl)) dX7_years_97 ⟨Nat.le_of_ble_eq_true rfl, Nat.le_of_ble_eq_true rfl⟩) (fun H locs hH => ?_)
            refine lv_if_ne (tgt := 106) hx hb dX7_years_100 (by decide) (fun c9 => ?_) (fun c9 => ?_)
            · rw [if_neg c9] at hBL5
              refine lv_iinc (v := (nI (iL5 + 1))) (lv' := [(4, .int (nI (iL5 + 1))), (5, .int (((((((L5b.2.2 8) * (6364136223846793005 : Int64)) + (1442695040888963407 : Int64)).toUInt64 >>> ((33 : Int32).toInt64.toUInt64 &&& Int64.toUInt64 63)).toInt64) - (((((L5b.2.2 8) * (6364136223846793005 : Int64)) + (1442695040888963407 : Int64)).toUInt64 >>> ((33 : Int32).toInt64.toUInt64 &&& Int64.toUInt64 63)).toInt64) / ((f_X1_daysInAll V_air).toInt64) * ((f_X1_daysInAll V_air).toInt64)).toInt32)), (3, .int L5a), (2, .int (f_X1_daysInAll V_air)), (0, .ref (g 0)), (1, .int x0)]) hx hb dX7_years_106 hl (k := 1) rfl (nI_1 _) (by decide) rfl (fun ls hl => ?_)
              refine lv_goto (tgt := 45) hx hb dX7_years_109 (by decide) ?_
              subst hBL5
              exact ihL5 _ _ _ _ ⟨by omega, hs, hDn⟩ ⟨hH, lv_sub hl [0, 2, 3, 4, 5] rfl⟩
            · rw [if_pos c9] at hBL5
              refine lv_iinc (v := (L5a + (1 : Int32))) (lv' := [(3, .int (L5a + (1 : Int32))), (5, .int (((((((L5b.2.2 8) * (6364136223846793005 : Int64)) + (1442695040888963407 : Int64)).toUInt64 >>> ((33 : Int32).toInt64.toUInt64 &&& Int64.toUInt64 63)).toInt64) - (((((L5b.2.2 8) * (6364136223846793005 : Int64)) + (1442695040888963407 : Int64)).toUInt64 >>> ((33 : Int32).toInt64.toUInt64 &&& Int64.toUInt64 63)).toInt64) / ((f_X1_daysInAll V_air).toInt64) * ((f_X1_daysInAll V_air).toInt64)).toInt32)), (4, .int (nI iL5)), (2, .int (f_X1_daysInAll V_air)), (0, .ref (g 0)), (1, .int x0)]) hx hb dX7_years_103 hl (k := 2) rfl rfl (by decide) rfl (fun ls hl => ?_)
              refine lv_iinc (v := (nI (iL5 + 1))) (lv' := [(4, .int (nI (iL5 + 1))), (3, .int (L5a + (1 : Int32))), (5, .int (((((((L5b.2.2 8) * (6364136223846793005 : Int64)) + (1442695040888963407 : Int64)).toUInt64 >>> ((33 : Int32).toInt64.toUInt64 &&& Int64.toUInt64 63)).toInt64) - (((((L5b.2.2 8) * (6364136223846793005 : Int64)) + (1442695040888963407 : Int64)).toUInt64 >>> ((33 : Int32).toInt64.toUInt64 &&& Int64.toUInt64 63)).toInt64) / ((f_X1_daysInAll V_air).toInt64) * ((f_X1_daysInAll V_air).toInt64)).toInt32)), (2, .int (f_X1_daysInAll V_air)), (0, .ref (g 0)), (1, .int x0)]) hx hb dX7_years_106 hl (k := 2) rfl (nI_1 _) (by decide) rfl (fun ls hl => ?_)
              refine lv_goto (tgt := 45) hx hb dX7_years_109 (by decide) ?_
              subst hBL5
              exact ihL5 _ _ _ _ ⟨by omega, hs, hDn⟩ ⟨hH, lv_sub hl [0, 1, 3, 4, 5] rfl⟩
        · obtain ⟨hH, hl⟩ := hX
          refine lv_iload_n hx hb dX7_years_112 rfl (lv_at hl 0 rfl) ?_
          subst hF
          exact kb_iret hx hb hr hH rfl rfl dX7_years_113 hlocks
      · rw [if_neg c3] at hF
        refine lv_iconst (v := 0) hx hb dX7_years_27 (by decide) ?_
        subst hF
        exact kb_iret hx hb hr hH rfl rfl dX7_years_28 hlocks
    · rw [if_neg c2] at hF
      refine lv_bipush (v := -2) hx hb dX7_years_11 (by decide) ?_
      subst hF
      exact kb_iret hx hb hr hH rfl rfl dX7_years_13 hlocks
def f_X7_count (V : OV) (V_reader : OV) (V_now : OV) (V_air : OV) (V_acts : OV) (VH_this_acts : Nat → OV) (V_sights : OV) (x0 : Int32) : (Int32) := (if x0 = (0 : Int32) then (V_reader.2.1 3) else (if x0 = (1 : Int32) then (V_now.2.1 5) else (if x0 = (2 : Int32) then (V_air.2.1 3) else (if x0 = (3 : Int32) then (V_now.2.1 9) else (if x0 = (4 : Int32) then (V_now.2.1 10) else (if x0 = (5 : Int32) then (f_X2_weightFor V_now (0 : Int32)) else (if x0 = (6 : Int32) then (f_X2_weightFor V_now (1 : Int32)) else (if x0 = (7 : Int32) then (f_X2_treeCells V_now) else (if x0 = (8 : Int32) then (V_now.2.1 8) else (if x0 = (9 : Int32) then (V_acts.2.1 2) else (if x0 = (10 : Int32) then (V_sights.2.1 2) else (-2 : Int32))))))))))))
set_option maxHeartbeats 4000000 in
set_option maxRecDepth 100000 in
theorem c_X7_count (l : Launch) (G : Ge) (g : Nat → Nat) (a_slots : Nat) (a_plan : Nat) (a_trial : Nat) (V : OV) (g_reader : Nat → Nat) (a_reader_ground : Nat) (a_reader_air : Nat) (V_reader : OV) (g_now : Nat → Nat) (V_now : OV) (g_air : Nat → Nat) (V_air : OV) (g_acts : Nat → Nat) (gh_this_acts : Nat → Nat → Nat) (V_acts : OV) (VH_this_acts : Nat → OV) (g_sights : Nat → Nat) (V_sights : OV) (x0 : Int32) {F : (Int32)} (hF : f_X7_count V V_reader V_now V_air V_acts VH_this_acts V_sights x0 = F) : CI l yX7_count wsX7_count { frames := 2, cells := 0, slots := 0, locals := 44 } [.ref (g 0), .int x0] G (w_O7 G g (g_reader 0) (g_now 0) (g_air 0) (g_acts 0) (g_sights 0) a_slots a_plan a_trial V ++ w_O4 G g_reader a_reader_ground a_reader_air V_reader ++ w_O2 G g_now V_now ++ w_O1 G g_air V_air ++ w_O0 G g_acts gh_this_acts V_acts VH_this_acts ++ w_O5 G g_sights V_sights) (w_O7 G g (g_reader 0) (g_now 0) (g_air 0) (g_acts 0) (g_sights 0) a_slots a_plan a_trial V ++ w_O4 G g_reader a_reader_ground a_reader_air V_reader ++ w_O2 G g_now V_now ++ w_O1 G g_air V_air ++ w_O0 G g_acts gh_this_acts V_acts VH_this_acts ++ w_O5 G g_sights V_sights) F := by
  intro sz
  refine Met.ofW (cc := cX7_count) (maxL := 2) (ret := (some .int)) (by decide) rfl ?_
  intro p e s m args below meth c s₁ B hml hv
  obtain ⟨rfl, hpre⟩ := hv
  obtain ⟨hsz, hH, hK, hN, hA⟩ := kb_start hpre
  subst hsz
  have hx := B.exec
  have hb := B.bytes
  have hr := B.returns
  have hts := atoms_spec (ws := wsX7_count) B.pre
  have hown : s.vm.findClass RX7 = some m.cls := findClass_of_methodNamed B.named
  have hlocks := B.notSynchronized
  generalize hAe : va_A (List.flatten (w_O7 G g (g_reader 0) (g_now 0) (g_air 0) (g_acts 0) (g_sights 0) a_slots a_plan a_trial V ++ w_O4 G g_reader a_reader_ground a_reader_air V_reader ++ w_O2 G g_now V_now ++ w_O1 G g_air V_air ++ w_O0 G g_acts gh_this_acts V_acts VH_this_acts ++ w_O5 G g_sights V_sights)) s.heap.size = A at hH hA ⊢
  have hl := lv_entry ([.ref (g 0), .int x0]) (n := 2) (Nat.le_of_ble_eq_true rfl)
  rw [lg_entry_eq]
  generalize (lg_sl ([.ref (g 0), .int x0]) ++ List.replicate (2 - (lg_sl ([.ref (g 0), .int x0])).length) Slot.unset).toArray = ls at hl ⊢
  have hl : lv_has ls 2 [(0, .ref (g 0)), (1, .int x0)] := hl
  have hH : HP G A s.heap (w_O7 G g (g_reader 0) (g_now 0) (g_air 0) (g_acts 0) (g_sights 0) a_slots a_plan a_trial V ++ w_O4 G g_reader a_reader_ground a_reader_air V_reader ++ w_O2 G g_now V_now ++ w_O1 G g_air V_air ++ w_O0 G g_acts gh_this_acts V_acts VH_this_acts ++ w_O5 G g_sights V_sights) s.heap [] := hH
  have hin0 : ∀ w ∈ u_ws RX0 TX0 3, w ∈ wsX7_count := fun w h => List.mem_cons_of_mem _ (List.mem_append_left _ (List.mem_append_right _ h))
  have hin1 : ∀ w ∈ u_ws RX1 TX1 4, w ∈ wsX7_count := fun w h => List.mem_cons_of_mem _ (List.mem_append_left _ (List.mem_append_left _ (List.mem_append_right _ h)))
  have hin2 : ∀ w ∈ u_ws RX2 TX2 11, w ∈ wsX7_count := fun w h => List.mem_cons_of_mem _ (List.mem_append_left _ (List.mem_append_left _ (List.mem_append_left _ (List.mem_append_right _ h))))
  have hin4 : ∀ w ∈ u_ws RX4 TX4 6, w ∈ wsX7_count := fun w h => List.mem_cons_of_mem _ (List.mem_append_left _ (List.mem_append_left _ (List.mem_append_left _ (List.mem_append_left _ (List.mem_append_right _ h)))))
  have hin5 : ∀ w ∈ u_ws RX5 TX5 3, w ∈ wsX7_count := fun w h => List.mem_cons_of_mem _ (List.mem_append_right _ h)
  have hin7 : ∀ w ∈ u_ws RX7 TX7 9, w ∈ wsX7_count := fun w h => List.mem_cons_of_mem _ (List.mem_append_left _ (List.mem_append_left _ (List.mem_append_left _ (List.mem_append_left _ (List.mem_append_left _ (List.mem_append_right _ h))))))
  have hF : (if x0 = (0 : Int32) then (V_reader.2.1 3) else (if x0 = (1 : Int32) then (V_now.2.1 5) else (if x0 = (2 : Int32) then (V_air.2.1 3) else (if x0 = (3 : Int32) then (V_now.2.1 9) else (if x0 = (4 : Int32) then (V_now.2.1 10) else (if x0 = (5 : Int32) then (f_X2_weightFor V_now (0 : Int32)) else (if x0 = (6 : Int32) then (f_X2_weightFor V_now (1 : Int32)) else (if x0 = (7 : Int32) then (f_X2_treeCells V_now) else (if x0 = (8 : Int32) then (V_now.2.1 8) else (if x0 = (9 : Int32) then (V_acts.2.1 2) else (if x0 = (10 : Int32) then (V_sights.2.1 2) else (-2 : Int32)))))))))))) = F := hF
  refine lv_iload_n hx hb dX7_count_0 rfl (lv_at hl 1 rfl) ?_
  by_cases c1 : x0 = (0 : Int32)
  · rw [if_pos c1] at hF
    refine lv_tableIn (tgt := 60) (off := 59) hx hb dX7_count_1 (by rw [c1]; decide) (by rw [c1]; decide) (by rw [c1]; rfl) (by decide) ?_
    refine lv_aload_n hx hb dX7_count_60 rfl (lv_at hl 0 rfl) ?_
    refine kb_get (v := .ref (g_reader 0)) hx hb hts hin7 hown hK hH 0 rfl rfl rfl 0 (by decide) (hts (.fieldLink RX7 12 "CockWar" "reader" "LCockWar$Reader;") (List.mem_of_getElem? (i := 1) rfl)) (fun _ h9 => h9) rfl dX7_count_61 ?_
    refine kb_getN (v := .int (V_reader.2.1 3)) hx hb hts hin4 hown hK hH 1 rfl rfl rfl 3 (by decide) (kb_NF hN 29 rfl) (fun _ h9 => h9) rfl dX7_count_64 ?_
    subst hF
    exact kb_iret hx hb hr hH rfl rfl dX7_count_67 hlocks
  · rw [if_neg c1] at hF
    by_cases c2 : x0 = (1 : Int32)
    · rw [if_pos c2] at hF
      refine lv_tableIn (tgt := 68) (off := 67) hx hb dX7_count_1 (by rw [c2]; decide) (by rw [c2]; decide) (by rw [c2]; rfl) (by decide) ?_
      refine lv_aload_n hx hb dX7_count_68 rfl (lv_at hl 0 rfl) ?_
      refine kb_get (v := .ref (g_now 0)) hx hb hts hin7 hown hK hH 0 rfl rfl rfl 1 (by decide) (hts (.fieldLink RX7 19 "CockWar" "now" "LCockWar$Hill;") (List.mem_of_getElem? (i := 2) rfl)) (fun _ h9 => h9) rfl dX7_count_69 ?_
      refine kb_getN (v := .int (V_now.2.1 5)) hx hb hts hin2 hown hK hH 3 rfl rfl rfl 5 (by decide) (kb_NF hN 10 rfl) (fun _ h9 => h9) rfl dX7_count_72 ?_
      subst hF
      exact kb_iret hx hb hr hH rfl rfl dX7_count_75 hlocks
    · rw [if_neg c2] at hF
      by_cases c3 : x0 = (2 : Int32)
      · rw [if_pos c3] at hF
        refine lv_tableIn (tgt := 76) (off := 75) hx hb dX7_count_1 (by rw [c3]; decide) (by rw [c3]; decide) (by rw [c3]; rfl) (by decide) ?_
        refine lv_aload_n hx hb dX7_count_76 rfl (lv_at hl 0 rfl) ?_
        refine kb_get (v := .ref (g_air 0)) hx hb hts hin7 hown hK hH 0 rfl rfl rfl 2 (by decide) (hts (.fieldLink RX7 26 "CockWar" "air" "LCockWar$Air;") (List.mem_of_getElem? (i := 3) rfl)) (fun _ h9 => h9) rfl dX7_count_77 ?_
        refine kb_getN (v := .int (V_air.2.1 3)) hx hb hts hin1 hown hK hH 9 rfl rfl rfl 3 (by decide) (kb_NF hN 26 rfl) (fun _ h9 => h9) rfl dX7_count_80 ?_
        subst hF
        exact kb_iret hx hb hr hH rfl rfl dX7_count_83 hlocks
      · rw [if_neg c3] at hF
        by_cases c4 : x0 = (3 : Int32)
        · rw [if_pos c4] at hF
          refine lv_tableIn (tgt := 84) (off := 83) hx hb dX7_count_1 (by rw [c4]; decide) (by rw [c4]; decide) (by rw [c4]; rfl) (by decide) ?_
          refine lv_aload_n hx hb dX7_count_84 rfl (lv_at hl 0 rfl) ?_
          refine kb_get (v := .ref (g_now 0)) hx hb hts hin7 hown hK hH 0 rfl rfl rfl 1 (by decide) (hts (.fieldLink RX7 19 "CockWar" "now" "LCockWar$Hill;") (List.mem_of_getElem? (i := 2) rfl)) (fun _ h9 => h9) rfl dX7_count_85 ?_
          refine kb_getN (v := .int (V_now.2.1 9)) hx hb hts hin2 hown hK hH 3 rfl rfl rfl 9 (by decide) (kb_NF hN 18 rfl) (fun _ h9 => h9) rfl dX7_count_88 ?_
          subst hF
          exact kb_iret hx hb hr hH rfl rfl dX7_count_91 hlocks
        · rw [if_neg c4] at hF
          by_cases c5 : x0 = (4 : Int32)
          · rw [if_pos c5] at hF
            refine lv_tableIn (tgt := 92) (off := 91) hx hb dX7_count_1 (by rw [c5]; decide) (by rw [c5]; decide) (by rw [c5]; rfl) (by decide) ?_
            refine lv_aload_n hx hb dX7_count_92 rfl (lv_at hl 0 rfl) ?_
            refine kb_get (v := .ref (g_now 0)) hx hb hts hin7 hown hK hH 0 rfl rfl rfl 1 (by decide) (hts (.fieldLink RX7 19 "CockWar" "now" "LCockWar$Hill;") (List.mem_of_getElem? (i := 2) rfl)) (fun _ h9 => h9) rfl dX7_count_93 ?_
            refine kb_getN (v := .int (V_now.2.1 10)) hx hb hts hin2 hown hK hH 3 rfl rfl rfl 10 (by decide) (kb_NF hN 21 rfl) (fun _ h9 => h9) rfl dX7_count_96 ?_
            subst hF
            exact kb_iret hx hb hr hH rfl rfl dX7_count_99 hlocks
          · rw [if_neg c5] at hF
            by_cases c6 : x0 = (5 : Int32)
            · rw [if_pos c6] at hF
              refine lv_tableIn (tgt := 100) (off := 99) hx hb dX7_count_1 (by rw [c6]; decide) (by rw [c6]; decide) (by rw [c6]; rfl) (by decide) ?_
              refine lv_aload_n hx hb dX7_count_100 rfl (lv_at hl 0 rfl) ?_
              refine kb_get (v := .ref (g_now 0)) hx hb hts hin7 hown hK hH 0 rfl rfl rfl 1 (by decide) (hts (.fieldLink RX7 19 "CockWar" "now" "LCockWar$Hill;") (List.mem_of_getElem? (i := 2) rfl)) (fun _ h9 => h9) rfl dX7_count_101 ?_
              refine lv_iconst (v := 0) hx hb dX7_count_104 (by decide) ?_
              refine kb_ci hH hA [3, 4, 5, 6, 7, 8] (Wc := (w_O2 G g_now V_now)) (Wc' := (w_O2 G g_now V_now)) (WS' := (w_O7 G g (g_reader 0) (g_now 0) (g_air 0) (g_acts 0) (g_sights 0) a_slots a_plan a_trial V ++ w_O4 G g_reader a_reader_ground a_reader_air V_reader ++ w_O2 G g_now V_now ++ w_O1 G g_air V_air ++ w_O0 G g_acts gh_this_acts V_acts VH_this_acts ++ w_O5 G g_sights V_sights)) rfl (by decide) rfl rfl (va_runVN (C := RX2) (As := [.int (0 : Int32)]) (rest := []) ⟨hx, hb, hml, hown, hts⟩ (c_X2_weightFor l G g_now V_now (0 : Int32) rfl _) ⟨va_cnB 1 hts gX7_count_X2_weightFor_n259 rfl rfl rfl (kb_NM hN 67 rfl) (hts (.initialized RX2) (List.mem_of_getElem? (i := 7) rfl)) hd_X2_weightFor ⟨Nat.le_of_ble_eq_true rfl, Nat.le_of_ble_eq_true rfl⟩, (hts (.instanceMethod yX2_weightFor) (List.mem_of_getElem? (i := 6) rfl)), (hts (.selects RX2 yX2_weightFor yX2_weightFor) (List.mem_of_getElem? (i := 8) rfl))⟩ (kb_preV hH hK hN [3, 4, 5, 6, 7, 8] rfl (by decide) 3 rfl rfl rfl rfl) rfl rfl hl.1 rfl (lv_room (Nat.le_of_ble_eq_true rfl)) dX7_count_105 ⟨Nat.le_of_ble_eq_true rfl, Nat.le_of_ble_eq_true rfl⟩) (fun H locs hH => ?_)
              subst hF
              exact kb_iret hx hb hr hH rfl rfl dX7_count_108 hlocks
            · rw [if_neg c6] at hF
              by_cases c7 : x0 = (6 : Int32)
              · rw [if_pos c7] at hF
                refine lv_tableIn (tgt := 109) (off := 108) hx hb dX7_count_1 (by rw [c7]; decide) (by rw [c7]; decide) (by rw [c7]; rfl) (by decide) ?_
                refine lv_aload_n hx hb dX7_count_109 rfl (lv_at hl 0 rfl) ?_
                refine kb_get (v := .ref (g_now 0)) hx hb hts hin7 hown hK hH 0 rfl rfl rfl 1 (by decide) (hts (.fieldLink RX7 19 "CockWar" "now" "LCockWar$Hill;") (List.mem_of_getElem? (i := 2) rfl)) (fun _ h9 => h9) rfl dX7_count_110 ?_
                refine lv_iconst (v := 1) hx hb dX7_count_113 (by decide) ?_
                refine kb_ci hH hA [3, 4, 5, 6, 7, 8] (Wc := (w_O2 G g_now V_now)) (Wc' := (w_O2 G g_now V_now)) (WS' := (w_O7 G g (g_reader 0) (g_now 0) (g_air 0) (g_acts 0) (g_sights 0) a_slots a_plan a_trial V ++ w_O4 G g_reader a_reader_ground a_reader_air V_reader ++ w_O2 G g_now V_now ++ w_O1 G g_air V_air ++ w_O0 G g_acts gh_this_acts V_acts VH_this_acts ++ w_O5 G g_sights V_sights)) rfl (by decide) rfl rfl (va_runVN (C := RX2) (As := [.int (1 : Int32)]) (rest := []) ⟨hx, hb, hml, hown, hts⟩ (c_X2_weightFor l G g_now V_now (1 : Int32) rfl _) ⟨va_cnB 1 hts gX7_count_X2_weightFor_n259 rfl rfl rfl (kb_NM hN 67 rfl) (hts (.initialized RX2) (List.mem_of_getElem? (i := 7) rfl)) hd_X2_weightFor ⟨Nat.le_of_ble_eq_true rfl, Nat.le_of_ble_eq_true rfl⟩, (hts (.instanceMethod yX2_weightFor) (List.mem_of_getElem? (i := 6) rfl)), (hts (.selects RX2 yX2_weightFor yX2_weightFor) (List.mem_of_getElem? (i := 8) rfl))⟩ (kb_preV hH hK hN [3, 4, 5, 6, 7, 8] rfl (by decide) 3 rfl rfl rfl rfl) rfl rfl hl.1 rfl (lv_room (Nat.le_of_ble_eq_true rfl)) dX7_count_114 ⟨Nat.le_of_ble_eq_true rfl, Nat.le_of_ble_eq_true rfl⟩) (fun H locs hH => ?_)
                subst hF
                exact kb_iret hx hb hr hH rfl rfl dX7_count_117 hlocks
              · rw [if_neg c7] at hF
                by_cases c8 : x0 = (7 : Int32)
                · rw [if_pos c8] at hF
                  refine lv_tableIn (tgt := 118) (off := 117) hx hb dX7_count_1 (by rw [c8]; decide) (by rw [c8]; decide) (by rw [c8]; rfl) (by decide) ?_
                  refine lv_aload_n hx hb dX7_count_118 rfl (lv_at hl 0 rfl) ?_
                  refine kb_get (v := .ref (g_now 0)) hx hb hts hin7 hown hK hH 0 rfl rfl rfl 1 (by decide) (hts (.fieldLink RX7 19 "CockWar" "now" "LCockWar$Hill;") (List.mem_of_getElem? (i := 2) rfl)) (fun _ h9 => h9) rfl dX7_count_119 ?_
                  refine kb_ci hH hA [3, 4, 5, 6, 7, 8] (Wc := (w_O2 G g_now V_now)) (Wc' := (w_O2 G g_now V_now)) (WS' := (w_O7 G g (g_reader 0) (g_now 0) (g_air 0) (g_acts 0) (g_sights 0) a_slots a_plan a_trial V ++ w_O4 G g_reader a_reader_ground a_reader_air V_reader ++ w_O2 G g_now V_now ++ w_O1 G g_air V_air ++ w_O0 G g_acts gh_this_acts V_acts VH_this_acts ++ w_O5 G g_sights V_sights)) rfl (by decide) rfl rfl (va_runVN (C := RX2) (As := []) (rest := []) ⟨hx, hb, hml, hown, hts⟩ (c_X2_treeCells l G g_now V_now rfl _) ⟨va_cnB 0 hts gX7_count_X2_treeCells_n197 rfl rfl rfl (kb_NM hN 52 rfl) (hts (.initialized RX2) (List.mem_of_getElem? (i := 7) rfl)) hd_X2_treeCells ⟨Nat.le_of_ble_eq_true rfl, Nat.le_of_ble_eq_true rfl⟩, (hts (.instanceMethod yX2_treeCells) (List.mem_of_getElem? (i := 19) rfl)), (hts (.selects RX2 yX2_treeCells yX2_treeCells) (List.mem_of_getElem? (i := 20) rfl))⟩ (kb_preV hH hK hN [3, 4, 5, 6, 7, 8] rfl (by decide) 3 rfl rfl rfl rfl) rfl rfl hl.1 rfl (lv_room (Nat.le_of_ble_eq_true rfl)) dX7_count_122 ⟨Nat.le_of_ble_eq_true rfl, Nat.le_of_ble_eq_true rfl⟩) (fun H locs hH => ?_)
                  subst hF
                  exact kb_iret hx hb hr hH rfl rfl dX7_count_125 hlocks
                · rw [if_neg c8] at hF
                  by_cases c9 : x0 = (8 : Int32)
                  · rw [if_pos c9] at hF
                    refine lv_tableIn (tgt := 126) (off := 125) hx hb dX7_count_1 (by rw [c9]; decide) (by rw [c9]; decide) (by rw [c9]; rfl) (by decide) ?_
                    refine lv_aload_n hx hb dX7_count_126 rfl (lv_at hl 0 rfl) ?_
                    refine kb_get (v := .ref (g_now 0)) hx hb hts hin7 hown hK hH 0 rfl rfl rfl 1 (by decide) (hts (.fieldLink RX7 19 "CockWar" "now" "LCockWar$Hill;") (List.mem_of_getElem? (i := 2) rfl)) (fun _ h9 => h9) rfl dX7_count_127 ?_
                    refine kb_getN (v := .int (V_now.2.1 8)) hx hb hts hin2 hown hK hH 3 rfl rfl rfl 8 (by decide) (kb_NF hN 16 rfl) (fun _ h9 => h9) rfl dX7_count_130 ?_
                    subst hF
                    exact kb_iret hx hb hr hH rfl rfl dX7_count_133 hlocks
                  · rw [if_neg c9] at hF
                    by_cases c10 : x0 = (9 : Int32)
                    · rw [if_pos c10] at hF
                      refine lv_tableIn (tgt := 134) (off := 133) hx hb dX7_count_1 (by rw [c10]; decide) (by rw [c10]; decide) (by rw [c10]; rfl) (by decide) ?_
                      refine lv_aload_n hx hb dX7_count_134 rfl (lv_at hl 0 rfl) ?_
                      refine kb_get (v := .ref (g_acts 0)) hx hb hts hin7 hown hK hH 0 rfl rfl rfl 3 (by decide) (hts (.fieldLink RX7 33 "CockWar" "acts" "LCockWar$ActRow;") (List.mem_of_getElem? (i := 4) rfl)) (fun _ h9 => h9) rfl dX7_count_135 ?_
                      refine kb_getN (v := .int (V_acts.2.1 2)) hx hb hts hin0 hown hK hH 13 rfl rfl rfl 2 (by decide) (kb_NF hN 30 rfl) (fun _ h9 => h9) rfl dX7_count_138 ?_
                      subst hF
                      exact kb_iret hx hb hr hH rfl rfl dX7_count_141 hlocks
                    · rw [if_neg c10] at hF
                      by_cases c11 : x0 = (10 : Int32)
                      · rw [if_pos c11] at hF
                        refine lv_tableIn (tgt := 142) (off := 141) hx hb dX7_count_1 (by rw [c11]; decide) (by rw [c11]; decide) (by rw [c11]; rfl) (by decide) ?_
                        refine lv_aload_n hx hb dX7_count_142 rfl (lv_at hl 0 rfl) ?_
                        refine kb_get (v := .ref (g_sights 0)) hx hb hts hin7 hown hK hH 0 rfl rfl rfl 4 (by decide) (hts (.fieldLink RX7 40 "CockWar" "sights" "LCockWar$Sights;") (List.mem_of_getElem? (i := 5) rfl)) (fun _ h9 => h9) rfl dX7_count_143 ?_
                        refine kb_getN (v := .int (V_sights.2.1 2)) hx hb hts hin5 hown hK hH 16 rfl rfl rfl 2 (by decide) (kb_NF hN 31 rfl) (fun _ h9 => h9) rfl dX7_count_146 ?_
                        subst hF
                        exact kb_iret hx hb hr hH rfl rfl dX7_count_149 hlocks
                      · rw [if_neg c11] at hF
                        refine lv_tableOut (tgt := 150) hx hb dX7_count_1 (by have z0 := lv_neT (a := 0) c1 rfl; have z1 := lv_neT (a := 1) c2 rfl; have z2 := lv_neT (a := 2) c3 rfl; have z3 := lv_neT (a := 3) c4 rfl; have z4 := lv_neT (a := 4) c5 rfl; have z5 := lv_neT (a := 5) c6 rfl; have z6 := lv_neT (a := 6) c7 rfl; have z7 := lv_neT (a := 7) c8 rfl; have z8 := lv_neT (a := 8) c9 rfl; have z9 := lv_neT (a := 9) c10 rfl; have z10 := lv_neT (a := 10) c11 rfl; omega) (by decide) ?_
                        refine lv_bipush (v := -2) hx hb dX7_count_150 (by decide) ?_
                        subst hF
                        exact kb_iret hx hb hr hH rfl rfl dX7_count_152 hlocks
