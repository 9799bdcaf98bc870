theorem hd_X7_hill : yX7_hill.cls ≠ "java/lang/invoke/MethodHandle" ∧ yX7_hill.cls ≠ "java/lang/invoke/VarHandle" ∧ (parseMethodDescriptor yX7_hill.desc).map (fun d => d.parameters.length) = some 0 := by decide +kernel
theorem he_X7_hill : yX7_hill.cls = RX7 ∧ yX7_hill.cls ≠ "java/lang/invoke/MethodHandle" ∧ yX7_hill.cls ≠ "java/lang/invoke/VarHandle" ∧ (parseMethodDescriptor yX7_hill.desc).map (fun d => d.parameters.length) = some 0 := ⟨rfl, hd_X7_hill⟩
theorem hd_X7_blow : yX7_blow.cls ≠ "java/lang/invoke/MethodHandle" ∧ yX7_blow.cls ≠ "java/lang/invoke/VarHandle" ∧ (parseMethodDescriptor yX7_blow.desc).map (fun d => d.parameters.length) = some 1 := by decide +kernel
theorem he_X7_blow : yX7_blow.cls = RX7 ∧ yX7_blow.cls ≠ "java/lang/invoke/MethodHandle" ∧ yX7_blow.cls ≠ "java/lang/invoke/VarHandle" ∧ (parseMethodDescriptor yX7_blow.desc).map (fun d => d.parameters.length) = some 1 := ⟨rfl, hd_X7_blow⟩
theorem hd_X7_fell : yX7_fell.cls ≠ "java/lang/invoke/MethodHandle" ∧ yX7_fell.cls ≠ "java/lang/invoke/VarHandle" ∧ (parseMethodDescriptor yX7_fell.desc).map (fun d => d.parameters.length) = some 1 := by decide +kernel
theorem he_X7_fell : yX7_fell.cls = RX7 ∧ yX7_fell.cls ≠ "java/lang/invoke/MethodHandle" ∧ yX7_fell.cls ≠ "java/lang/invoke/VarHandle" ∧ (parseMethodDescriptor yX7_fell.desc).map (fun d => d.parameters.length) = some 1 := ⟨rfl, hd_X7_fell⟩
theorem hd_X7_move : yX7_move.cls ≠ "java/lang/invoke/MethodHandle" ∧ yX7_move.cls ≠ "java/lang/invoke/VarHandle" ∧ (parseMethodDescriptor yX7_move.desc).map (fun d => d.parameters.length) = some 2 := by decide +kernel
theorem he_X7_move : yX7_move.cls = RX7 ∧ yX7_move.cls ≠ "java/lang/invoke/MethodHandle" ∧ yX7_move.cls ≠ "java/lang/invoke/VarHandle" ∧ (parseMethodDescriptor yX7_move.desc).map (fun d => d.parameters.length) = some 2 := ⟨rfl, hd_X7_move⟩
theorem hd_X7_grease : yX7_grease.cls ≠ "java/lang/invoke/MethodHandle" ∧ yX7_grease.cls ≠ "java/lang/invoke/VarHandle" ∧ (parseMethodDescriptor yX7_grease.desc).map (fun d => d.parameters.length) = some 1 := by decide +kernel
theorem he_X7_grease : yX7_grease.cls = RX7 ∧ yX7_grease.cls ≠ "java/lang/invoke/MethodHandle" ∧ yX7_grease.cls ≠ "java/lang/invoke/VarHandle" ∧ (parseMethodDescriptor yX7_grease.desc).map (fun d => d.parameters.length) = some 1 := ⟨rfl, hd_X7_grease⟩
theorem hd_X7_capture : yX7_capture.cls ≠ "java/lang/invoke/MethodHandle" ∧ yX7_capture.cls ≠ "java/lang/invoke/VarHandle" ∧ (parseMethodDescriptor yX7_capture.desc).map (fun d => d.parameters.length) = some 1 := by decide +kernel
theorem he_X7_capture : yX7_capture.cls = RX7 ∧ yX7_capture.cls ≠ "java/lang/invoke/MethodHandle" ∧ yX7_capture.cls ≠ "java/lang/invoke/VarHandle" ∧ (parseMethodDescriptor yX7_capture.desc).map (fun d => d.parameters.length) = some 1 := ⟨rfl, hd_X7_capture⟩
theorem hd_X7_hold : yX7_hold.cls ≠ "java/lang/invoke/MethodHandle" ∧ yX7_hold.cls ≠ "java/lang/invoke/VarHandle" ∧ (parseMethodDescriptor yX7_hold.desc).map (fun d => d.parameters.length) = some 1 := by decide +kernel
theorem he_X7_hold : yX7_hold.cls = RX7 ∧ yX7_hold.cls ≠ "java/lang/invoke/MethodHandle" ∧ yX7_hold.cls ≠ "java/lang/invoke/VarHandle" ∧ (parseMethodDescriptor yX7_hold.desc).map (fun d => d.parameters.length) = some 1 := ⟨rfl, hd_X7_hold⟩
theorem hd_X7_undo : yX7_undo.cls ≠ "java/lang/invoke/MethodHandle" ∧ yX7_undo.cls ≠ "java/lang/invoke/VarHandle" ∧ (parseMethodDescriptor yX7_undo.desc).map (fun d => d.parameters.length) = some 0 := by decide +kernel
theorem he_X7_undo : yX7_undo.cls = RX7 ∧ yX7_undo.cls ≠ "java/lang/invoke/MethodHandle" ∧ yX7_undo.cls ≠ "java/lang/invoke/VarHandle" ∧ (parseMethodDescriptor yX7_undo.desc).map (fun d => d.parameters.length) = some 0 := ⟨rfl, hd_X7_undo⟩
theorem hd_X7_keep : yX7_keep.cls ≠ "java/lang/invoke/MethodHandle" ∧ yX7_keep.cls ≠ "java/lang/invoke/VarHandle" ∧ (parseMethodDescriptor yX7_keep.desc).map (fun d => d.parameters.length) = some 1 := by decide +kernel
theorem he_X7_keep : yX7_keep.cls = RX7 ∧ yX7_keep.cls ≠ "java/lang/invoke/MethodHandle" ∧ yX7_keep.cls ≠ "java/lang/invoke/VarHandle" ∧ (parseMethodDescriptor yX7_keep.desc).map (fun d => d.parameters.length) = some 1 := ⟨rfl, hd_X7_keep⟩
theorem hd_X7_again : yX7_again.cls ≠ "java/lang/invoke/MethodHandle" ∧ yX7_again.cls ≠ "java/lang/invoke/VarHandle" ∧ (parseMethodDescriptor yX7_again.desc).map (fun d => d.parameters.length) = some 1 := by decide +kernel
theorem he_X7_again : yX7_again.cls = RX7 ∧ yX7_again.cls ≠ "java/lang/invoke/MethodHandle" ∧ yX7_again.cls ≠ "java/lang/invoke/VarHandle" ∧ (parseMethodDescriptor yX7_again.desc).map (fun d => d.parameters.length) = some 1 := ⟨rfl, hd_X7_again⟩
def f_X7_hill (V : OV) (V_reader : OV) (V_reader_ground : OV) (V_reader_air : OV) (V_now : OV) (V_air : OV) (V_acts : OV) (VH_this_acts : Nat → OV) (V_slots : OV) (VH_this_slots : Nat → OV) : (Int32 × OV × OV × OV × OV × OV × OV × OV) := (kAp (f_X4_firstFault V_reader V_reader_ground V_reader_air) (fun q1 => (if q1.1 = (-9 : Int32) then (kAp (f_X2_copyFrom V_now q1.2.2.1) (fun q3 => (kAp (f_X1_copyFrom V_air q1.2.2.2) (fun q4 => (kAp (f_X0_forget V_acts VH_this_acts) (fun q5 => (kAp (f_X6_forget V_slots VH_this_slots) (fun q6 => ((((10 : Int32) * (q3.2.1 5)) + (q4.2.1 3)), q1.2.1, q1.2.2.1, q1.2.2.2, q3, q4, q5, q6))))))))) else ((-3 : Int32), q1.2.1, q1.2.2.1, q1.2.2.2, V_now, V_air, V_acts, V_slots))))
set_option maxHeartbeats 4000000 in
set_option maxRecDepth 100000 in
theorem c_X7_hill (l : Launch) (G : Ge) (g : Nat → Nat) (a_sights : Nat) (a_plan : Nat) (a_trial : Nat) (V : OV) (g_reader : Nat → Nat) (V_reader : OV) (g_reader_ground : Nat → Nat) (V_reader_ground : OV) (g_reader_air : Nat → Nat) (V_reader_air : OV) (g_now : Nat → Nat) (V_now : OV) (g_air : Nat → Nat) (V_air : OV) (g_acts : Nat → Nat) (gh_this_acts : Nat → Nat → Nat) (V_acts : OV) (VH_this_acts : Nat → OV) (g_slots : Nat → Nat) (gh_this_slots : Nat → Nat → Nat) (V_slots : OV) (VH_this_slots : Nat → OV) {F : (Int32 × OV × OV × OV × OV × OV × OV × OV)} (hF : f_X7_hill V V_reader V_reader_ground V_reader_air V_now V_air V_acts VH_this_acts V_slots VH_this_slots = F) : CI l yX7_hill wsX7_hill { frames := 5, cells := 0, slots := 0, locals := 117 } [.ref (g 0)] G (w_O7 G g (g_reader 0) (g_now 0) (g_air 0) (g_acts 0) a_sights (g_slots 0) a_plan a_trial V ++ w_O4 G g_reader (g_reader_ground 0) (g_reader_air 0) V_reader ++ w_O2 G g_reader_ground V_reader_ground ++ w_O1 G g_reader_air V_reader_air ++ w_O2 G g_now V_now ++ w_O1 G g_air V_air ++ w_O0 G g_acts gh_this_acts V_acts VH_this_acts ++ w_O6 G g_slots gh_this_slots V_slots VH_this_slots) (w_O7 G g (g_reader 0) (g_now 0) (g_air 0) (g_acts 0) a_sights (g_slots 0) a_plan a_trial V ++ w_O4 G g_reader (g_reader_ground 0) (g_reader_air 0) F.2.1 ++ w_O2 G g_reader_ground F.2.2.1 ++ w_O1 G g_reader_air F.2.2.2.1 ++ w_O2 G g_now F.2.2.2.2.1 ++ w_O1 G g_air F.2.2.2.2.2.1 ++ w_O0 G g_acts gh_this_acts F.2.2.2.2.2.2.1 VH_this_acts ++ w_O6 G g_slots gh_this_slots F.2.2.2.2.2.2.2 VH_this_slots) F.1 := by
  intro sz
  refine Met.ofW (cc := cX7_hill) (maxL := 1) (ret := (some .int)) (by decide) rfl ?_
  intro p e s m args below meth c s₁ B hml hv
  obtain ⟨rfl, hpre⟩ := hv
  obtain ⟨hsz, hH, hK, hN, hA⟩ := kb_start hpre
  subst hsz
  have hx := B.exec
  have hb := B.bytes
  have hr := B.returns
  have hts := atoms_spec (ws := wsX7_hill) B.pre
  have hown : s.vm.findClass RX7 = some m.cls := findClass_of_methodNamed B.named
  have hlocks := B.notSynchronized
  generalize hAe : va_A (List.flatten (w_O7 G g (g_reader 0) (g_now 0) (g_air 0) (g_acts 0) a_sights (g_slots 0) a_plan a_trial V ++ w_O4 G g_reader (g_reader_ground 0) (g_reader_air 0) V_reader ++ w_O2 G g_reader_ground V_reader_ground ++ w_O1 G g_reader_air V_reader_air ++ w_O2 G g_now V_now ++ w_O1 G g_air V_air ++ w_O0 G g_acts gh_this_acts V_acts VH_this_acts ++ w_O6 G g_slots gh_this_slots V_slots VH_this_slots)) s.heap.size = A at hH hA ⊢
  have hl := lv_entry ([.ref (g 0)]) (n := 1) (Nat.le_of_ble_eq_true rfl)
  rw [lg_entry_eq]
  generalize (lg_sl ([.ref (g 0)]) ++ List.replicate (1 - (lg_sl ([.ref (g 0)])).length) Slot.unset).toArray = ls at hl ⊢
  have hl : lv_has ls 1 [(0, .ref (g 0))] := hl
  have hH : HP G A s.heap (w_O7 G g (g_reader 0) (g_now 0) (g_air 0) (g_acts 0) a_sights (g_slots 0) a_plan a_trial V ++ w_O4 G g_reader (g_reader_ground 0) (g_reader_air 0) V_reader ++ w_O2 G g_reader_ground V_reader_ground ++ w_O1 G g_reader_air V_reader_air ++ w_O2 G g_now V_now ++ w_O1 G g_air V_air ++ w_O0 G g_acts gh_this_acts V_acts VH_this_acts ++ w_O6 G g_slots gh_this_slots V_slots VH_this_slots) s.heap [] := hH
  have hin1 : ∀ w ∈ u_ws RX1 TX1 4, w ∈ wsX7_hill := fun w h => List.mem_cons_of_mem _ (List.mem_append_left _ (List.mem_append_left _ (List.mem_append_right _ h)))
  have hin2 : ∀ w ∈ u_ws RX2 TX2 11, w ∈ wsX7_hill := fun w h => List.mem_cons_of_mem _ (List.mem_append_left _ (List.mem_append_left _ (List.mem_append_left _ (List.mem_append_right _ h))))
  have hin4 : ∀ w ∈ u_ws RX4 TX4 6, w ∈ wsX7_hill := fun w h => List.mem_cons_of_mem _ (List.mem_append_left _ (List.mem_append_left _ (List.mem_append_left _ (List.mem_append_left _ (List.mem_append_right _ h)))))
  have hin7 : ∀ w ∈ u_ws RX7 TX7 9, w ∈ wsX7_hill := fun w h => List.mem_cons_of_mem _ (List.mem_append_left _ (List.mem_append_left _ (List.mem_append_left _ (List.mem_append_left _ (List.mem_append_left _ (List.mem_append_right _ h))))))
  have hF : (kAp (f_X4_firstFault V_reader V_reader_ground V_reader_air) (fun q1 => (if q1.1 = (-9 : Int32) then (kAp (f_X2_copyFrom V_now q1.2.2.1) (fun q3 => (kAp (f_X1_copyFrom V_air q1.2.2.2) (fun q4 => (kAp (f_X0_forget V_acts VH_this_acts) (fun q5 => (kAp (f_X6_forget V_slots VH_this_slots) (fun q6 => ((((10 : Int32) * (q3.2.1 5)) + (q4.2.1 3)), q1.2.1, q1.2.2.1, q1.2.2.2, q3, q4, q5, q6))))))))) else ((-3 : Int32), q1.2.1, q1.2.2.1, q1.2.2.2, V_now, V_air, V_acts, V_slots)))) = F := hF
  refine lv_aload_n hx hb dX7_hill_0 rfl (lv_at hl 0 rfl) ?_
  refine kb_get (v := .ref (g_reader 0)) hx hb hts hin7 hown hK hH 0 rfl rfl rfl 0 (by decide) (hts (.fieldLink RX7 12 "CockWar" "reader" "LCockWar$Reader;") (List.mem_of_getElem? (i := 1) rfl)) (fun _ h9 => h9) rfl dX7_hill_1 ?_
  obtain ⟨q1, hq1⟩ : ∃ z, z = (f_X4_firstFault V_reader V_reader_ground V_reader_air) := ⟨_, rfl⟩
  have hF := kAp_eq hF hq1
  refine kb_ci hH hA [1, 2, 3, 4, 5, 6, 7, 8, 9, 10, 11, 12] (Wc := (w_O4 G g_reader (g_reader_ground 0) (g_reader_air 0) V_reader ++ w_O2 G g_reader_ground V_reader_ground ++ w_O1 G g_reader_air V_reader_air)) (Wc' := (w_O4 G g_reader (g_reader_ground 0) (g_reader_air 0) q1.2.1 ++ w_O2 G g_reader_ground q1.2.2.1 ++ w_O1 G g_reader_air q1.2.2.2)) (WS' := (w_O7 G g (g_reader 0) (g_now 0) (g_air 0) (g_acts 0) a_sights (g_slots 0) a_plan a_trial V ++ w_O4 G g_reader (g_reader_ground 0) (g_reader_air 0) q1.2.1 ++ w_O2 G g_reader_ground q1.2.2.1 ++ w_O1 G g_reader_air q1.2.2.2 ++ w_O2 G g_now V_now ++ w_O1 G g_air V_air ++ w_O0 G g_acts gh_this_acts V_acts VH_this_acts ++ w_O6 G g_slots gh_this_slots V_slots VH_this_slots)) rfl (by decide) rfl rfl (va_runVN (C := RX4) (As := []) (rest := []) ⟨hx, hb, hml, hown, hts⟩ (c_X4_firstFault l G g_reader V_reader g_reader_ground V_reader_ground g_reader_air V_reader_air hq1.symm _) ⟨va_cnB 0 hts gX7_hill_X4_firstFault_n73 rfl rfl rfl (kb_NM hN 14 rfl) (hts (.initialized RX4) (List.mem_of_getElem? (i := 7) rfl)) hd_X4_firstFault ⟨Nat.le_of_ble_eq_true rfl, Nat.le_of_ble_eq_true rfl⟩, (hts (.instanceMethod yX4_firstFault) (List.mem_of_getElem? (i := 6) rfl)), (hts (.selects RX4 yX4_firstFault yX4_firstFault) (List.mem_of_getElem? (i := 8) rfl))⟩ (kb_preV hH hK hN [1, 2, 3, 4, 5, 6, 7, 8, 9, 10, 11, 12] rfl (by decide) 1 rfl rfl rfl rfl) rfl rfl hl.1 rfl (lv_room (Nat.le_of_ble_eq_true rfl)) dX7_hill_4 ⟨Nat.le_of_ble_eq_true rfl, Nat.le_of_ble_eq_true rfl⟩) (fun H locs hH => ?_)
  refine lv_bipush (v := -9) hx hb dX7_hill_7 (by decide) ?_
  refine lv_icmp_eq (tgt := 15) hx hb dX7_hill_9 (by decide) (fun c2 => ?_) (fun c2 => ?_)
  · rw [if_pos c2] at hF
    refine lv_aload_n hx hb dX7_hill_15 rfl (lv_at hl 0 rfl) ?_
    refine kb_get (v := .ref (g_now 0)) hx hb hts hin7 hown hK hH 0 rfl rfl rfl 1 (by decide) (hts (.fieldLink RX7 19 "CockWar" "now" "LCockWar$Hill;") (List.mem_of_getElem? (i := 2) rfl)) (fun _ h9 => h9) rfl dX7_hill_16 ?_
    refine lv_aload_n hx hb dX7_hill_19 rfl (lv_at hl 0 rfl) ?_
    refine kb_get (v := .ref (g_reader 0)) hx hb hts hin7 hown hK hH 0 rfl rfl rfl 0 (by decide) (hts (.fieldLink RX7 12 "CockWar" "reader" "LCockWar$Reader;") (List.mem_of_getElem? (i := 1) rfl)) (fun _ h9 => h9) rfl dX7_hill_20 ?_
    refine kb_getN (v := .ref (g_reader_ground 0)) hx hb hts hin4 hown hK hH 1 rfl rfl rfl 1 (by decide) (kb_NF hN 27 rfl) (fun _ h9 => h9) rfl dX7_hill_23 ?_
    obtain ⟨q3, hq3⟩ : ∃ z, z = (f_X2_copyFrom V_now q1.2.2.1) := ⟨_, rfl⟩
    have hF := kAp_eq hF hq3
    refine kb_cv hH hA [13, 14, 15, 16, 17, 18, 3, 4, 5, 6, 7, 8] (Wc := (w_O2 G g_now V_now ++ w_O2 G g_reader_ground q1.2.2.1)) (Wc' := (w_O2 G g_now q3 ++ w_O2 G g_reader_ground q1.2.2.1)) (WS' := (w_O7 G g (g_reader 0) (g_now 0) (g_air 0) (g_acts 0) a_sights (g_slots 0) a_plan a_trial V ++ w_O4 G g_reader (g_reader_ground 0) (g_reader_air 0) q1.2.1 ++ w_O2 G g_reader_ground q1.2.2.1 ++ w_O1 G g_reader_air q1.2.2.2 ++ w_O2 G g_now q3 ++ w_O1 G g_air V_air ++ w_O0 G g_acts gh_this_acts V_acts VH_this_acts ++ w_O6 G g_slots gh_this_slots V_slots VH_this_slots)) rfl (by decide) rfl rfl (va_runVN (C := RX2) (As := [.ref (g_reader_ground 0)]) (rest := []) ⟨hx, hb, hml, hown, hts⟩ (c_X2_copyFrom l G g_now V_now g_reader_ground q1.2.2.1 hq3.symm _) ⟨va_cnB 1 hts gX7_hill_X2_copyFrom_n80 rfl rfl rfl (kb_NM hN 25 rfl) (hts (.initialized RX2) (List.mem_of_getElem? (i := 17) rfl)) hd_X2_copyFrom ⟨Nat.le_of_ble_eq_true rfl, Nat.le_of_ble_eq_true rfl⟩, (hts (.instanceMethod yX2_copyFrom) (List.mem_of_getElem? (i := 75) rfl)), (hts (.selects RX2 yX2_copyFrom yX2_copyFrom) (List.mem_of_getElem? (i := 76) rfl))⟩ (kb_preV hH hK hN [13, 14, 15, 16, 17, 18, 3, 4, 5, 6, 7, 8] rfl (by decide) 13 rfl rfl rfl rfl) rfl rfl hl.1 rfl (lv_room (Nat.le_of_ble_eq_true rfl)) dX7_hill_26 ⟨Nat.le_of_ble_eq_true rfl, Nat.le_of_ble_eq_true rfl⟩) (fun H locs hH => ?_)
    refine lv_aload_n hx hb dX7_hill_29 rfl (lv_at hl 0 rfl) ?_
    refine kb_get (v := .ref (g_air 0)) hx hb hts hin7 hown hK hH 0 rfl rfl rfl 2 (by decide) (hts (.fieldLink RX7 26 "CockWar" "air" "LCockWar$Air;") (List.mem_of_getElem? (i := 3) rfl)) (fun _ h9 => h9) rfl dX7_hill_30 ?_
    refine lv_aload_n hx hb dX7_hill_33 rfl (lv_at hl 0 rfl) ?_
    refine kb_get (v := .ref (g_reader 0)) hx hb hts hin7 hown hK hH 0 rfl rfl rfl 0 (by decide) (hts (.fieldLink RX7 12 "CockWar" "reader" "LCockWar$Reader;") (List.mem_of_getElem? (i := 1) rfl)) (fun _ h9 => h9) rfl dX7_hill_34 ?_
    refine kb_getN (v := .ref (g_reader_air 0)) hx hb hts hin4 hown hK hH 1 rfl rfl rfl 2 (by decide) (kb_NF hN 28 rfl) (fun _ h9 => h9) rfl dX7_hill_37 ?_
    obtain ⟨q4, hq4⟩ : ∃ z, z = (f_X1_copyFrom V_air q1.2.2.2) := ⟨_, rfl⟩
    have hF := kAp_eq hF hq4
    refine kb_cv hH hA [19, 20, 21, 22, 9, 10, 11, 12] (Wc := (w_O1 G g_air V_air ++ w_O1 G g_reader_air q1.2.2.2)) (Wc' := (w_O1 G g_air q4 ++ w_O1 G g_reader_air q1.2.2.2)) (WS' := (w_O7 G g (g_reader 0) (g_now 0) (g_air 0) (g_acts 0) a_sights (g_slots 0) a_plan a_trial V ++ w_O4 G g_reader (g_reader_ground 0) (g_reader_air 0) q1.2.1 ++ w_O2 G g_reader_ground q1.2.2.1 ++ w_O1 G g_reader_air q1.2.2.2 ++ w_O2 G g_now q3 ++ w_O1 G g_air q4 ++ w_O0 G g_acts gh_this_acts V_acts VH_this_acts ++ w_O6 G g_slots gh_this_slots V_slots VH_this_slots)) rfl (by decide) rfl rfl (va_runVN (C := RX1) (As := [.ref (g_reader_air 0)]) (rest := []) ⟨hx, hb, hml, hown, hts⟩ (c_X1_copyFrom l G g_air V_air g_reader_air q1.2.2.2 hq4.symm _) ⟨va_cnB 1 hts gX7_hill_X1_copyFrom_n85 rfl rfl rfl (kb_NM hN 27 rfl) (hts (.initialized RX1) (List.mem_of_getElem? (i := 68) rfl)) hd_X1_copyFrom ⟨Nat.le_of_ble_eq_true rfl, Nat.le_of_ble_eq_true rfl⟩, (hts (.instanceMethod yX1_copyFrom) (List.mem_of_getElem? (i := 80) rfl)), (hts (.selects RX1 yX1_copyFrom yX1_copyFrom) (List.mem_of_getElem? (i := 81) rfl))⟩ (kb_preV hH hK hN [19, 20, 21, 22, 9, 10, 11, 12] rfl (by decide) 19 rfl rfl rfl rfl) rfl rfl hl.1 rfl (lv_room (Nat.le_of_ble_eq_true rfl)) dX7_hill_40 ⟨Nat.le_of_ble_eq_true rfl, Nat.le_of_ble_eq_true rfl⟩) (fun H locs hH => ?_)
    refine lv_aload_n hx hb dX7_hill_43 rfl (lv_at hl 0 rfl) ?_
    refine kb_get (v := .ref (g_acts 0)) hx hb hts hin7 hown hK hH 0 rfl rfl rfl 3 (by decide) (hts (.fieldLink RX7 33 "CockWar" "acts" "LCockWar$ActRow;") (List.mem_of_getElem? (i := 4) rfl)) (fun _ h9 => h9) rfl dX7_hill_44 ?_
    obtain ⟨q5, hq5⟩ : ∃ z, z = (f_X0_forget V_acts VH_this_acts) := ⟨_, rfl⟩
    have hF := kAp_eq hF hq5
    refine kb_cv hH hA [23, 24, 25] (Wc := (w_O0 G g_acts gh_this_acts V_acts VH_this_acts)) (Wc' := (w_O0 G g_acts gh_this_acts q5 VH_this_acts)) (WS' := (w_O7 G g (g_reader 0) (g_now 0) (g_air 0) (g_acts 0) a_sights (g_slots 0) a_plan a_trial V ++ w_O4 G g_reader (g_reader_ground 0) (g_reader_air 0) q1.2.1 ++ w_O2 G g_reader_ground q1.2.2.1 ++ w_O1 G g_reader_air q1.2.2.2 ++ w_O2 G g_now q3 ++ w_O1 G g_air q4 ++ w_O0 G g_acts gh_this_acts q5 VH_this_acts ++ w_O6 G g_slots gh_this_slots V_slots VH_this_slots)) rfl (by decide) rfl rfl (va_runVN (C := RX0) (As := []) (rest := []) ⟨hx, hb, hml, hown, hts⟩ (c_X0_forget l G g_acts gh_this_acts V_acts VH_this_acts hq5.symm _) ⟨va_cnB 0 hts gX7_hill_X0_forget_n88 rfl rfl rfl (kb_NM hN 29 rfl) (hts (.initialized RX0) (List.mem_of_getElem? (i := 84) rfl)) hd_X0_forget ⟨Nat.le_of_ble_eq_true rfl, Nat.le_of_ble_eq_true rfl⟩, (hts (.instanceMethod yX0_forget) (List.mem_of_getElem? (i := 83) rfl)), (hts (.selects RX0 yX0_forget yX0_forget) (List.mem_of_getElem? (i := 85) rfl))⟩ (kb_preV hH hK hN [23, 24, 25] rfl (by decide) 23 rfl rfl rfl rfl) rfl rfl hl.1 rfl (lv_room (Nat.le_of_ble_eq_true rfl)) dX7_hill_47 ⟨Nat.le_of_ble_eq_true rfl, Nat.le_of_ble_eq_true rfl⟩) (fun H locs hH => ?_)
    refine lv_aload_n hx hb dX7_hill_50 rfl (lv_at hl 0 rfl) ?_
    refine kb_get (v := .ref (g_slots 0)) hx hb hts hin7 hown hK hH 0 rfl rfl rfl 5 (by decide) (hts (.fieldLink RX7 47 "CockWar" "slots" "LCockWar$Slots;") (List.mem_of_getElem? (i := 5) rfl)) (fun _ h9 => h9) rfl dX7_hill_51 ?_
    obtain ⟨q6, hq6⟩ : ∃ z, z = (f_X6_forget V_slots VH_this_slots) := ⟨_, rfl⟩
    have hF := kAp_eq hF hq6
    refine kb_cv hH hA [26, 27, 28] (Wc := (w_O6 G g_slots gh_this_slots V_slots VH_this_slots)) (Wc' := (w_O6 G g_slots gh_this_slots q6 VH_this_slots)) (WS' := (w_O7 G g (g_reader 0) (g_now 0) (g_air 0) (g_acts 0) a_sights (g_slots 0) a_plan a_trial V ++ w_O4 G g_reader (g_reader_ground 0) (g_reader_air 0) q1.2.1 ++ w_O2 G g_reader_ground q1.2.2.1 ++ w_O1 G g_reader_air q1.2.2.2 ++ w_O2 G g_now q3 ++ w_O1 G g_air q4 ++ w_O0 G g_acts gh_this_acts q5 VH_this_acts ++ w_O6 G g_slots gh_this_slots q6 VH_this_slots)) rfl (by decide) rfl rfl (va_runVN (C := RX6) (As := []) (rest := []) ⟨hx, hb, hml, hown, hts⟩ (c_X6_forget l G g_slots gh_this_slots V_slots VH_this_slots hq6.symm _) ⟨va_cnB 0 hts gX7_hill_X6_forget_n91 rfl rfl rfl (kb_NM hN 30 rfl) (hts (.initialized RX6) (List.mem_of_getElem? (i := 89) rfl)) hd_X6_forget ⟨Nat.le_of_ble_eq_true rfl, Nat.le_of_ble_eq_true rfl⟩, (hts (.instanceMethod yX6_forget) (List.mem_of_getElem? (i := 88) rfl)), (hts (.selects RX6 yX6_forget yX6_forget) (List.mem_of_getElem? (i := 90) rfl))⟩ (kb_preV hH hK hN [26, 27, 28] rfl (by decide) 26 rfl rfl rfl rfl) rfl rfl hl.1 rfl (lv_room (Nat.le_of_ble_eq_true rfl)) dX7_hill_54 ⟨Nat.le_of_ble_eq_true rfl, Nat.le_of_ble_eq_true rfl⟩) (fun H locs hH => ?_)
    refine lv_bipush (v := 10) hx hb dX7_hill_57 (by decide) ?_
    refine lv_aload_n hx hb dX7_hill_59 rfl (lv_at hl 0 rfl) ?_
    refine kb_get (v := .ref (g_now 0)) hx hb hts hin7 hown hK hH 0 rfl rfl rfl 1 (by decide) (hts (.fieldLink RX7 19 "CockWar" "now" "LCockWar$Hill;") (List.mem_of_getElem? (i := 2) rfl)) (fun _ h9 => h9) rfl dX7_hill_60 ?_
    refine kb_getN (v := .int (q3.2.1 5)) hx hb hts hin2 hown hK hH 13 rfl rfl rfl 5 (by decide) (kb_NF hN 10 rfl) (fun _ h9 => h9) rfl dX7_hill_63 ?_
    refine lv_imul hx hb dX7_hill_66 ?_
    refine lv_aload_n hx hb dX7_hill_67 rfl (lv_at hl 0 rfl) ?_
    refine kb_get (v := .ref (g_air 0)) hx hb hts hin7 hown hK hH 0 rfl rfl rfl 2 (by decide) (hts (.fieldLink RX7 26 "CockWar" "air" "LCockWar$Air;") (List.mem_of_getElem? (i := 3) rfl)) (fun _ h9 => h9) rfl dX7_hill_68 ?_
    refine kb_getN (v := .int (q4.2.1 3)) hx hb hts hin1 hown hK hH 19 rfl rfl rfl 3 (by decide) (kb_NF hN 26 rfl) (fun _ h9 => h9) rfl dX7_hill_71 ?_
    refine lv_iadd hx hb dX7_hill_74 ?_
    subst hF
    exact kb_iret hx hb hr hH rfl rfl dX7_hill_75 hlocks
  · rw [if_neg c2] at hF
    refine lv_bipush (v := -3) hx hb dX7_hill_12 (by decide) ?_
    subst hF
    exact kb_iret hx hb hr hH rfl rfl dX7_hill_14 hlocks
def f_X7_blow (V : OV) (V_air : OV) (V_acts : OV) (VH_this_acts : Nat → OV) (V_now : OV) (x0 : Int32) : (Int32 × OV × OV × (Nat → OV)) := (if (f_X1_hasWind V_air x0) = 0 then ((-1 : Int32), V_acts, V_now, VH_this_acts) else (kAp (f_X0_remember V_acts VH_this_acts V_now) (fun q2 => (kAp (f_X1_blowOver V_air V_now x0) (fun q3 => (q3.1, q2.1, q3.2, q2.2))))))
set_option maxHeartbeats 4000000 in
set_option maxRecDepth 100000 in
theorem c_X7_blow (l : Launch) (G : Ge) (g : Nat → Nat) (a_reader : Nat) (a_sights : Nat) (a_slots : Nat) (a_plan : Nat) (a_trial : Nat) (V : OV) (g_air : Nat → Nat) (V_air : OV) (g_acts : Nat → Nat) (gh_this_acts : Nat → Nat → Nat) (V_acts : OV) (VH_this_acts : Nat → OV) (g_now : Nat → Nat) (V_now : OV) (x0 : Int32) {F : (Int32 × OV × OV × (Nat → OV))} (hF : f_X7_blow V V_air V_acts VH_this_acts V_now x0 = F) : CI l yX7_blow wsX7_blow { frames := 4, cells := 0, slots := 0, locals := 96 } [.ref (g 0), .int x0] G (w_O7 G g a_reader (g_now 0) (g_air 0) (g_acts 0) a_sights a_slots a_plan a_trial V ++ w_O1 G g_air V_air ++ w_O0 G g_acts gh_this_acts V_acts VH_this_acts ++ w_O2 G g_now V_now) (w_O7 G g a_reader (g_now 0) (g_air 0) (g_acts 0) a_sights a_slots a_plan a_trial V ++ w_O1 G g_air V_air ++ w_O0 G g_acts gh_this_acts F.2.1 F.2.2.2 ++ w_O2 G g_now F.2.2.1) F.1 := by
  intro sz
  refine Met.ofW (cc := cX7_blow) (maxL := 2) (ret := (some .int)) (by decide) rfl ?_
  intro p e s m args below meth c s₁ B hml hv
  obtain ⟨rfl, hpre⟩ := hv
  obtain ⟨hsz, hH, hK, hN, hA⟩ := kb_start hpre
  subst hsz
  have hx := B.exec
  have hb := B.bytes
  have hr := B.returns
  have hts := atoms_spec (ws := wsX7_blow) B.pre
  have hown : s.vm.findClass RX7 = some m.cls := findClass_of_methodNamed B.named
  have hlocks := B.notSynchronized
  generalize hAe : va_A (List.flatten (w_O7 G g a_reader (g_now 0) (g_air 0) (g_acts 0) a_sights a_slots a_plan a_trial V ++ w_O1 G g_air V_air ++ w_O0 G g_acts gh_this_acts V_acts VH_this_acts ++ w_O2 G g_now V_now)) s.heap.size = A at hH hA ⊢
  have hl := lv_entry ([.ref (g 0), .int x0]) (n := 2) (Nat.le_of_ble_eq_true rfl)
  rw [lg_entry_eq]
  generalize (lg_sl ([.ref (g 0), .int x0]) ++ List.replicate (2 - (lg_sl ([.ref (g 0), .int x0])).length) Slot.unset).toArray = ls at hl ⊢
  have hl : lv_has ls 2 [(0, .ref (g 0)), (1, .int x0)] := hl
  have hH : HP G A s.heap (w_O7 G g a_reader (g_now 0) (g_air 0) (g_acts 0) a_sights a_slots a_plan a_trial V ++ w_O1 G g_air V_air ++ w_O0 G g_acts gh_this_acts V_acts VH_this_acts ++ w_O2 G g_now V_now) s.heap [] := hH
  have hin7 : ∀ w ∈ u_ws RX7 TX7 9, w ∈ wsX7_blow := fun w h => List.mem_cons_of_mem _ (List.mem_append_left _ (List.mem_append_left _ (List.mem_append_left _ (List.mem_append_right _ h))))
  have hF : (if (f_X1_hasWind V_air x0) = 0 then ((-1 : Int32), V_acts, V_now, VH_this_acts) else (kAp (f_X0_remember V_acts VH_this_acts V_now) (fun q2 => (kAp (f_X1_blowOver V_air V_now x0) (fun q3 => (q3.1, q2.1, q3.2, q2.2)))))) = F := hF
  refine lv_aload_n hx hb dX7_blow_0 rfl (lv_at hl 0 rfl) ?_
  refine kb_get (v := .ref (g_air 0)) hx hb hts hin7 hown hK hH 0 rfl rfl rfl 2 (by decide) (hts (.fieldLink RX7 26 "CockWar" "air" "LCockWar$Air;") (List.mem_of_getElem? (i := 1) rfl)) (fun _ h9 => h9) rfl dX7_blow_1 ?_
  refine lv_iload_n hx hb dX7_blow_4 rfl (lv_at hl 1 rfl) ?_
  refine kb_ci hH hA [1, 2, 3, 4] (Wc := (w_O1 G g_air V_air)) (Wc' := (w_O1 G g_air V_air)) (WS' := (w_O7 G g a_reader (g_now 0) (g_air 0) (g_acts 0) a_sights a_slots a_plan a_trial V ++ w_O1 G g_air V_air ++ w_O0 G g_acts gh_this_acts V_acts VH_this_acts ++ w_O2 G g_now V_now)) rfl (by decide) rfl rfl (va_runVN (C := RX1) (As := [.int x0]) (rest := []) ⟨hx, hb, hml, hown, hts⟩ (c_X1_hasWind l G g_air V_air x0 rfl _) ⟨va_cnB 1 hts gX7_blow_X1_hasWind_n138 rfl rfl rfl (kb_NM hN 32 rfl) (hts (.initialized RX1) (List.mem_of_getElem? (i := 5) rfl)) hd_X1_hasWind ⟨Nat.le_of_ble_eq_true rfl, Nat.le_of_ble_eq_true rfl⟩, (hts (.instanceMethod yX1_hasWind) (List.mem_of_getElem? (i := 4) rfl)), (hts (.selects RX1 yX1_hasWind yX1_hasWind) (List.mem_of_getElem? (i := 6) rfl))⟩ (kb_preV hH hK hN [1, 2, 3, 4] rfl (by decide) 1 rfl rfl rfl rfl) rfl rfl hl.1 rfl (lv_room (Nat.le_of_ble_eq_true rfl)) dX7_blow_5 ⟨Nat.le_of_ble_eq_true rfl, Nat.le_of_ble_eq_true rfl⟩) (fun H locs hH => ?_)
  refine lv_if_ne (tgt := 13) hx hb dX7_blow_8 (by decide) (fun c1 => ?_) (fun c1 => ?_)
  · rw [if_neg c1] at hF
    refine lv_aload_n hx hb dX7_blow_13 rfl (lv_at hl 0 rfl) ?_
    refine kb_get (v := .ref (g_acts 0)) hx hb hts hin7 hown hK hH 0 rfl rfl rfl 3 (by decide) (hts (.fieldLink RX7 33 "CockWar" "acts" "LCockWar$ActRow;") (List.mem_of_getElem? (i := 2) rfl)) (fun _ h9 => h9) rfl dX7_blow_14 ?_
    refine lv_aload_n hx hb dX7_blow_17 rfl (lv_at hl 0 rfl) ?_
    refine kb_get (v := .ref (g_now 0)) hx hb hts hin7 hown hK hH 0 rfl rfl rfl 1 (by decide) (hts (.fieldLink RX7 19 "CockWar" "now" "LCockWar$Hill;") (List.mem_of_getElem? (i := 3) rfl)) (fun _ h9 => h9) rfl dX7_blow_18 ?_
    obtain ⟨q2, hq2⟩ : ∃ z, z = (f_X0_remember V_acts VH_this_acts V_now) := ⟨_, rfl⟩
    have hF := kAp_eq hF hq2
    refine kb_cv hH hA [5, 6, 7, 8, 9, 10, 11, 12, 13] (Wc := (w_O0 G g_acts gh_this_acts V_acts VH_this_acts ++ w_O2 G g_now V_now)) (Wc' := (w_O0 G g_acts gh_this_acts q2.1 q2.2 ++ w_O2 G g_now V_now)) (WS' := (w_O7 G g a_reader (g_now 0) (g_air 0) (g_acts 0) a_sights a_slots a_plan a_trial V ++ w_O1 G g_air V_air ++ w_O0 G g_acts gh_this_acts q2.1 q2.2 ++ w_O2 G g_now V_now)) rfl (by decide) rfl rfl (va_runVN (C := RX0) (As := [.ref (g_now 0)]) (rest := []) ⟨hx, hb, hml, hown, hts⟩ (c_X0_remember l G g_acts gh_this_acts V_acts VH_this_acts g_now V_now hq2.symm _) ⟨va_cnB 1 hts gX7_blow_X0_remember_n154 rfl rfl rfl (kb_NM hN 37 rfl) (hts (.initialized RX0) (List.mem_of_getElem? (i := 10) rfl)) hd_X0_remember ⟨Nat.le_of_ble_eq_true rfl, Nat.le_of_ble_eq_true rfl⟩, (hts (.instanceMethod yX0_remember) (List.mem_of_getElem? (i := 9) rfl)), (hts (.selects RX0 yX0_remember yX0_remember) (List.mem_of_getElem? (i := 11) rfl))⟩ (kb_preV hH hK hN [5, 6, 7, 8, 9, 10, 11, 12, 13] rfl (by decide) 5 rfl rfl rfl rfl) rfl rfl hl.1 rfl (lv_room (Nat.le_of_ble_eq_true rfl)) dX7_blow_21 ⟨Nat.le_of_ble_eq_true rfl, Nat.le_of_ble_eq_true rfl⟩) (fun H locs hH => ?_)
    refine lv_aload_n hx hb dX7_blow_24 rfl (lv_at hl 0 rfl) ?_
    refine kb_get (v := .ref (g_air 0)) hx hb hts hin7 hown hK hH 0 rfl rfl rfl 2 (by decide) (hts (.fieldLink RX7 26 "CockWar" "air" "LCockWar$Air;") (List.mem_of_getElem? (i := 1) rfl)) (fun _ h9 => h9) rfl dX7_blow_25 ?_
    refine lv_aload_n hx hb dX7_blow_28 rfl (lv_at hl 0 rfl) ?_
    refine kb_get (v := .ref (g_now 0)) hx hb hts hin7 hown hK hH 0 rfl rfl rfl 1 (by decide) (hts (.fieldLink RX7 19 "CockWar" "now" "LCockWar$Hill;") (List.mem_of_getElem? (i := 3) rfl)) (fun _ h9 => h9) rfl dX7_blow_29 ?_
    refine lv_iload_n hx hb dX7_blow_32 rfl (lv_at hl 1 rfl) ?_
    obtain ⟨q3, hq3⟩ : ∃ z, z = (f_X1_blowOver V_air V_now x0) := ⟨_, rfl⟩
    have hF := kAp_eq hF hq3
    refine kb_ci hH hA [1, 2, 3, 4, 8, 9, 10, 11, 12, 13] (Wc := (w_O1 G g_air V_air ++ w_O2 G g_now V_now)) (Wc' := (w_O1 G g_air V_air ++ w_O2 G g_now q3.2)) (WS' := (w_O7 G g a_reader (g_now 0) (g_air 0) (g_acts 0) a_sights a_slots a_plan a_trial V ++ w_O1 G g_air V_air ++ w_O0 G g_acts gh_this_acts q2.1 q2.2 ++ w_O2 G g_now q3.2)) rfl (by decide) rfl rfl (va_runVN (C := RX1) (As := [.ref (g_now 0), .int x0]) (rest := []) ⟨hx, hb, hml, hown, hts⟩ (c_X1_blowOver l G g_air V_air g_now V_now x0 hq3.symm _) ⟨va_cnB 2 hts gX7_blow_X1_blowOver_n157 rfl rfl rfl (kb_NM hN 39 rfl) (hts (.initialized RX1) (List.mem_of_getElem? (i := 5) rfl)) hd_X1_blowOver ⟨Nat.le_of_ble_eq_true rfl, Nat.le_of_ble_eq_true rfl⟩, (hts (.instanceMethod yX1_blowOver) (List.mem_of_getElem? (i := 34) rfl)), (hts (.selects RX1 yX1_blowOver yX1_blowOver) (List.mem_of_getElem? (i := 35) rfl))⟩ (kb_preV hH hK hN [1, 2, 3, 4, 8, 9, 10, 11, 12, 13] rfl (by decide) 1 rfl rfl rfl rfl) rfl rfl hl.1 rfl (lv_room (Nat.le_of_ble_eq_true rfl)) dX7_blow_33 ⟨Nat.le_of_ble_eq_true rfl, Nat.le_of_ble_eq_true rfl⟩) (fun H locs hH => ?_)
    subst hF
    exact kb_iret hx hb hr hH rfl rfl dX7_blow_36 hlocks
  · rw [if_pos c1] at hF
    refine lv_iconst (v := -1) hx hb dX7_blow_11 (by decide) ?_
    subst hF
    exact kb_iret hx hb hr hH rfl rfl dX7_blow_12 hlocks
def f_X7_fell (V : OV) (V_now : OV) (V_acts : OV) (VH_this_acts : Nat → OV) (x0 : Int32) : (Int32 × OV × OV × (Nat → OV)) := (if (f_X7_isCell x0) = 0 then ((-2 : Int32), V_now, V_acts, VH_this_acts) else (if (f_X7_at 10 (V_now.1 0) x0) = 0 then ((-3 : Int32), V_now, V_acts, VH_this_acts) else (kAp (f_X0_remember V_acts VH_this_acts V_now) (fun q3 => (kAp (f_X7_put 10 (V_now.1 0) x0 (0 : Int32)) (fun q4 => ((f_X7_at 10 (V_now.1 0) x0), (oA V_now 0 q4), q3.1, q3.2)))))))
set_option maxHeartbeats 4000000 in
set_option maxRecDepth 100000 in
theorem c_X7_fell (l : Launch) (G : Ge) (g : Nat → Nat) (a_reader : Nat) (a_air : Nat) (a_sights : Nat) (a_slots : Nat) (a_plan : Nat) (a_trial : Nat) (V : OV) (g_now : Nat → Nat) (V_now : OV) (g_acts : Nat → Nat) (gh_this_acts : Nat → Nat → Nat) (V_acts : OV) (VH_this_acts : Nat → OV) (x0 : Int32) {F : (Int32 × OV × OV × (Nat → OV))} (hF : f_X7_fell V V_now V_acts VH_this_acts x0 = F) : CI l yX7_fell wsX7_fell { frames := 3, cells := 0, slots := 0, locals := 65 } [.ref (g 0), .int x0] G (w_O7 G g a_reader (g_now 0) a_air (g_acts 0) a_sights a_slots a_plan a_trial V ++ w_O2 G g_now V_now ++ w_O0 G g_acts gh_this_acts V_acts VH_this_acts) (w_O7 G g a_reader (g_now 0) a_air (g_acts 0) a_sights a_slots a_plan a_trial V ++ w_O2 G g_now F.2.1 ++ w_O0 G g_acts gh_this_acts F.2.2.1 F.2.2.2) F.1 := by
  intro sz
  refine Met.ofW (cc := cX7_fell) (maxL := 3) (ret := (some .int)) (by decide) rfl ?_
  intro p e s m args below meth c s₁ B hml hv
  obtain ⟨rfl, hpre⟩ := hv
  obtain ⟨hsz, hH, hK, hN, hA⟩ := kb_start hpre
  subst hsz
  have hx := B.exec
  have hb := B.bytes
  have hr := B.returns
  have hts := atoms_spec (ws := wsX7_fell) B.pre
  have hown : s.vm.findClass RX7 = some m.cls := findClass_of_methodNamed B.named
  have hlocks := B.notSynchronized
  generalize hAe : va_A (List.flatten (w_O7 G g a_reader (g_now 0) a_air (g_acts 0) a_sights a_slots a_plan a_trial V ++ w_O2 G g_now V_now ++ w_O0 G g_acts gh_this_acts V_acts VH_this_acts)) s.heap.size = A at hH hA ⊢
  have hl := lv_entry ([.ref (g 0), .int x0]) (n := 3) (Nat.le_of_ble_eq_true rfl)
  rw [lg_entry_eq]
  generalize (lg_sl ([.ref (g 0), .int x0]) ++ List.replicate (3 - (lg_sl ([.ref (g 0), .int x0])).length) Slot.unset).toArray = ls at hl ⊢
  have hl : lv_has ls 3 [(0, .ref (g 0)), (1, .int x0)] := hl
  have hH : HP G A s.heap (w_O7 G g a_reader (g_now 0) a_air (g_acts 0) a_sights a_slots a_plan a_trial V ++ w_O2 G g_now V_now ++ w_O0 G g_acts gh_this_acts V_acts VH_this_acts) s.heap [] := hH
  have hin2 : ∀ w ∈ u_ws RX2 TX2 11, w ∈ wsX7_fell := fun w h => List.mem_cons_of_mem _ (List.mem_append_left _ (List.mem_append_right _ h))
  have hin7 : ∀ w ∈ u_ws RX7 TX7 9, w ∈ wsX7_fell := fun w h => List.mem_cons_of_mem _ (List.mem_append_left _ (List.mem_append_left _ (List.mem_append_right _ h)))
  have hF : (if (f_X7_isCell x0) = 0 then ((-2 : Int32), V_now, V_acts, VH_this_acts) else (if (f_X7_at 10 (V_now.1 0) x0) = 0 then ((-3 : Int32), V_now, V_acts, VH_this_acts) else (kAp (f_X0_remember V_acts VH_this_acts V_now) (fun q3 => (kAp (f_X7_put 10 (V_now.1 0) x0 (0 : Int32)) (fun q4 => ((f_X7_at 10 (V_now.1 0) x0), (oA V_now 0 q4), q3.1, q3.2))))))) = F := hF
  refine lv_iload_n hx hb dX7_fell_0 rfl (lv_at hl 1 rfl) ?_
  refine kb_ci hH hA [] (Wc := ([] : List va_W)) (Wc' := ([] : List va_W)) (WS' := (w_O7 G g a_reader (g_now 0) a_air (g_acts 0) a_sights a_slots a_plan a_trial V ++ w_O2 G g_now V_now ++ w_O0 G g_acts gh_this_acts V_acts VH_this_acts)) rfl (by decide) rfl rfl (va_runS (As := [.int x0]) (rest := []) ⟨hx, hb, hml, hown, hts⟩ (c_X7_isCell l G x0 rfl _) (va_cwS 1 hts gX7_fell_X7_isCell rfl rfl rfl hd_X7_isCell ⟨Nat.le_of_ble_eq_true rfl, Nat.le_of_ble_eq_true rfl⟩) (kb_preS hH hK hN [] rfl (by decide)) rfl rfl hl.1 rfl (lv_room (Nat.le_of_ble_eq_true rfl)) dX7_fell_1 ⟨Nat.le_of_ble_eq_true rfl, Nat.le_of_ble_eq_true rfl⟩) (fun H locs hH => ?_)
  refine lv_if_ne (tgt := 10) hx hb dX7_fell_4 (by decide) (fun c1 => ?_) (fun c1 => ?_)
  · rw [if_neg c1] at hF
    refine lv_aload_n hx hb dX7_fell_10 rfl (lv_at hl 0 rfl) ?_
    refine kb_get (v := .ref (g_now 0)) hx hb hts hin7 hown hK hH 0 rfl rfl rfl 1 (by decide) (hts (.fieldLink RX7 19 "CockWar" "now" "LCockWar$Hill;") (List.mem_of_getElem? (i := 1) rfl)) (fun _ h9 => h9) rfl dX7_fell_11 ?_
    refine kb_getN (v := .ref (g_now 1)) hx hb hts hin2 hown hK hH 1 rfl rfl rfl 0 (by decide) (kb_NF hN 2 rfl) (fun _ h9 => h9) rfl dX7_fell_14 ?_
    refine lv_iload_n hx hb dX7_fell_17 rfl (lv_at hl 1 rfl) ?_
    refine kb_ci hH hA [2] (Wc := ([b_arr G (g_now 1) 10 (V_now.1 0)])) (Wc' := ([b_arr G (g_now 1) 10 (V_now.1 0)])) (WS' := (w_O7 G g a_reader (g_now 0) a_air (g_acts 0) a_sights a_slots a_plan a_trial V ++ w_O2 G g_now V_now ++ w_O0 G g_acts gh_this_acts V_acts VH_this_acts)) rfl (by decide) rfl rfl (va_runS (As := [.ref (g_now 1), .int x0]) (rest := []) ⟨hx, hb, hml, hown, hts⟩ (c_X7_at l G (g_now 1) 10 (V_now.1 0) x0 (by decide) rfl _) (va_cwS 2 hts gX7_fell_X7_at rfl rfl rfl hd_X7_at ⟨Nat.le_of_ble_eq_true rfl, Nat.le_of_ble_eq_true rfl⟩) (kb_preS hH hK hN [2] rfl (by decide)) rfl rfl hl.1 rfl (lv_room (Nat.le_of_ble_eq_true rfl)) dX7_fell_18 ⟨Nat.le_of_ble_eq_true rfl, Nat.le_of_ble_eq_true rfl⟩) (fun H locs hH => ?_)
    refine lv_istore_n (lv' := [(2, .int (f_X7_at 10 (V_now.1 0) x0)), (0, .ref (g 0)), (1, .int x0)]) hx hb dX7_fell_21 rfl hl (by decide) rfl (fun ls hl => ?_)
    refine lv_iload_n hx hb dX7_fell_22 rfl (lv_at hl 0 rfl) ?_
    refine lv_if_ne (tgt := 29) hx hb dX7_fell_23 (by decide) (fun c2 => ?_) (fun c2 => ?_)
    · rw [if_neg c2] at hF
      refine lv_aload_n hx hb dX7_fell_29 rfl (lv_at hl 1 rfl) ?_
      refine kb_get (v := .ref (g_acts 0)) hx hb hts hin7 hown hK hH 0 rfl rfl rfl 3 (by decide) (hts (.fieldLink RX7 33 "CockWar" "acts" "LCockWar$ActRow;") (List.mem_of_getElem? (i := 2) rfl)) (fun _ h9 => h9) rfl dX7_fell_30 ?_
      refine lv_aload_n hx hb dX7_fell_33 rfl (lv_at hl 1 rfl) ?_
      refine kb_get (v := .ref (g_now 0)) hx hb hts hin7 hown hK hH 0 rfl rfl rfl 1 (by decide) (hts (.fieldLink RX7 19 "CockWar" "now" "LCockWar$Hill;") (List.mem_of_getElem? (i := 1) rfl)) (fun _ h9 => h9) rfl dX7_fell_34 ?_
      obtain ⟨q3, hq3⟩ : ∃ z, z = (f_X0_remember V_acts VH_this_acts V_now) := ⟨_, rfl⟩
      have hF := kAp_eq hF hq3
      refine kb_cv hH hA [7, 8, 9, 1, 2, 3, 4, 5, 6] (Wc := (w_O0 G g_acts gh_this_acts V_acts VH_this_acts ++ w_O2 G g_now V_now)) (Wc' := (w_O0 G g_acts gh_this_acts q3.1 q3.2 ++ w_O2 G g_now V_now)) (WS' := (w_O7 G g a_reader (g_now 0) a_air (g_acts 0) a_sights a_slots a_plan a_trial V ++ w_O2 G g_now V_now ++ w_O0 G g_acts gh_this_acts q3.1 q3.2)) rfl (by decide) rfl rfl (va_runVN (C := RX0) (As := [.ref (g_now 0)]) (rest := []) ⟨hx, hb, hml, hown, hts⟩ (c_X0_remember l G g_acts gh_this_acts V_acts VH_this_acts g_now V_now hq3.symm _) ⟨va_cnB 1 hts gX7_fell_X0_remember_n154 rfl rfl rfl (kb_NM hN 37 rfl) (hts (.initialized RX0) (List.mem_of_getElem? (i := 11) rfl)) hd_X0_remember ⟨Nat.le_of_ble_eq_true rfl, Nat.le_of_ble_eq_true rfl⟩, (hts (.instanceMethod yX0_remember) (List.mem_of_getElem? (i := 10) rfl)), (hts (.selects RX0 yX0_remember yX0_remember) (List.mem_of_getElem? (i := 12) rfl))⟩ (kb_preV hH hK hN [7, 8, 9, 1, 2, 3, 4, 5, 6] rfl (by decide) 7 rfl rfl rfl rfl) rfl rfl hl.1 rfl (lv_room (Nat.le_of_ble_eq_true rfl)) dX7_fell_37 ⟨Nat.le_of_ble_eq_true rfl, Nat.le_of_ble_eq_true rfl⟩) (fun H locs hH => ?_)
      refine lv_aload_n hx hb dX7_fell_40 rfl (lv_at hl 1 rfl) ?_
      refine kb_get (v := .ref (g_now 0)) hx hb hts hin7 hown hK hH 0 rfl rfl rfl 1 (by decide) (hts (.fieldLink RX7 19 "CockWar" "now" "LCockWar$Hill;") (List.mem_of_getElem? (i := 1) rfl)) (fun _ h9 => h9) rfl dX7_fell_41 ?_
      refine kb_getN (v := .ref (g_now 1)) hx hb hts hin2 hown hK hH 1 rfl rfl rfl 0 (by decide) (kb_NF hN 2 rfl) (fun _ h9 => h9) rfl dX7_fell_44 ?_
      refine lv_iload_n hx hb dX7_fell_47 rfl (lv_at hl 2 rfl) ?_
      refine lv_iconst (v := 0) hx hb dX7_fell_48 (by decide) ?_
      obtain ⟨q4, hq4⟩ : ∃ z, z = (f_X7_put 10 (V_now.1 0) x0 (0 : Int32)) := ⟨_, rfl⟩
      have hF := kAp_eq hF hq4
      refine kb_cv hH hA [2] (Wc := ([b_arr G (g_now 1) 10 (V_now.1 0)])) (Wc' := ([b_arr G (g_now 1) 10 q4])) (WS' := (w_O7 G g a_reader (g_now 0) a_air (g_acts 0) a_sights a_slots a_plan a_trial V ++ w_O2 G g_now (oA V_now 0 q4) ++ w_O0 G g_acts gh_this_acts q3.1 q3.2)) rfl (by decide) rfl rfl (va_runS (As := [.ref (g_now 1), .int x0, .int (0 : Int32)]) (rest := []) ⟨hx, hb, hml, hown, hts⟩ (c_X7_put l G (g_now 1) 10 (V_now.1 0) x0 (0 : Int32) (by decide) hq4.symm _) (va_cwS 3 hts gX7_fell_X7_put rfl rfl rfl hd_X7_put ⟨Nat.le_of_ble_eq_true rfl, Nat.le_of_ble_eq_true rfl⟩) (kb_preS hH hK hN [2] rfl (by decide)) rfl rfl hl.1 rfl (lv_room (Nat.le_of_ble_eq_true rfl)) dX7_fell_49 ⟨Nat.le_of_ble_eq_true rfl, Nat.le_of_ble_eq_true rfl⟩) (fun H locs hH => ?_)
      refine lv_iload_n hx hb dX7_fell_52 rfl (lv_at hl 0 rfl) ?_
      subst hF
      exact kb_iret hx hb hr hH rfl rfl dX7_fell_53 hlocks
    · rw [if_pos c2] at hF
      refine lv_bipush (v := -3) hx hb dX7_fell_26 (by decide) ?_
      subst hF
      exact kb_iret hx hb hr hH rfl rfl dX7_fell_28 hlocks
  · rw [if_pos c1] at hF
    refine lv_bipush (v := -2) hx hb dX7_fell_7 (by decide) ?_
    subst hF
    exact kb_iret hx hb hr hH rfl rfl dX7_fell_9 hlocks
def f_X7_move (V : OV) (V_now : OV) (V_acts : OV) (VH_this_acts : Nat → OV) (x0 : Int32) (x1 : Int32) : (Int32 × OV × OV × (Nat → OV)) := (if (f_X2_hasCock V_now x0) = 0 then ((-1 : Int32), V_now, V_acts, VH_this_acts) else (if (f_X7_isCell x1) = 0 then ((-2 : Int32), V_now, V_acts, VH_this_acts) else (if (f_X7_bit (f_X2_takenCells V_now) x1) = (1 : Int32) then ((-3 : Int32), V_now, V_acts, VH_this_acts) else (kAp (f_X0_remember V_acts VH_this_acts V_now) (fun q4 => (kAp (f_X7_put 6 (V_now.1 1) x0 x1) (fun q5 => ((f_X7_at 6 (V_now.1 1) x0), (oA V_now 1 q5), q4.1, q4.2))))))))
set_option maxHeartbeats 4000000 in
set_option maxRecDepth 100000 in
theorem c_X7_move (l : Launch) (G : Ge) (g : Nat → Nat) (a_reader : Nat) (a_air : Nat) (a_sights : Nat) (a_slots : Nat) (a_plan : Nat) (a_trial : Nat) (V : OV) (g_now : Nat → Nat) (V_now : OV) (g_acts : Nat → Nat) (gh_this_acts : Nat → Nat → Nat) (V_acts : OV) (VH_this_acts : Nat → OV) (x0 : Int32) (x1 : Int32) {F : (Int32 × OV × OV × (Nat → OV))} (hF : f_X7_move V V_now V_acts VH_this_acts x0 x1 = F) : CI l yX7_move wsX7_move { frames := 3, cells := 0, slots := 0, locals := 65 } [.ref (g 0), .int x0, .int x1] G (w_O7 G g a_reader (g_now 0) a_air (g_acts 0) a_sights a_slots a_plan a_trial V ++ w_O2 G g_now V_now ++ w_O0 G g_acts gh_this_acts V_acts VH_this_acts) (w_O7 G g a_reader (g_now 0) a_air (g_acts 0) a_sights a_slots a_plan a_trial V ++ w_O2 G g_now F.2.1 ++ w_O0 G g_acts gh_this_acts F.2.2.1 F.2.2.2) F.1 := by
  intro sz
  refine Met.ofW (cc := cX7_move) (maxL := 4) (ret := (some .int)) (by decide) rfl ?_
  intro p e s m args below meth c s₁ B hml hv
  obtain ⟨rfl, hpre⟩ := hv
  obtain ⟨hsz, hH, hK, hN, hA⟩ := kb_start hpre
  subst hsz
  have hx := B.exec
  have hb := B.bytes
  have hr := B.returns
  have hts := atoms_spec (ws := wsX7_move) B.pre
  have hown : s.vm.findClass RX7 = some m.cls := findClass_of_methodNamed B.named
  have hlocks := B.notSynchronized
  generalize hAe : va_A (List.flatten (w_O7 G g a_reader (g_now 0) a_air (g_acts 0) a_sights a_slots a_plan a_trial V ++ w_O2 G g_now V_now ++ w_O0 G g_acts gh_this_acts V_acts VH_this_acts)) s.heap.size = A at hH hA ⊢
  have hl := lv_entry ([.ref (g 0), .int x0, .int x1]) (n := 4) (Nat.le_of_ble_eq_true rfl)
  rw [lg_entry_eq]
  generalize (lg_sl ([.ref (g 0), .int x0, .int x1]) ++ List.replicate (4 - (lg_sl ([.ref (g 0), .int x0, .int x1])).length) Slot.unset).toArray = ls at hl ⊢
  have hl : lv_has ls 4 [(0, .ref (g 0)), (1, .int x0), (2, .int x1)] := hl
  have hH : HP G A s.heap (w_O7 G g a_reader (g_now 0) a_air (g_acts 0) a_sights a_slots a_plan a_trial V ++ w_O2 G g_now V_now ++ w_O0 G g_acts gh_this_acts V_acts VH_this_acts) s.heap [] := hH
  have hin2 : ∀ w ∈ u_ws RX2 TX2 11, w ∈ wsX7_move := fun w h => List.mem_cons_of_mem _ (List.mem_append_left _ (List.mem_append_right _ h))
  have hin7 : ∀ w ∈ u_ws RX7 TX7 9, w ∈ wsX7_move := fun w h => List.mem_cons_of_mem _ (List.mem_append_left _ (List.mem_append_left _ (List.mem_append_right _ h)))
  have hF : (if (f_X2_hasCock V_now x0) = 0 then ((-1 : Int32), V_now, V_acts, VH_this_acts) else (if (f_X7_isCell x1) = 0 then ((-2 : Int32), V_now, V_acts, VH_this_acts) else (if (f_X7_bit (f_X2_takenCells V_now) x1) = (1 : Int32) then ((-3 : Int32), V_now, V_acts, VH_this_acts) else (kAp (f_X0_remember V_acts VH_this_acts V_now) (fun q4 => (kAp (f_X7_put 6 (V_now.1 1) x0 x1) (fun q5 => ((f_X7_at 6 (V_now.1 1) x0), (oA V_now 1 q5), q4.1, q4.2)))))))) = F := hF
  refine lv_aload_n hx hb dX7_move_0 rfl (lv_at hl 0 rfl) ?_
  refine kb_get (v := .ref (g_now 0)) hx hb hts hin7 hown hK hH 0 rfl rfl rfl 1 (by decide) (hts (.fieldLink RX7 19 "CockWar" "now" "LCockWar$Hill;") (List.mem_of_getElem? (i := 1) rfl)) (fun _ h9 => h9) rfl dX7_move_1 ?_
  refine lv_iload_n hx hb dX7_move_4 rfl (lv_at hl 1 rfl) ?_
  refine kb_ci hH hA [1, 2, 3, 4, 5, 6] (Wc := (w_O2 G g_now V_now)) (Wc' := (w_O2 G g_now V_now)) (WS' := (w_O7 G g a_reader (g_now 0) a_air (g_acts 0) a_sights a_slots a_plan a_trial V ++ w_O2 G g_now V_now ++ w_O0 G g_acts gh_this_acts V_acts VH_this_acts)) rfl (by decide) rfl rfl (va_runVN (C := RX2) (As := [.int x0]) (rest := []) ⟨hx, hb, hml, hown, hts⟩ (c_X2_hasCock l G g_now V_now x0 rfl _) ⟨va_cnB 1 hts gX7_move_X2_hasCock_n110 rfl rfl rfl (kb_NM hN 31 rfl) (hts (.initialized RX2) (List.mem_of_getElem? (i := 4) rfl)) hd_X2_hasCock ⟨Nat.le_of_ble_eq_true rfl, Nat.le_of_ble_eq_true rfl⟩, (hts (.instanceMethod yX2_hasCock) (List.mem_of_getElem? (i := 3) rfl)), (hts (.selects RX2 yX2_hasCock yX2_hasCock) (List.mem_of_getElem? (i := 5) rfl))⟩ (kb_preV hH hK hN [1, 2, 3, 4, 5, 6] rfl (by decide) 1 rfl rfl rfl rfl) rfl rfl hl.1 rfl (lv_room (Nat.le_of_ble_eq_true rfl)) dX7_move_5 ⟨Nat.le_of_ble_eq_true rfl, Nat.le_of_ble_eq_true rfl⟩) (fun H locs hH => ?_)
  refine lv_if_ne (tgt := 13) hx hb dX7_move_8 (by decide) (fun c1 => ?_) (fun c1 => ?_)
  · rw [if_neg c1] at hF
    refine lv_iload_n hx hb dX7_move_13 rfl (lv_at hl 2 rfl) ?_
    refine kb_ci hH hA [] (Wc := ([] : List va_W)) (Wc' := ([] : List va_W)) (WS' := (w_O7 G g a_reader (g_now 0) a_air (g_acts 0) a_sights a_slots a_plan a_trial V ++ w_O2 G g_now V_now ++ w_O0 G g_acts gh_this_acts V_acts VH_this_acts)) rfl (by decide) rfl rfl (va_runS (As := [.int x1]) (rest := []) ⟨hx, hb, hml, hown, hts⟩ (c_X7_isCell l G x1 rfl _) (va_cwS 1 hts gX7_move_X7_isCell rfl rfl rfl hd_X7_isCell ⟨Nat.le_of_ble_eq_true rfl, Nat.le_of_ble_eq_true rfl⟩) (kb_preS hH hK hN [] rfl (by decide)) rfl rfl hl.1 rfl (lv_room (Nat.le_of_ble_eq_true rfl)) dX7_move_14 ⟨Nat.le_of_ble_eq_true rfl, Nat.le_of_ble_eq_true rfl⟩) (fun H locs hH => ?_)
    refine lv_if_ne (tgt := 23) hx hb dX7_move_17 (by decide) (fun c2 => ?_) (fun c2 => ?_)
    · rw [if_neg c2] at hF
      refine lv_aload_n hx hb dX7_move_23 rfl (lv_at hl 0 rfl) ?_
      refine kb_get (v := .ref (g_now 0)) hx hb hts hin7 hown hK hH 0 rfl rfl rfl 1 (by decide) (hts (.fieldLink RX7 19 "CockWar" "now" "LCockWar$Hill;") (List.mem_of_getElem? (i := 1) rfl)) (fun _ h9 => h9) rfl dX7_move_24 ?_
      refine kb_ci hH hA [1, 2, 3, 4, 5, 6] (Wc := (w_O2 G g_now V_now)) (Wc' := (w_O2 G g_now V_now)) (WS' := (w_O7 G g a_reader (g_now 0) a_air (g_acts 0) a_sights a_slots a_plan a_trial V ++ w_O2 G g_now V_now ++ w_O0 G g_acts gh_this_acts V_acts VH_this_acts)) rfl (by decide) rfl rfl (va_runVN (C := RX2) (As := []) (rest := []) ⟨hx, hb, hml, hown, hts⟩ (c_X2_takenCells l G g_now V_now rfl _) ⟨va_cnB 0 hts gX7_move_X2_takenCells_n165 rfl rfl rfl (kb_NM hN 41 rfl) (hts (.initialized RX2) (List.mem_of_getElem? (i := 4) rfl)) hd_X2_takenCells ⟨Nat.le_of_ble_eq_true rfl, Nat.le_of_ble_eq_true rfl⟩, (hts (.instanceMethod yX2_takenCells) (List.mem_of_getElem? (i := 12) rfl)), (hts (.selects RX2 yX2_takenCells yX2_takenCells) (List.mem_of_getElem? (i := 13) rfl))⟩ (kb_preV hH hK hN [1, 2, 3, 4, 5, 6] rfl (by decide) 1 rfl rfl rfl rfl) rfl rfl hl.1 rfl (lv_room (Nat.le_of_ble_eq_true rfl)) dX7_move_27 ⟨Nat.le_of_ble_eq_true rfl, Nat.le_of_ble_eq_true rfl⟩) (fun H locs hH => ?_)
      refine lv_iload_n hx hb dX7_move_30 rfl (lv_at hl 2 rfl) ?_
      refine kb_ci hH hA [] (Wc := ([] : List va_W)) (Wc' := ([] : List va_W)) (WS' := (w_O7 G g a_reader (g_now 0) a_air (g_acts 0) a_sights a_slots a_plan a_trial V ++ w_O2 G g_now V_now ++ w_O0 G g_acts gh_this_acts V_acts VH_this_acts)) rfl (by decide) rfl rfl (va_runS (As := [.int (f_X2_takenCells V_now), .int x1]) (rest := []) ⟨hx, hb, hml, hown, hts⟩ (c_X7_bit l G (f_X2_takenCells V_now) x1 rfl _) (va_cwS 2 hts gX7_move_X7_bit rfl rfl rfl hd_X7_bit ⟨Nat.le_of_ble_eq_true rfl, Nat.le_of_ble_eq_true rfl⟩) (kb_preS hH hK hN [] rfl (by decide)) rfl rfl hl.1 rfl (lv_room (Nat.le_of_ble_eq_true rfl)) dX7_move_31 ⟨Nat.le_of_ble_eq_true rfl, Nat.le_of_ble_eq_true rfl⟩) (fun H locs hH => ?_)
      refine lv_iconst (v := 1) hx hb dX7_move_34 (by decide) ?_
      refine lv_icmp_ne (tgt := 41) hx hb dX7_move_35 (by decide) (fun c3 => ?_) (fun c3 => ?_)
      · rw [if_neg c3] at hF
        refine lv_aload_n hx hb dX7_move_41 rfl (lv_at hl 0 rfl) ?_
        refine kb_get (v := .ref (g_acts 0)) hx hb hts hin7 hown hK hH 0 rfl rfl rfl 3 (by decide) (hts (.fieldLink RX7 33 "CockWar" "acts" "LCockWar$ActRow;") (List.mem_of_getElem? (i := 2) rfl)) (fun _ h9 => h9) rfl dX7_move_42 ?_
        refine lv_aload_n hx hb dX7_move_45 rfl (lv_at hl 0 rfl) ?_
        refine kb_get (v := .ref (g_now 0)) hx hb hts hin7 hown hK hH 0 rfl rfl rfl 1 (by decide) (hts (.fieldLink RX7 19 "CockWar" "now" "LCockWar$Hill;") (List.mem_of_getElem? (i := 1) rfl)) (fun _ h9 => h9) rfl dX7_move_46 ?_
        obtain ⟨q4, hq4⟩ : ∃ z, z = (f_X0_remember V_acts VH_this_acts V_now) := ⟨_, rfl⟩
        have hF := kAp_eq hF hq4
        refine kb_cv hH hA [7, 8, 9, 1, 2, 3, 4, 5, 6] (Wc := (w_O0 G g_acts gh_this_acts V_acts VH_this_acts ++ w_O2 G g_now V_now)) (Wc' := (w_O0 G g_acts gh_this_acts q4.1 q4.2 ++ w_O2 G g_now V_now)) (WS' := (w_O7 G g a_reader (g_now 0) a_air (g_acts 0) a_sights a_slots a_plan a_trial V ++ w_O2 G g_now V_now ++ w_O0 G g_acts gh_this_acts q4.1 q4.2)) rfl (by decide) rfl rfl (va_runVN (C := RX0) (As := [.ref (g_now 0)]) (rest := []) ⟨hx, hb, hml, hown, hts⟩ (c_X0_remember l G g_acts gh_this_acts V_acts VH_this_acts g_now V_now hq4.symm _) ⟨va_cnB 1 hts gX7_move_X0_remember_n154 rfl rfl rfl (kb_NM hN 37 rfl) (hts (.initialized RX0) (List.mem_of_getElem? (i := 22) rfl)) hd_X0_remember ⟨Nat.le_of_ble_eq_true rfl, Nat.le_of_ble_eq_true rfl⟩, (hts (.instanceMethod yX0_remember) (List.mem_of_getElem? (i := 21) rfl)), (hts (.selects RX0 yX0_remember yX0_remember) (List.mem_of_getElem? (i := 23) rfl))⟩ (kb_preV hH hK hN [7, 8, 9, 1, 2, 3, 4, 5, 6] rfl (by decide) 7 rfl rfl rfl rfl) rfl rfl hl.1 rfl (lv_room (Nat.le_of_ble_eq_true rfl)) dX7_move_49 ⟨Nat.le_of_ble_eq_true rfl, Nat.le_of_ble_eq_true rfl⟩) (fun H locs hH => ?_)
        refine lv_aload_n hx hb dX7_move_52 rfl (lv_at hl 0 rfl) ?_
        refine kb_get (v := .ref (g_now 0)) hx hb hts hin7 hown hK hH 0 rfl rfl rfl 1 (by decide) (hts (.fieldLink RX7 19 "CockWar" "now" "LCockWar$Hill;") (List.mem_of_getElem? (i := 1) rfl)) (fun _ h9 => h9) rfl dX7_move_53 ?_
        refine kb_getN (v := .ref (g_now 2)) hx hb hts hin2 hown hK hH 1 rfl rfl rfl 1 (by decide) (kb_NF hN 4 rfl) (fun _ h9 => h9) rfl dX7_move_56 ?_
        refine lv_iload_n hx hb dX7_move_59 rfl (lv_at hl 1 rfl) ?_
        refine kb_ci hH hA [3] (Wc := ([b_arr G (g_now 2) 6 (V_now.1 1)])) (Wc' := ([b_arr G (g_now 2) 6 (V_now.1 1)])) (WS' := (w_O7 G g a_reader (g_now 0) a_air (g_acts 0) a_sights a_slots a_plan a_trial V ++ w_O2 G g_now V_now ++ w_O0 G g_acts gh_this_acts q4.1 q4.2)) rfl (by decide) rfl rfl (va_runS (As := [.ref (g_now 2), .int x0]) (rest := []) ⟨hx, hb, hml, hown, hts⟩ (c_X7_at l G (g_now 2) 6 (V_now.1 1) x0 (by decide) rfl _) (va_cwS 2 hts gX7_move_X7_at rfl rfl rfl hd_X7_at ⟨Nat.le_of_ble_eq_true rfl, Nat.le_of_ble_eq_true rfl⟩) (kb_preS hH hK hN [3] rfl (by decide)) rfl rfl hl.1 rfl (lv_room (Nat.le_of_ble_eq_true rfl)) dX7_move_60 ⟨Nat.le_of_ble_eq_true rfl, Nat.le_of_ble_eq_true rfl⟩) (fun H locs hH => ?_)
        refine lv_istore_n (lv' := [(3, .int (f_X7_at 6 (V_now.1 1) x0)), (0, .ref (g 0)), (1, .int x0), (2, .int x1)]) hx hb dX7_move_63 rfl hl (by decide) rfl (fun ls hl => ?_)
        refine lv_aload_n hx hb dX7_move_64 rfl (lv_at hl 1 rfl) ?_
        refine kb_get (v := .ref (g_now 0)) hx hb hts hin7 hown hK hH 0 rfl rfl rfl 1 (by decide) (hts (.fieldLink RX7 19 "CockWar" "now" "LCockWar$Hill;") (List.mem_of_getElem? (i := 1) rfl)) (fun _ h9 => h9) rfl dX7_move_65 ?_
        refine kb_getN (v := .ref (g_now 2)) hx hb hts hin2 hown hK hH 1 rfl rfl rfl 1 (by decide) (kb_NF hN 4 rfl) (fun _ h9 => h9) rfl dX7_move_68 ?_
        refine lv_iload_n hx hb dX7_move_71 rfl (lv_at hl 2 rfl) ?_
        refine lv_iload_n hx hb dX7_move_72 rfl (lv_at hl 3 rfl) ?_
        obtain ⟨q5, hq5⟩ : ∃ z, z = (f_X7_put 6 (V_now.1 1) x0 x1) := ⟨_, rfl⟩
        have hF := kAp_eq hF hq5
        refine kb_cv hH hA [3] (Wc := ([b_arr G (g_now 2) 6 (V_now.1 1)])) (Wc' := ([b_arr G (g_now 2) 6 q5])) (WS' := (w_O7 G g a_reader (g_now 0) a_air (g_acts 0) a_sights a_slots a_plan a_trial V ++ w_O2 G g_now (oA V_now 1 q5) ++ w_O0 G g_acts gh_this_acts q4.1 q4.2)) rfl (by decide) rfl rfl (va_runS (As := [.ref (g_now 2), .int x0, .int x1]) (rest := []) ⟨hx, hb, hml, hown, hts⟩ (c_X7_put l G (g_now 2) 6 (V_now.1 1) x0 x1 (by decide) hq5.symm _) (va_cwS 3 hts gX7_move_X7_put rfl rfl rfl hd_X7_put ⟨Nat.le_of_ble_eq_true rfl, Nat.le_of_ble_eq_true rfl⟩) (kb_preS hH hK hN [3] rfl (by decide)) rfl rfl hl.1 rfl (lv_room (Nat.le_of_ble_eq_true rfl)) dX7_move_73 ⟨Nat.le_of_ble_eq_true rfl, Nat.le_of_ble_eq_true rfl⟩) (fun H locs hH => ?_)
        refine lv_iload_n hx hb dX7_move_76 rfl (lv_at hl 0 rfl) ?_
        subst hF
        exact kb_iret hx hb hr hH rfl rfl dX7_move_77 hlocks
      · rw [if_pos c3] at hF
        refine lv_bipush (v := -3) hx hb dX7_move_38 (by decide) ?_
        subst hF
        exact kb_iret hx hb hr hH rfl rfl dX7_move_40 hlocks
    · rw [if_pos c2] at hF
      refine lv_bipush (v := -2) hx hb dX7_move_20 (by decide) ?_
      subst hF
      exact kb_iret hx hb hr hH rfl rfl dX7_move_22 hlocks
  · rw [if_pos c1] at hF
    refine lv_iconst (v := -1) hx hb dX7_move_11 (by decide) ?_
    subst hF
    exact kb_iret hx hb hr hH rfl rfl dX7_move_12 hlocks
def f_X7_grease (V : OV) (V_now : OV) (V_acts : OV) (VH_this_acts : Nat → OV) (x0 : Int32) : (Int32 × OV × OV × (Nat → OV)) := (if (f_X2_hasCock V_now x0) = 0 then ((-1 : Int32), V_now, V_acts, VH_this_acts) else (if (f_X7_at 6 (V_now.1 3) x0) = 0 then ((-3 : Int32), V_now, V_acts, VH_this_acts) else (kAp (f_X0_remember V_acts VH_this_acts V_now) (fun q3 => (kAp (f_X7_put 6 (V_now.1 3) x0 (0 : Int32)) (fun q4 => ((f_X7_at 6 (V_now.1 3) x0), (oA V_now 3 q4), q3.1, q3.2)))))))
set_option maxHeartbeats 4000000 in
set_option maxRecDepth 100000 in
theorem c_X7_grease (l : Launch) (G : Ge) (g : Nat → Nat) (a_reader : Nat) (a_air : Nat) (a_sights : Nat) (a_slots : Nat) (a_plan : Nat) (a_trial : Nat) (V : OV) (g_now : Nat → Nat) (V_now : OV) (g_acts : Nat → Nat) (gh_this_acts : Nat → Nat → Nat) (V_acts : OV) (VH_this_acts : Nat → OV) (x0 : Int32) {F : (Int32 × OV × OV × (Nat → OV))} (hF : f_X7_grease V V_now V_acts VH_this_acts x0 = F) : CI l yX7_grease wsX7_grease { frames := 3, cells := 0, slots := 0, locals := 65 } [.ref (g 0), .int x0] G (w_O7 G g a_reader (g_now 0) a_air (g_acts 0) a_sights a_slots a_plan a_trial V ++ w_O2 G g_now V_now ++ w_O0 G g_acts gh_this_acts V_acts VH_this_acts) (w_O7 G g a_reader (g_now 0) a_air (g_acts 0) a_sights a_slots a_plan a_trial V ++ w_O2 G g_now F.2.1 ++ w_O0 G g_acts gh_this_acts F.2.2.1 F.2.2.2) F.1 := by
  intro sz
  refine Met.ofW (cc := cX7_grease) (maxL := 3) (ret := (some .int)) (by decide) rfl ?_
  intro p e s m args below meth c s₁ B hml hv
  obtain ⟨rfl, hpre⟩ := hv
  obtain ⟨hsz, hH, hK, hN, hA⟩ := kb_start hpre
  subst hsz
  have hx := B.exec
  have hb := B.bytes
  have hr := B.returns
  have hts := atoms_spec (ws := wsX7_grease) B.pre
  have hown : s.vm.findClass RX7 = some m.cls := findClass_of_methodNamed B.named
  have hlocks := B.notSynchronized
  generalize hAe : va_A (List.flatten (w_O7 G g a_reader (g_now 0) a_air (g_acts 0) a_sights a_slots a_plan a_trial V ++ w_O2 G g_now V_now ++ w_O0 G g_acts gh_this_acts V_acts VH_this_acts)) s.heap.size = A at hH hA ⊢
  have hl := lv_entry ([.ref (g 0), .int x0]) (n := 3) (Nat.le_of_ble_eq_true rfl)
  rw [lg_entry_eq]
  generalize (lg_sl ([.ref (g 0), .int x0]) ++ List.replicate (3 - (lg_sl ([.ref (g 0), .int x0])).length) Slot.unset).toArray = ls at hl ⊢
  have hl : lv_has ls 3 [(0, .ref (g 0)), (1, .int x0)] := hl
  have hH : HP G A s.heap (w_O7 G g a_reader (g_now 0) a_air (g_acts 0) a_sights a_slots a_plan a_trial V ++ w_O2 G g_now V_now ++ w_O0 G g_acts gh_this_acts V_acts VH_this_acts) s.heap [] := hH
  have hin2 : ∀ w ∈ u_ws RX2 TX2 11, w ∈ wsX7_grease := fun w h => List.mem_cons_of_mem _ (List.mem_append_left _ (List.mem_append_right _ h))
  have hin7 : ∀ w ∈ u_ws RX7 TX7 9, w ∈ wsX7_grease := fun w h => List.mem_cons_of_mem _ (List.mem_append_left _ (List.mem_append_left _ (List.mem_append_right _ h)))
  have hF : (if (f_X2_hasCock V_now x0) = 0 then ((-1 : Int32), V_now, V_acts, VH_this_acts) else (if (f_X7_at 6 (V_now.1 3) x0) = 0 then ((-3 : Int32), V_now, V_acts, VH_this_acts) else (kAp (f_X0_remember V_acts VH_this_acts V_now) (fun q3 => (kAp (f_X7_put 6 (V_now.1 3) x0 (0 : Int32)) (fun q4 => ((f_X7_at 6 (V_now.1 3) x0), (oA V_now 3 q4), q3.1, q3.2))))))) = F := hF
  refine lv_aload_n hx hb dX7_grease_0 rfl (lv_at hl 0 rfl) ?_
  refine kb_get (v := .ref (g_now 0)) hx hb hts hin7 hown hK hH 0 rfl rfl rfl 1 (by decide) (hts (.fieldLink RX7 19 "CockWar" "now" "LCockWar$Hill;") (List.mem_of_getElem? (i := 1) rfl)) (fun _ h9 => h9) rfl dX7_grease_1 ?_
  refine lv_iload_n hx hb dX7_grease_4 rfl (lv_at hl 1 rfl) ?_
  refine kb_ci hH hA [1, 2, 3, 4, 5, 6] (Wc := (w_O2 G g_now V_now)) (Wc' := (w_O2 G g_now V_now)) (WS' := (w_O7 G g a_reader (g_now 0) a_air (g_acts 0) a_sights a_slots a_plan a_trial V ++ w_O2 G g_now V_now ++ w_O0 G g_acts gh_this_acts V_acts VH_this_acts)) rfl (by decide) rfl rfl (va_runVN (C := RX2) (As := [.int x0]) (rest := []) ⟨hx, hb, hml, hown, hts⟩ (c_X2_hasCock l G g_now V_now x0 rfl _) ⟨va_cnB 1 hts gX7_grease_X2_hasCock_n110 rfl rfl rfl (kb_NM hN 31 rfl) (hts (.initialized RX2) (List.mem_of_getElem? (i := 4) rfl)) hd_X2_hasCock ⟨Nat.le_of_ble_eq_true rfl, Nat.le_of_ble_eq_true rfl⟩, (hts (.instanceMethod yX2_hasCock) (List.mem_of_getElem? (i := 3) rfl)), (hts (.selects RX2 yX2_hasCock yX2_hasCock) (List.mem_of_getElem? (i := 5) rfl))⟩ (kb_preV hH hK hN [1, 2, 3, 4, 5, 6] rfl (by decide) 1 rfl rfl rfl rfl) rfl rfl hl.1 rfl (lv_room (Nat.le_of_ble_eq_true rfl)) dX7_grease_5 ⟨Nat.le_of_ble_eq_true rfl, Nat.le_of_ble_eq_true rfl⟩) (fun H locs hH => ?_)
  refine lv_if_ne (tgt := 13) hx hb dX7_grease_8 (by decide) (fun c1 => ?_) (fun c1 => ?_)
  · rw [if_neg c1] at hF
    refine lv_aload_n hx hb dX7_grease_13 rfl (lv_at hl 0 rfl) ?_
    refine kb_get (v := .ref (g_now 0)) hx hb hts hin7 hown hK hH 0 rfl rfl rfl 1 (by decide) (hts (.fieldLink RX7 19 "CockWar" "now" "LCockWar$Hill;") (List.mem_of_getElem? (i := 1) rfl)) (fun _ h9 => h9) rfl dX7_grease_14 ?_
    refine kb_getN (v := .ref (g_now 4)) hx hb hts hin2 hown hK hH 1 rfl rfl rfl 3 (by decide) (kb_NF hN 6 rfl) (fun _ h9 => h9) rfl dX7_grease_17 ?_
    refine lv_iload_n hx hb dX7_grease_20 rfl (lv_at hl 1 rfl) ?_
    refine kb_ci hH hA [5] (Wc := ([b_arr G (g_now 4) 6 (V_now.1 3)])) (Wc' := ([b_arr G (g_now 4) 6 (V_now.1 3)])) (WS' := (w_O7 G g a_reader (g_now 0) a_air (g_acts 0) a_sights a_slots a_plan a_trial V ++ w_O2 G g_now V_now ++ w_O0 G g_acts gh_this_acts V_acts VH_this_acts)) rfl (by decide) rfl rfl (va_runS (As := [.ref (g_now 4), .int x0]) (rest := []) ⟨hx, hb, hml, hown, hts⟩ (c_X7_at l G (g_now 4) 6 (V_now.1 3) x0 (by decide) rfl _) (va_cwS 2 hts gX7_grease_X7_at rfl rfl rfl hd_X7_at ⟨Nat.le_of_ble_eq_true rfl, Nat.le_of_ble_eq_true rfl⟩) (kb_preS hH hK hN [5] rfl (by decide)) rfl rfl hl.1 rfl (lv_room (Nat.le_of_ble_eq_true rfl)) dX7_grease_21 ⟨Nat.le_of_ble_eq_true rfl, Nat.le_of_ble_eq_true rfl⟩) (fun H locs hH => ?_)
    refine lv_istore_n (lv' := [(2, .int (f_X7_at 6 (V_now.1 3) x0)), (0, .ref (g 0)), (1, .int x0)]) hx hb dX7_grease_24 rfl hl (by decide) rfl (fun ls hl => ?_)
    refine lv_iload_n hx hb dX7_grease_25 rfl (lv_at hl 0 rfl) ?_
    refine lv_if_ne (tgt := 32) hx hb dX7_grease_26 (by decide) (fun c2 => ?_) (fun c2 => ?_)
    · rw [if_neg c2] at hF
      refine lv_aload_n hx hb dX7_grease_32 rfl (lv_at hl 1 rfl) ?_
      refine kb_get (v := .ref (g_acts 0)) hx hb hts hin7 hown hK hH 0 rfl rfl rfl 3 (by decide) (hts (.fieldLink RX7 33 "CockWar" "acts" "LCockWar$ActRow;") (List.mem_of_getElem? (i := 2) rfl)) (fun _ h9 => h9) rfl dX7_grease_33 ?_
      refine lv_aload_n hx hb dX7_grease_36 rfl (lv_at hl 1 rfl) ?_
      refine kb_get (v := .ref (g_now 0)) hx hb hts hin7 hown hK hH 0 rfl rfl rfl 1 (by decide) (hts (.fieldLink RX7 19 "CockWar" "now" "LCockWar$Hill;") (List.mem_of_getElem? (i := 1) rfl)) (fun _ h9 => h9) rfl dX7_grease_37 ?_
      obtain ⟨q3, hq3⟩ : ∃ z, z = (f_X0_remember V_acts VH_this_acts V_now) := ⟨_, rfl⟩
      have hF := kAp_eq hF hq3
      refine kb_cv hH hA [7, 8, 9, 1, 2, 3, 4, 5, 6] (Wc := (w_O0 G g_acts gh_this_acts V_acts VH_this_acts ++ w_O2 G g_now V_now)) (Wc' := (w_O0 G g_acts gh_this_acts q3.1 q3.2 ++ w_O2 G g_now V_now)) (WS' := (w_O7 G g a_reader (g_now 0) a_air (g_acts 0) a_sights a_slots a_plan a_trial V ++ w_O2 G g_now V_now ++ w_O0 G g_acts gh_this_acts q3.1 q3.2)) rfl (by decide) rfl rfl (va_runVN (C := RX0) (As := [.ref (g_now 0)]) (rest := []) ⟨hx, hb, hml, hown, hts⟩ (c_X0_remember l G g_acts gh_this_acts V_acts VH_this_acts g_now V_now hq3.symm _) ⟨va_cnB 1 hts gX7_grease_X0_remember_n154 rfl rfl rfl (kb_NM hN 37 rfl) (hts (.initialized RX0) (List.mem_of_getElem? (i := 13) rfl)) hd_X0_remember ⟨Nat.le_of_ble_eq_true rfl, Nat.le_of_ble_eq_true rfl⟩, (hts (.instanceMethod yX0_remember) (List.mem_of_getElem? (i := 12) rfl)), (hts (.selects RX0 yX0_remember yX0_remember) (List.mem_of_getElem? (i := 14) rfl))⟩ (kb_preV hH hK hN [7, 8, 9, 1, 2, 3, 4, 5, 6] rfl (by decide) 7 rfl rfl rfl rfl) rfl rfl hl.1 rfl (lv_room (Nat.le_of_ble_eq_true rfl)) dX7_grease_40 ⟨Nat.le_of_ble_eq_true rfl, Nat.le_of_ble_eq_true rfl⟩) (fun H locs hH => ?_)
      refine lv_aload_n hx hb dX7_grease_43 rfl (lv_at hl 1 rfl) ?_
      refine kb_get (v := .ref (g_now 0)) hx hb hts hin7 hown hK hH 0 rfl rfl rfl 1 (by decide) (hts (.fieldLink RX7 19 "CockWar" "now" "LCockWar$Hill;") (List.mem_of_getElem? (i := 1) rfl)) (fun _ h9 => h9) rfl dX7_grease_44 ?_
      refine kb_getN (v := .ref (g_now 4)) hx hb hts hin2 hown hK hH 1 rfl rfl rfl 3 (by decide) (kb_NF hN 6 rfl) (fun _ h9 => h9) rfl dX7_grease_47 ?_
      refine lv_iload_n hx hb dX7_grease_50 rfl (lv_at hl 2 rfl) ?_
      refine lv_iconst (v := 0) hx hb dX7_grease_51 (by decide) ?_
      obtain ⟨q4, hq4⟩ : ∃ z, z = (f_X7_put 6 (V_now.1 3) x0 (0 : Int32)) := ⟨_, rfl⟩
      have hF := kAp_eq hF hq4
      refine kb_cv hH hA [5] (Wc := ([b_arr G (g_now 4) 6 (V_now.1 3)])) (Wc' := ([b_arr G (g_now 4) 6 q4])) (WS' := (w_O7 G g a_reader (g_now 0) a_air (g_acts 0) a_sights a_slots a_plan a_trial V ++ w_O2 G g_now (oA V_now 3 q4) ++ w_O0 G g_acts gh_this_acts q3.1 q3.2)) rfl (by decide) rfl rfl (va_runS (As := [.ref (g_now 4), .int x0, .int (0 : Int32)]) (rest := []) ⟨hx, hb, hml, hown, hts⟩ (c_X7_put l G (g_now 4) 6 (V_now.1 3) x0 (0 : Int32) (by decide) hq4.symm _) (va_cwS 3 hts gX7_grease_X7_put rfl rfl rfl hd_X7_put ⟨Nat.le_of_ble_eq_true rfl, Nat.le_of_ble_eq_true rfl⟩) (kb_preS hH hK hN [5] rfl (by decide)) rfl rfl hl.1 rfl (lv_room (Nat.le_of_ble_eq_true rfl)) dX7_grease_52 ⟨Nat.le_of_ble_eq_true rfl, Nat.le_of_ble_eq_true rfl⟩) (fun H locs hH => ?_)
      refine lv_iload_n hx hb dX7_grease_55 rfl (lv_at hl 0 rfl) ?_
      subst hF
      exact kb_iret hx hb hr hH rfl rfl dX7_grease_56 hlocks
    · rw [if_pos c2] at hF
      refine lv_bipush (v := -3) hx hb dX7_grease_29 (by decide) ?_
      subst hF
      exact kb_iret hx hb hr hH rfl rfl dX7_grease_31 hlocks
  · rw [if_pos c1] at hF
    refine lv_iconst (v := -1) hx hb dX7_grease_11 (by decide) ?_
    subst hF
    exact kb_iret hx hb hr hH rfl rfl dX7_grease_12 hlocks
def f_X7_capture (V : OV) (V_now : OV) (V_acts : OV) (VH_this_acts : Nat → OV) (x0 : Int32) : (Int32 × OV × OV × (Nat → OV)) := (if (f_X2_hasCock V_now x0) = 0 then ((-1 : Int32), V_now, V_acts, VH_this_acts) else (kAp (f_X0_remember V_acts VH_this_acts V_now) (fun q2 => ((f_X7_bit ((V_now.2.1 6) ^^^ ((1 : Int32) <<< (x0 &&& 31))) x0), (oI V_now 6 ((V_now.2.1 6) ^^^ ((1 : Int32) <<< (x0 &&& 31)))), q2.1, q2.2))))
set_option maxHeartbeats 4000000 in
set_option maxRecDepth 100000 in
theorem c_X7_capture (l : Launch) (G : Ge) (g : Nat → Nat) (a_reader : Nat) (a_air : Nat) (a_sights : Nat) (a_slots : Nat) (a_plan : Nat) (a_trial : Nat) (V : OV) (g_now : Nat → Nat) (V_now : OV) (g_acts : Nat → Nat) (gh_this_acts : Nat → Nat → Nat) (V_acts : OV) (VH_this_acts : Nat → OV) (x0 : Int32) {F : (Int32 × OV × OV × (Nat → OV))} (hF : f_X7_capture V V_now V_acts VH_this_acts x0 = F) : CI l yX7_capture wsX7_capture { frames := 3, cells := 0, slots := 0, locals := 65 } [.ref (g 0), .int x0] G (w_O7 G g a_reader (g_now 0) a_air (g_acts 0) a_sights a_slots a_plan a_trial V ++ w_O2 G g_now V_now ++ w_O0 G g_acts gh_this_acts V_acts VH_this_acts) (w_O7 G g a_reader (g_now 0) a_air (g_acts 0) a_sights a_slots a_plan a_trial V ++ w_O2 G g_now F.2.1 ++ w_O0 G g_acts gh_this_acts F.2.2.1 F.2.2.2) F.1 := by
  intro sz
  refine Met.ofW (cc := cX7_capture) (maxL := 2) (ret := (some .int)) (by decide) rfl ?_
  intro p e s m args below meth c s₁ B hml hv
  obtain ⟨rfl, hpre⟩ := hv
  obtain ⟨hsz, hH, hK, hN, hA⟩ := kb_start hpre
  subst hsz
  have hx := B.exec
  have hb := B.bytes
  have hr := B.returns
  have hts := atoms_spec (ws := wsX7_capture) B.pre
  have hown : s.vm.findClass RX7 = some m.cls := findClass_of_methodNamed B.named
  have hlocks := B.notSynchronized
  generalize hAe : va_A (List.flatten (w_O7 G g a_reader (g_now 0) a_air (g_acts 0) a_sights a_slots a_plan a_trial V ++ w_O2 G g_now V_now ++ w_O0 G g_acts gh_this_acts V_acts VH_this_acts)) s.heap.size = A at hH hA ⊢
  have hl := lv_entry ([.ref (g 0), .int x0]) (n := 2) (Nat.le_of_ble_eq_true rfl)
  rw [lg_entry_eq]
  generalize (lg_sl ([.ref (g 0), .int x0]) ++ List.replicate (2 - (lg_sl ([.ref (g 0), .int x0])).length) Slot.unset).toArray = ls at hl ⊢
  have hl : lv_has ls 2 [(0, .ref (g 0)), (1, .int x0)] := hl
  have hH : HP G A s.heap (w_O7 G g a_reader (g_now 0) a_air (g_acts 0) a_sights a_slots a_plan a_trial V ++ w_O2 G g_now V_now ++ w_O0 G g_acts gh_this_acts V_acts VH_this_acts) s.heap [] := hH
  have hin2 : ∀ w ∈ u_ws RX2 TX2 11, w ∈ wsX7_capture := fun w h => List.mem_cons_of_mem _ (List.mem_append_left _ (List.mem_append_right _ h))
  have hin7 : ∀ w ∈ u_ws RX7 TX7 9, w ∈ wsX7_capture := fun w h => List.mem_cons_of_mem _ (List.mem_append_left _ (List.mem_append_left _ (List.mem_append_right _ h)))
  have hF : (if (f_X2_hasCock V_now x0) = 0 then ((-1 : Int32), V_now, V_acts, VH_this_acts) else (kAp (f_X0_remember V_acts VH_this_acts V_now) (fun q2 => ((f_X7_bit ((V_now.2.1 6) ^^^ ((1 : Int32) <<< (x0 &&& 31))) x0), (oI V_now 6 ((V_now.2.1 6) ^^^ ((1 : Int32) <<< (x0 &&& 31)))), q2.1, q2.2)))) = F := hF
  refine lv_aload_n hx hb dX7_capture_0 rfl (lv_at hl 0 rfl) ?_
  refine kb_get (v := .ref (g_now 0)) hx hb hts hin7 hown hK hH 0 rfl rfl rfl 1 (by decide) (hts (.fieldLink RX7 19 "CockWar" "now" "LCockWar$Hill;") (List.mem_of_getElem? (i := 1) rfl)) (fun _ h9 => h9) rfl dX7_capture_1 ?_
  refine lv_iload_n hx hb dX7_capture_4 rfl (lv_at hl 1 rfl) ?_
  refine kb_ci hH hA [1, 2, 3, 4, 5, 6] (Wc := (w_O2 G g_now V_now)) (Wc' := (w_O2 G g_now V_now)) (WS' := (w_O7 G g a_reader (g_now 0) a_air (g_acts 0) a_sights a_slots a_plan a_trial V ++ w_O2 G g_now V_now ++ w_O0 G g_acts gh_this_acts V_acts VH_this_acts)) rfl (by decide) rfl rfl (va_runVN (C := RX2) (As := [.int x0]) (rest := []) ⟨hx, hb, hml, hown, hts⟩ (c_X2_hasCock l G g_now V_now x0 rfl _) ⟨va_cnB 1 hts gX7_capture_X2_hasCock_n110 rfl rfl rfl (kb_NM hN 31 rfl) (hts (.initialized RX2) (List.mem_of_getElem? (i := 4) rfl)) hd_X2_hasCock ⟨Nat.le_of_ble_eq_true rfl, Nat.le_of_ble_eq_true rfl⟩, (hts (.instanceMethod yX2_hasCock) (List.mem_of_getElem? (i := 3) rfl)), (hts (.selects RX2 yX2_hasCock yX2_hasCock) (List.mem_of_getElem? (i := 5) rfl))⟩ (kb_preV hH hK hN [1, 2, 3, 4, 5, 6] rfl (by decide) 1 rfl rfl rfl rfl) rfl rfl hl.1 rfl (lv_room (Nat.le_of_ble_eq_true rfl)) dX7_capture_5 ⟨Nat.le_of_ble_eq_true rfl, Nat.le_of_ble_eq_true rfl⟩) (fun H locs hH => ?_)
  refine lv_if_ne (tgt := 13) hx hb dX7_capture_8 (by decide) (fun c1 => ?_) (fun c1 => ?_)
  · rw [if_neg c1] at hF
    refine lv_aload_n hx hb dX7_capture_13 rfl (lv_at hl 0 rfl) ?_
    refine kb_get (v := .ref (g_acts 0)) hx hb hts hin7 hown hK hH 0 rfl rfl rfl 3 (by decide) (hts (.fieldLink RX7 33 "CockWar" "acts" "LCockWar$ActRow;") (List.mem_of_getElem? (i := 2) rfl)) (fun _ h9 => h9) rfl dX7_capture_14 ?_
    refine lv_aload_n hx hb dX7_capture_17 rfl (lv_at hl 0 rfl) ?_
    refine kb_get (v := .ref (g_now 0)) hx hb hts hin7 hown hK hH 0 rfl rfl rfl 1 (by decide) (hts (.fieldLink RX7 19 "CockWar" "now" "LCockWar$Hill;") (List.mem_of_getElem? (i := 1) rfl)) (fun _ h9 => h9) rfl dX7_capture_18 ?_
    obtain ⟨q2, hq2⟩ : ∃ z, z = (f_X0_remember V_acts VH_this_acts V_now) := ⟨_, rfl⟩
    have hF := kAp_eq hF hq2
    refine kb_cv hH hA [7, 8, 9, 1, 2, 3, 4, 5, 6] (Wc := (w_O0 G g_acts gh_this_acts V_acts VH_this_acts ++ w_O2 G g_now V_now)) (Wc' := (w_O0 G g_acts gh_this_acts q2.1 q2.2 ++ w_O2 G g_now V_now)) (WS' := (w_O7 G g a_reader (g_now 0) a_air (g_acts 0) a_sights a_slots a_plan a_trial V ++ w_O2 G g_now V_now ++ w_O0 G g_acts gh_this_acts q2.1 q2.2)) rfl (by decide) rfl rfl (va_runVN (C := RX0) (As := [.ref (g_now 0)]) (rest := []) ⟨hx, hb, hml, hown, hts⟩ (c_X0_remember l G g_acts gh_this_acts V_acts VH_this_acts g_now V_now hq2.symm _) ⟨va_cnB 1 hts gX7_capture_X0_remember_n154 rfl rfl rfl (kb_NM hN 37 rfl) (hts (.initialized RX0) (List.mem_of_getElem? (i := 9) rfl)) hd_X0_remember ⟨Nat.le_of_ble_eq_true rfl, Nat.le_of_ble_eq_true rfl⟩, (hts (.instanceMethod yX0_remember) (List.mem_of_getElem? (i := 8) rfl)), (hts (.selects RX0 yX0_remember yX0_remember) (List.mem_of_getElem? (i := 10) rfl))⟩ (kb_preV hH hK hN [7, 8, 9, 1, 2, 3, 4, 5, 6] rfl (by decide) 7 rfl rfl rfl rfl) rfl rfl hl.1 rfl (lv_room (Nat.le_of_ble_eq_true rfl)) dX7_capture_21 ⟨Nat.le_of_ble_eq_true rfl, Nat.le_of_ble_eq_true rfl⟩) (fun H locs hH => ?_)
    refine lv_aload_n hx hb dX7_capture_24 rfl (lv_at hl 0 rfl) ?_
    refine kb_get (v := .ref (g_now 0)) hx hb hts hin7 hown hK hH 0 rfl rfl rfl 1 (by decide) (hts (.fieldLink RX7 19 "CockWar" "now" "LCockWar$Hill;") (List.mem_of_getElem? (i := 1) rfl)) (fun _ h9 => h9) rfl dX7_capture_25 ?_
    refine lv_dup hx hb dX7_capture_28 rfl ?_
    refine kb_getN (v := .int (V_now.2.1 6)) hx hb hts hin2 hown hK hH 1 rfl rfl rfl 6 (by decide) (kb_NF hN 12 rfl) (fun _ h9 => h9) rfl dX7_capture_29 ?_
    refine lv_iconst (v := 1) hx hb dX7_capture_32 (by decide) ?_
    refine lv_iload_n hx hb dX7_capture_33 rfl (lv_at hl 1 rfl) ?_
    refine lv_ishl hx hb dX7_capture_34 ?_
    refine lv_ixor hx hb dX7_capture_35 ?_
    refine kb_putN (ty := .int) (v := .int ((V_now.2.1 6) ^^^ ((1 : Int32) <<< (x0 &&& 31)))) (WS' := (w_O7 G g a_reader (g_now 0) a_air (g_acts 0) a_sights a_slots a_plan a_trial V ++ w_O2 G g_now (oI V_now 6 ((V_now.2.1 6) ^^^ ((1 : Int32) <<< (x0 &&& 31)))) ++ w_O0 G g_acts gh_this_acts q2.1 q2.2)) hx hb hts hin2 tyX2 tyX2_ok nmX2 hown hK hH 1 rfl rfl 6 (by decide) (kb_NF hN 12 rfl) (fun _ h9 => h9) rfl (by decide +kernel) rfl rfl (Nat.le_of_ble_eq_true rfl) rfl dX7_capture_36 (fun H locs hH => ?_)
    refine lv_aload_n hx hb dX7_capture_39 rfl (lv_at hl 0 rfl) ?_
    refine kb_get (v := .ref (g_now 0)) hx hb hts hin7 hown hK hH 0 rfl rfl rfl 1 (by decide) (hts (.fieldLink RX7 19 "CockWar" "now" "LCockWar$Hill;") (List.mem_of_getElem? (i := 1) rfl)) (fun _ h9 => h9) rfl dX7_capture_40 ?_
    refine kb_getN (v := .int ((V_now.2.1 6) ^^^ ((1 : Int32) <<< (x0 &&& 31)))) hx hb hts hin2 hown hK hH 1 rfl rfl rfl 6 (by decide) (kb_NF hN 12 rfl) (fun _ h9 => h9) rfl dX7_capture_43 ?_
    refine lv_iload_n hx hb dX7_capture_46 rfl (lv_at hl 1 rfl) ?_
    refine kb_ci hH hA [] (Wc := ([] : List va_W)) (Wc' := ([] : List va_W)) (WS' := (w_O7 G g a_reader (g_now 0) a_air (g_acts 0) a_sights a_slots a_plan a_trial V ++ w_O2 G g_now (oI V_now 6 ((V_now.2.1 6) ^^^ ((1 : Int32) <<< (x0 &&& 31)))) ++ w_O0 G g_acts gh_this_acts q2.1 q2.2)) rfl (by decide) rfl rfl (va_runS (As := [.int ((V_now.2.1 6) ^^^ ((1 : Int32) <<< (x0 &&& 31))), .int x0]) (rest := []) ⟨hx, hb, hml, hown, hts⟩ (c_X7_bit l G ((V_now.2.1 6) ^^^ ((1 : Int32) <<< (x0 &&& 31))) x0 rfl _) (va_cwS 2 hts gX7_capture_X7_bit rfl rfl rfl hd_X7_bit ⟨Nat.le_of_ble_eq_true rfl, Nat.le_of_ble_eq_true rfl⟩) (kb_preS hH hK hN [] rfl (by decide)) rfl rfl hl.1 rfl (lv_room (Nat.le_of_ble_eq_true rfl)) dX7_capture_47 ⟨Nat.le_of_ble_eq_true rfl, Nat.le_of_ble_eq_true rfl⟩) (fun H locs hH => ?_)
    subst hF
    exact kb_iret hx hb hr hH rfl rfl dX7_capture_50 hlocks
  · rw [if_pos c1] at hF
    refine lv_iconst (v := -1) hx hb dX7_capture_11 (by decide) ?_
    subst hF
    exact kb_iret hx hb hr hH rfl rfl dX7_capture_12 hlocks
def f_X7_hold (V : OV) (V_now : OV) (V_acts : OV) (VH_this_acts : Nat → OV) (x0 : Int32) : (Int32 × OV × OV × (Nat → OV)) := (if (f_X2_hasCock V_now x0) = 0 then ((-1 : Int32), V_now, V_acts, VH_this_acts) else (kAp (f_X0_remember V_acts VH_this_acts V_now) (fun q2 => ((f_X7_bit ((V_now.2.1 8) ^^^ ((1 : Int32) <<< (x0 &&& 31))) x0), (oI V_now 8 ((V_now.2.1 8) ^^^ ((1 : Int32) <<< (x0 &&& 31)))), q2.1, q2.2))))
set_option maxHeartbeats 4000000 in
set_option maxRecDepth 100000 in
theorem c_X7_hold (l : Launch) (G : Ge) (g : Nat → Nat) (a_reader : Nat) (a_air : Nat) (a_sights : Nat) (a_slots : Nat) (a_plan : Nat) (a_trial : Nat) (V : OV) (g_now : Nat → Nat) (V_now : OV) (g_acts : Nat → Nat) (gh_this_acts : Nat → Nat → Nat) (V_acts : OV) (VH_this_acts : Nat → OV) (x0 : Int32) {F : (Int32 × OV × OV × (Nat → OV))} (hF : f_X7_hold V V_now V_acts VH_this_acts x0 = F) : CI l yX7_hold wsX7_hold { frames := 3, cells := 0, slots := 0, locals := 65 } [.ref (g 0), .int x0] G (w_O7 G g a_reader (g_now 0) a_air (g_acts 0) a_sights a_slots a_plan a_trial V ++ w_O2 G g_now V_now ++ w_O0 G g_acts gh_this_acts V_acts VH_this_acts) (w_O7 G g a_reader (g_now 0) a_air (g_acts 0) a_sights a_slots a_plan a_trial V ++ w_O2 G g_now F.2.1 ++ w_O0 G g_acts gh_this_acts F.2.2.1 F.2.2.2) F.1 := by
  intro sz
  refine Met.ofW (cc := cX7_hold) (maxL := 2) (ret := (some .int)) (by decide) rfl ?_
  intro p e s m args below meth c s₁ B hml hv
  obtain ⟨rfl, hpre⟩ := hv
  obtain ⟨hsz, hH, hK, hN, hA⟩ := kb_start hpre
  subst hsz
  have hx := B.exec
  have hb := B.bytes
  have hr := B.returns
  have hts := atoms_spec (ws := wsX7_hold) B.pre
  have hown : s.vm.findClass RX7 = some m.cls := findClass_of_methodNamed B.named
  have hlocks := B.notSynchronized
  generalize hAe : va_A (List.flatten (w_O7 G g a_reader (g_now 0) a_air (g_acts 0) a_sights a_slots a_plan a_trial V ++ w_O2 G g_now V_now ++ w_O0 G g_acts gh_this_acts V_acts VH_this_acts)) s.heap.size = A at hH hA ⊢
  have hl := lv_entry ([.ref (g 0), .int x0]) (n := 2) (Nat.le_of_ble_eq_true rfl)
  rw [lg_entry_eq]
  generalize (lg_sl ([.ref (g 0), .int x0]) ++ List.replicate (2 - (lg_sl ([.ref (g 0), .int x0])).length) Slot.unset).toArray = ls at hl ⊢
  have hl : lv_has ls 2 [(0, .ref (g 0)), (1, .int x0)] := hl
  have hH : HP G A s.heap (w_O7 G g a_reader (g_now 0) a_air (g_acts 0) a_sights a_slots a_plan a_trial V ++ w_O2 G g_now V_now ++ w_O0 G g_acts gh_this_acts V_acts VH_this_acts) s.heap [] := hH
  have hin2 : ∀ w ∈ u_ws RX2 TX2 11, w ∈ wsX7_hold := fun w h => List.mem_cons_of_mem _ (List.mem_append_left _ (List.mem_append_right _ h))
  have hin7 : ∀ w ∈ u_ws RX7 TX7 9, w ∈ wsX7_hold := fun w h => List.mem_cons_of_mem _ (List.mem_append_left _ (List.mem_append_left _ (List.mem_append_right _ h)))
  have hF : (if (f_X2_hasCock V_now x0) = 0 then ((-1 : Int32), V_now, V_acts, VH_this_acts) else (kAp (f_X0_remember V_acts VH_this_acts V_now) (fun q2 => ((f_X7_bit ((V_now.2.1 8) ^^^ ((1 : Int32) <<< (x0 &&& 31))) x0), (oI V_now 8 ((V_now.2.1 8) ^^^ ((1 : Int32) <<< (x0 &&& 31)))), q2.1, q2.2)))) = F := hF
  refine lv_aload_n hx hb dX7_hold_0 rfl (lv_at hl 0 rfl) ?_
  refine kb_get (v := .ref (g_now 0)) hx hb hts hin7 hown hK hH 0 rfl rfl rfl 1 (by decide) (hts (.fieldLink RX7 19 "CockWar" "now" "LCockWar$Hill;") (List.mem_of_getElem? (i := 1) rfl)) (fun _ h9 => h9) rfl dX7_hold_1 ?_
  refine lv_iload_n hx hb dX7_hold_4 rfl (lv_at hl 1 rfl) ?_
  refine kb_ci hH hA [1, 2, 3, 4, 5, 6] (Wc := (w_O2 G g_now V_now)) (Wc' := (w_O2 G g_now V_now)) (WS' := (w_O7 G g a_reader (g_now 0) a_air (g_acts 0) a_sights a_slots a_plan a_trial V ++ w_O2 G g_now V_now ++ w_O0 G g_acts gh_this_acts V_acts VH_this_acts)) rfl (by decide) rfl rfl (va_runVN (C := RX2) (As := [.int x0]) (rest := []) ⟨hx, hb, hml, hown, hts⟩ (c_X2_hasCock l G g_now V_now x0 rfl _) ⟨va_cnB 1 hts gX7_hold_X2_hasCock_n110 rfl rfl rfl (kb_NM hN 31 rfl) (hts (.initialized RX2) (List.mem_of_getElem? (i := 4) rfl)) hd_X2_hasCock ⟨Nat.le_of_ble_eq_true rfl, Nat.le_of_ble_eq_true rfl⟩, (hts (.instanceMethod yX2_hasCock) (List.mem_of_getElem? (i := 3) rfl)), (hts (.selects RX2 yX2_hasCock yX2_hasCock) (List.mem_of_getElem? (i := 5) rfl))⟩ (kb_preV hH hK hN [1, 2, 3, 4, 5, 6] rfl (by decide) 1 rfl rfl rfl rfl) rfl rfl hl.1 rfl (lv_room (Nat.le_of_ble_eq_true rfl)) dX7_hold_5 ⟨Nat.le_of_ble_eq_true rfl, Nat.le_of_ble_eq_true rfl⟩) (fun H locs hH => ?_)
  refine lv_if_ne (tgt := 13) hx hb dX7_hold_8 (by decide) (fun c1 => ?_) (fun c1 => ?_)
  · rw [if_neg c1] at hF
    refine lv_aload_n hx hb dX7_hold_13 rfl (lv_at hl 0 rfl) ?_
    refine kb_get (v := .ref (g_acts 0)) hx hb hts hin7 hown hK hH 0 rfl rfl rfl 3 (by decide) (hts (.fieldLink RX7 33 "CockWar" "acts" "LCockWar$ActRow;") (List.mem_of_getElem? (i := 2) rfl)) (fun _ h9 => h9) rfl dX7_hold_14 ?_
    refine lv_aload_n hx hb dX7_hold_17 rfl (lv_at hl 0 rfl) ?_
    refine kb_get (v := .ref (g_now 0)) hx hb hts hin7 hown hK hH 0 rfl rfl rfl 1 (by decide) (hts (.fieldLink RX7 19 "CockWar" "now" "LCockWar$Hill;") (List.mem_of_getElem? (i := 1) rfl)) (fun _ h9 => h9) rfl dX7_hold_18 ?_
    obtain ⟨q2, hq2⟩ : ∃ z, z = (f_X0_remember V_acts VH_this_acts V_now) := ⟨_, rfl⟩
    have hF := kAp_eq hF hq2
    refine kb_cv hH hA [7, 8, 9, 1, 2, 3, 4, 5, 6] (Wc := (w_O0 G g_acts gh_this_acts V_acts VH_this_acts ++ w_O2 G g_now V_now)) (Wc' := (w_O0 G g_acts gh_this_acts q2.1 q2.2 ++ w_O2 G g_now V_now)) (WS' := (w_O7 G g a_reader (g_now 0) a_air (g_acts 0) a_sights a_slots a_plan a_trial V ++ w_O2 G g_now V_now ++ w_O0 G g_acts gh_this_acts q2.1 q2.2)) rfl (by decide) rfl rfl (va_runVN (C := RX0) (As := [.ref (g_now 0)]) (rest := []) ⟨hx, hb, hml, hown, hts⟩ (c_X0_remember l G g_acts gh_this_acts V_acts VH_this_acts g_now V_now hq2.symm _) ⟨va_cnB 1 hts gX7_hold_X0_remember_n154 rfl rfl rfl (kb_NM hN 37 rfl) (hts (.initialized RX0) (List.mem_of_getElem? (i := 9) rfl)) hd_X0_remember ⟨Nat.le_of_ble_eq_true rfl, Nat.le_of_ble_eq_true rfl⟩, (hts (.instanceMethod yX0_remember) (List.mem_of_getElem? (i := 8) rfl)), (hts (.selects RX0 yX0_remember yX0_remember) (List.mem_of_getElem? (i := 10) rfl))⟩ (kb_preV hH hK hN [7, 8, 9, 1, 2, 3, 4, 5, 6] rfl (by decide) 7 rfl rfl rfl rfl) rfl rfl hl.1 rfl (lv_room (Nat.le_of_ble_eq_true rfl)) dX7_hold_21 ⟨Nat.le_of_ble_eq_true rfl, Nat.le_of_ble_eq_true rfl⟩) (fun H locs hH => ?_)
    refine lv_aload_n hx hb dX7_hold_24 rfl (lv_at hl 0 rfl) ?_
    refine kb_get (v := .ref (g_now 0)) hx hb hts hin7 hown hK hH 0 rfl rfl rfl 1 (by decide) (hts (.fieldLink RX7 19 "CockWar" "now" "LCockWar$Hill;") (List.mem_of_getElem? (i := 1) rfl)) (fun _ h9 => h9) rfl dX7_hold_25 ?_
    refine lv_dup hx hb dX7_hold_28 rfl ?_
    refine kb_getN (v := .int (V_now.2.1 8)) hx hb hts hin2 hown hK hH 1 rfl rfl rfl 8 (by decide) (kb_NF hN 16 rfl) (fun _ h9 => h9) rfl dX7_hold_29 ?_
    refine lv_iconst (v := 1) hx hb dX7_hold_32 (by decide) ?_
    refine lv_iload_n hx hb dX7_hold_33 rfl (lv_at hl 1 rfl) ?_
    refine lv_ishl hx hb dX7_hold_34 ?_
    refine lv_ixor hx hb dX7_hold_35 ?_
    refine kb_putN (ty := .int) (v := .int ((V_now.2.1 8) ^^^ ((1 : Int32) <<< (x0 &&& 31)))) (WS' := (w_O7 G g a_reader (g_now 0) a_air (g_acts 0) a_sights a_slots a_plan a_trial V ++ w_O2 G g_now (oI V_now 8 ((V_now.2.1 8) ^^^ ((1 : Int32) <<< (x0 &&& 31)))) ++ w_O0 G g_acts gh_this_acts q2.1 q2.2)) hx hb hts hin2 tyX2 tyX2_ok nmX2 hown hK hH 1 rfl rfl 8 (by decide) (kb_NF hN 16 rfl) (fun _ h9 => h9) rfl (by decide +kernel) rfl rfl (Nat.le_of_ble_eq_true rfl) rfl dX7_hold_36 (fun H locs hH => ?_)
    refine lv_aload_n hx hb dX7_hold_39 rfl (lv_at hl 0 rfl) ?_
    refine kb_get (v := .ref (g_now 0)) hx hb hts hin7 hown hK hH 0 rfl rfl rfl 1 (by decide) (hts (.fieldLink RX7 19 "CockWar" "now" "LCockWar$Hill;") (List.mem_of_getElem? (i := 1) rfl)) (fun _ h9 => h9) rfl dX7_hold_40 ?_
    refine kb_getN (v := .int ((V_now.2.1 8) ^^^ ((1 : Int32) <<< (x0 &&& 31)))) hx hb hts hin2 hown hK hH 1 rfl rfl rfl 8 (by decide) (kb_NF hN 16 rfl) (fun _ h9 => h9) rfl dX7_hold_43 ?_
    refine lv_iload_n hx hb dX7_hold_46 rfl (lv_at hl 1 rfl) ?_
    refine kb_ci hH hA [] (Wc := ([] : List va_W)) (Wc' := ([] : List va_W)) (WS' := (w_O7 G g a_reader (g_now 0) a_air (g_acts 0) a_sights a_slots a_plan a_trial V ++ w_O2 G g_now (oI V_now 8 ((V_now.2.1 8) ^^^ ((1 : Int32) <<< (x0 &&& 31)))) ++ w_O0 G g_acts gh_this_acts q2.1 q2.2)) rfl (by decide) rfl rfl (va_runS (As := [.int ((V_now.2.1 8) ^^^ ((1 : Int32) <<< (x0 &&& 31))), .int x0]) (rest := []) ⟨hx, hb, hml, hown, hts⟩ (c_X7_bit l G ((V_now.2.1 8) ^^^ ((1 : Int32) <<< (x0 &&& 31))) x0 rfl _) (va_cwS 2 hts gX7_hold_X7_bit rfl rfl rfl hd_X7_bit ⟨Nat.le_of_ble_eq_true rfl, Nat.le_of_ble_eq_true rfl⟩) (kb_preS hH hK hN [] rfl (by decide)) rfl rfl hl.1 rfl (lv_room (Nat.le_of_ble_eq_true rfl)) dX7_hold_47 ⟨Nat.le_of_ble_eq_true rfl, Nat.le_of_ble_eq_true rfl⟩) (fun H locs hH => ?_)
    subst hF
    exact kb_iret hx hb hr hH rfl rfl dX7_hold_50 hlocks
  · rw [if_pos c1] at hF
    refine lv_iconst (v := -1) hx hb dX7_hold_11 (by decide) ?_
    subst hF
    exact kb_iret hx hb hr hH rfl rfl dX7_hold_12 hlocks
def f_X7_undo (V : OV) (V_acts : OV) (VH_this_acts : Nat → OV) (V_now : OV) : (Int32 × OV × OV) := (kAp (f_X0_takeBack V_acts VH_this_acts V_now) (fun q1 => (q1.1, q1.2.1, q1.2.2)))
set_option maxHeartbeats 4000000 in
set_option maxRecDepth 100000 in
theorem c_X7_undo (l : Launch) (G : Ge) (g : Nat → Nat) (a_reader : Nat) (a_air : Nat) (a_sights : Nat) (a_slots : Nat) (a_plan : Nat) (a_trial : Nat) (V : OV) (g_acts : Nat → Nat) (gh_this_acts : Nat → Nat → Nat) (V_acts : OV) (VH_this_acts : Nat → OV) (g_now : Nat → Nat) (V_now : OV) {F : (Int32 × OV × OV)} (hF : f_X7_undo V V_acts VH_this_acts V_now = F) : CI l yX7_undo wsX7_undo { frames := 3, cells := 0, slots := 0, locals := 65 } [.ref (g 0)] G (w_O7 G g a_reader (g_now 0) a_air (g_acts 0) a_sights a_slots a_plan a_trial V ++ w_O0 G g_acts gh_this_acts V_acts VH_this_acts ++ w_O2 G g_now V_now) (w_O7 G g a_reader (g_now 0) a_air (g_acts 0) a_sights a_slots a_plan a_trial V ++ w_O0 G g_acts gh_this_acts F.2.1 VH_this_acts ++ w_O2 G g_now F.2.2) F.1 := by
  intro sz
  refine Met.ofW (cc := cX7_undo) (maxL := 1) (ret := (some .int)) (by decide) rfl ?_
  intro p e s m args below meth c s₁ B hml hv
  obtain ⟨rfl, hpre⟩ := hv
  obtain ⟨hsz, hH, hK, hN, hA⟩ := kb_start hpre
  subst hsz
  have hx := B.exec
  have hb := B.bytes
  have hr := B.returns
  have hts := atoms_spec (ws := wsX7_undo) B.pre
  have hown : s.vm.findClass RX7 = some m.cls := findClass_of_methodNamed B.named
  have hlocks := B.notSynchronized
  generalize hAe : va_A (List.flatten (w_O7 G g a_reader (g_now 0) a_air (g_acts 0) a_sights a_slots a_plan a_trial V ++ w_O0 G g_acts gh_this_acts V_acts VH_this_acts ++ w_O2 G g_now V_now)) s.heap.size = A at hH hA ⊢
  have hl := lv_entry ([.ref (g 0)]) (n := 1) (Nat.le_of_ble_eq_true rfl)
  rw [lg_entry_eq]
  generalize (lg_sl ([.ref (g 0)]) ++ List.replicate (1 - (lg_sl ([.ref (g 0)])).length) Slot.unset).toArray = ls at hl ⊢
  have hl : lv_has ls 1 [(0, .ref (g 0))] := hl
  have hH : HP G A s.heap (w_O7 G g a_reader (g_now 0) a_air (g_acts 0) a_sights a_slots a_plan a_trial V ++ w_O0 G g_acts gh_this_acts V_acts VH_this_acts ++ w_O2 G g_now V_now) s.heap [] := hH
  have hin7 : ∀ w ∈ u_ws RX7 TX7 9, w ∈ wsX7_undo := fun w h => List.mem_cons_of_mem _ (List.mem_append_left _ (List.mem_append_left _ (List.mem_append_right _ h)))
  have hF : (kAp (f_X0_takeBack V_acts VH_this_acts V_now) (fun q1 => (q1.1, q1.2.1, q1.2.2))) = F := hF
  refine lv_aload_n hx hb dX7_undo_0 rfl (lv_at hl 0 rfl) ?_
  refine kb_get (v := .ref (g_acts 0)) hx hb hts hin7 hown hK hH 0 rfl rfl rfl 3 (by decide) (hts (.fieldLink RX7 33 "CockWar" "acts" "LCockWar$ActRow;") (List.mem_of_getElem? (i := 1) rfl)) (fun _ h9 => h9) rfl dX7_undo_1 ?_
  refine lv_aload_n hx hb dX7_undo_4 rfl (lv_at hl 0 rfl) ?_
  refine kb_get (v := .ref (g_now 0)) hx hb hts hin7 hown hK hH 0 rfl rfl rfl 1 (by decide) (hts (.fieldLink RX7 19 "CockWar" "now" "LCockWar$Hill;") (List.mem_of_getElem? (i := 2) rfl)) (fun _ h9 => h9) rfl dX7_undo_5 ?_
  obtain ⟨q1, hq1⟩ : ∃ z, z = (f_X0_takeBack V_acts VH_this_acts V_now) := ⟨_, rfl⟩
  have hF := kAp_eq hF hq1
  refine kb_ci hH hA [1, 2, 3, 4, 5, 6, 7, 8, 9] (Wc := (w_O0 G g_acts gh_this_acts V_acts VH_this_acts ++ w_O2 G g_now V_now)) (Wc' := (w_O0 G g_acts gh_this_acts q1.2.1 VH_this_acts ++ w_O2 G g_now q1.2.2)) (WS' := (w_O7 G g a_reader (g_now 0) a_air (g_acts 0) a_sights a_slots a_plan a_trial V ++ w_O0 G g_acts gh_this_acts q1.2.1 VH_this_acts ++ w_O2 G g_now q1.2.2)) rfl (by decide) rfl rfl (va_runVN (C := RX0) (As := [.ref (g_now 0)]) (rest := []) ⟨hx, hb, hml, hown, hts⟩ (c_X0_takeBack l G g_acts gh_this_acts V_acts VH_this_acts g_now V_now hq1.symm _) ⟨va_cnB 1 hts gX7_undo_X0_takeBack_n168 rfl rfl rfl (kb_NM hN 42 rfl) (hts (.initialized RX0) (List.mem_of_getElem? (i := 4) rfl)) hd_X0_takeBack ⟨Nat.le_of_ble_eq_true rfl, Nat.le_of_ble_eq_true rfl⟩, (hts (.instanceMethod yX0_takeBack) (List.mem_of_getElem? (i := 3) rfl)), (hts (.selects RX0 yX0_takeBack yX0_takeBack) (List.mem_of_getElem? (i := 5) rfl))⟩ (kb_preV hH hK hN [1, 2, 3, 4, 5, 6, 7, 8, 9] rfl (by decide) 1 rfl rfl rfl rfl) rfl rfl hl.1 rfl (lv_room (Nat.le_of_ble_eq_true rfl)) dX7_undo_8 ⟨Nat.le_of_ble_eq_true rfl, Nat.le_of_ble_eq_true rfl⟩) (fun H locs hH => ?_)
  subst hF
  exact kb_iret hx hb hr hH rfl rfl dX7_undo_11 hlocks
def f_X7_keep (V : OV) (V_slots : OV) (VH_this_slots : Nat → OV) (V_now : OV) (x0 : Int32) : (Int32 × OV × (Nat → OV)) := (kAp (f_X6_store V_slots VH_this_slots V_now x0) (fun q1 => (q1.1, q1.2.1, q1.2.2)))
set_option maxHeartbeats 4000000 in
set_option maxRecDepth 100000 in
theorem c_X7_keep (l : Launch) (G : Ge) (g : Nat → Nat) (a_reader : Nat) (a_air : Nat) (a_acts : Nat) (a_sights : Nat) (a_plan : Nat) (a_trial : Nat) (V : OV) (g_slots : Nat → Nat) (gh_this_slots : Nat → Nat → Nat) (V_slots : OV) (VH_this_slots : Nat → OV) (g_now : Nat → Nat) (V_now : OV) (x0 : Int32) {F : (Int32 × OV × (Nat → OV))} (hF : f_X7_keep V V_slots VH_this_slots V_now x0 = F) : CI l yX7_keep wsX7_keep { frames := 3, cells := 0, slots := 0, locals := 65 } [.ref (g 0), .int x0] G (w_O7 G g a_reader (g_now 0) a_air a_acts a_sights (g_slots 0) a_plan a_trial V ++ w_O6 G g_slots gh_this_slots V_slots VH_this_slots ++ w_O2 G g_now V_now) (w_O7 G g a_reader (g_now 0) a_air a_acts a_sights (g_slots 0) a_plan a_trial V ++ w_O6 G g_slots gh_this_slots F.2.1 F.2.2 ++ w_O2 G g_now V_now) F.1 := by
  intro sz
  refine Met.ofW (cc := cX7_keep) (maxL := 2) (ret := (some .int)) (by decide) rfl ?_
  intro p e s m args below meth c s₁ B hml hv
  obtain ⟨rfl, hpre⟩ := hv
  obtain ⟨hsz, hH, hK, hN, hA⟩ := kb_start hpre
  subst hsz
  have hx := B.exec
  have hb := B.bytes
  have hr := B.returns
  have hts := atoms_spec (ws := wsX7_keep) B.pre
  have hown : s.vm.findClass RX7 = some m.cls := findClass_of_methodNamed B.named
  have hlocks := B.notSynchronized
  generalize hAe : va_A (List.flatten (w_O7 G g a_reader (g_now 0) a_air a_acts a_sights (g_slots 0) a_plan a_trial V ++ w_O6 G g_slots gh_this_slots V_slots VH_this_slots ++ w_O2 G g_now V_now)) s.heap.size = A at hH hA ⊢
  have hl := lv_entry ([.ref (g 0), .int x0]) (n := 2) (Nat.le_of_ble_eq_true rfl)
  rw [lg_entry_eq]
  generalize (lg_sl ([.ref (g 0), .int x0]) ++ List.replicate (2 - (lg_sl ([.ref (g 0), .int x0])).length) Slot.unset).toArray = ls at hl ⊢
  have hl : lv_has ls 2 [(0, .ref (g 0)), (1, .int x0)] := hl
  have hH : HP G A s.heap (w_O7 G g a_reader (g_now 0) a_air a_acts a_sights (g_slots 0) a_plan a_trial V ++ w_O6 G g_slots gh_this_slots V_slots VH_this_slots ++ w_O2 G g_now V_now) s.heap [] := hH
  have hin7 : ∀ w ∈ u_ws RX7 TX7 9, w ∈ wsX7_keep := fun w h => List.mem_cons_of_mem _ (List.mem_append_left _ (List.mem_append_left _ (List.mem_append_right _ h)))
  have hF : (kAp (f_X6_store V_slots VH_this_slots V_now x0) (fun q1 => (q1.1, q1.2.1, q1.2.2))) = F := hF
  refine lv_aload_n hx hb dX7_keep_0 rfl (lv_at hl 0 rfl) ?_
  refine kb_get (v := .ref (g_slots 0)) hx hb hts hin7 hown hK hH 0 rfl rfl rfl 5 (by decide) (hts (.fieldLink RX7 47 "CockWar" "slots" "LCockWar$Slots;") (List.mem_of_getElem? (i := 1) rfl)) (fun _ h9 => h9) rfl dX7_keep_1 ?_
  refine lv_iload_n hx hb dX7_keep_4 rfl (lv_at hl 1 rfl) ?_
  refine lv_aload_n hx hb dX7_keep_5 rfl (lv_at hl 0 rfl) ?_
  refine kb_get (v := .ref (g_now 0)) hx hb hts hin7 hown hK hH 0 rfl rfl rfl 1 (by decide) (hts (.fieldLink RX7 19 "CockWar" "now" "LCockWar$Hill;") (List.mem_of_getElem? (i := 2) rfl)) (fun _ h9 => h9) rfl dX7_keep_6 ?_
  obtain ⟨q1, hq1⟩ : ∃ z, z = (f_X6_store V_slots VH_this_slots V_now x0) := ⟨_, rfl⟩
  have hF := kAp_eq hF hq1
  refine kb_ci hH hA [1, 2, 3, 4, 5, 6, 7, 8, 9] (Wc := (w_O6 G g_slots gh_this_slots V_slots VH_this_slots ++ w_O2 G g_now V_now)) (Wc' := (w_O6 G g_slots gh_this_slots q1.2.1 q1.2.2 ++ w_O2 G g_now V_now)) (WS' := (w_O7 G g a_reader (g_now 0) a_air a_acts a_sights (g_slots 0) a_plan a_trial V ++ w_O6 G g_slots gh_this_slots q1.2.1 q1.2.2 ++ w_O2 G g_now V_now)) rfl (by decide) rfl rfl (va_runVN (C := RX6) (As := [.int x0, .ref (g_now 0)]) (rest := []) ⟨hx, hb, hml, hown, hts⟩ (c_X6_store l G g_slots gh_this_slots V_slots VH_this_slots g_now V_now x0 hq1.symm _) ⟨va_cnB 2 hts gX7_keep_X6_store_n248 rfl rfl rfl (kb_NM hN 63 rfl) (hts (.initialized RX6) (List.mem_of_getElem? (i := 4) rfl)) hd_X6_store ⟨Nat.le_of_ble_eq_true rfl, Nat.le_of_ble_eq_true rfl⟩, (hts (.instanceMethod yX6_store) (List.mem_of_getElem? (i := 3) rfl)), (hts (.selects RX6 yX6_store yX6_store) (List.mem_of_getElem? (i := 5) rfl))⟩ (kb_preV hH hK hN [1, 2, 3, 4, 5, 6, 7, 8, 9] rfl (by decide) 1 rfl rfl rfl rfl) rfl rfl hl.1 rfl (lv_room (Nat.le_of_ble_eq_true rfl)) dX7_keep_9 ⟨Nat.le_of_ble_eq_true rfl, Nat.le_of_ble_eq_true rfl⟩) (fun H locs hH => ?_)
  subst hF
  exact kb_iret hx hb hr hH rfl rfl dX7_keep_12 hlocks
def f_X7_again (V : OV) (V_slots : OV) (VH_this_slots : Nat → OV) (V_now : OV) (V_acts : OV) (VH_this_acts : Nat → OV) (x0 : Int32) : (Int32 × OV × OV) := (kAp (f_X6_fetch V_slots VH_this_slots V_now x0) (fun q1 => (if q1.1 < 0 then (q1.1, q1.2, V_acts) else (kAp (f_X0_forget V_acts VH_this_acts) (fun q3 => (q1.1, q1.2, q3))))))
set_option maxHeartbeats 4000000 in
set_option maxRecDepth 100000 in
theorem c_X7_again (l : Launch) (G : Ge) (g : Nat → Nat) (a_reader : Nat) (a_air : Nat) (a_sights : Nat) (a_plan : Nat) (a_trial : Nat) (V : OV) (g_slots : Nat → Nat) (gh_this_slots : Nat → Nat → Nat) (V_slots : OV) (VH_this_slots : Nat → OV) (g_now : Nat → Nat) (V_now : OV) (g_acts : Nat → Nat) (gh_this_acts : Nat → Nat → Nat) (V_acts : OV) (VH_this_acts : Nat → OV) (x0 : Int32) {F : (Int32 × OV × OV)} (hF : f_X7_again V V_slots VH_this_slots V_now V_acts VH_this_acts x0 = F) : CI l yX7_again wsX7_again { frames := 3, cells := 0, slots := 0, locals := 65 } [.ref (g 0), .int x0] G (w_O7 G g a_reader (g_now 0) a_air (g_acts 0) a_sights (g_slots 0) a_plan a_trial V ++ w_O6 G g_slots gh_this_slots V_slots VH_this_slots ++ w_O2 G g_now V_now ++ w_O0 G g_acts gh_this_acts V_acts VH_this_acts) (w_O7 G g a_reader (g_now 0) a_air (g_acts 0) a_sights (g_slots 0) a_plan a_trial V ++ w_O6 G g_slots gh_this_slots V_slots VH_this_slots ++ w_O2 G g_now F.2.1 ++ w_O0 G g_acts gh_this_acts F.2.2 VH_this_acts) F.1 := by
  intro sz
  refine Met.ofW (cc := cX7_again) (maxL := 3) (ret := (some .int)) (by decide) rfl ?_
  intro p e s m args below meth c s₁ B hml hv
  obtain ⟨rfl, hpre⟩ := hv
  obtain ⟨hsz, hH, hK, hN, hA⟩ := kb_start hpre
  subst hsz
  have hx := B.exec
  have hb := B.bytes
  have hr := B.returns
  have hts := atoms_spec (ws := wsX7_again) B.pre
  have hown : s.vm.findClass RX7 = some m.cls := findClass_of_methodNamed B.named
  have hlocks := B.notSynchronized
  generalize hAe : va_A (List.flatten (w_O7 G g a_reader (g_now 0) a_air (g_acts 0) a_sights (g_slots 0) a_plan a_trial V ++ w_O6 G g_slots gh_this_slots V_slots VH_this_slots ++ w_O2 G g_now V_now ++ w_O0 G g_acts gh_this_acts V_acts VH_this_acts)) s.heap.size = A at hH hA ⊢
  have hl := lv_entry ([.ref (g 0), .int x0]) (n := 3) (Nat.le_of_ble_eq_true rfl)
  rw [lg_entry_eq]
  generalize (lg_sl ([.ref (g 0), .int x0]) ++ List.replicate (3 - (lg_sl ([.ref (g 0), .int x0])).length) Slot.unset).toArray = ls at hl ⊢
  have hl : lv_has ls 3 [(0, .ref (g 0)), (1, .int x0)] := hl
  have hH : HP G A s.heap (w_O7 G g a_reader (g_now 0) a_air (g_acts 0) a_sights (g_slots 0) a_plan a_trial V ++ w_O6 G g_slots gh_this_slots V_slots VH_this_slots ++ w_O2 G g_now V_now ++ w_O0 G g_acts gh_this_acts V_acts VH_this_acts) s.heap [] := hH
  have hin7 : ∀ w ∈ u_ws RX7 TX7 9, w ∈ wsX7_again := fun w h => List.mem_cons_of_mem _ (List.mem_append_left _ (List.mem_append_left _ (List.mem_append_left _ (List.mem_append_right _ h))))
  have hF : (kAp (f_X6_fetch V_slots VH_this_slots V_now x0) (fun q1 => (if q1.1 < 0 then (q1.1, q1.2, V_acts) else (kAp (f_X0_forget V_acts VH_this_acts) (fun q3 => (q1.1, q1.2, q3)))))) = F := hF
  refine lv_aload_n hx hb dX7_again_0 rfl (lv_at hl 0 rfl) ?_
  refine kb_get (v := .ref (g_slots 0)) hx hb hts hin7 hown hK hH 0 rfl rfl rfl 5 (by decide) (hts (.fieldLink RX7 47 "CockWar" "slots" "LCockWar$Slots;") (List.mem_of_getElem? (i := 1) rfl)) (fun _ h9 => h9) rfl dX7_again_1 ?_
  refine lv_iload_n hx hb dX7_again_4 rfl (lv_at hl 1 rfl) ?_
  refine lv_aload_n hx hb dX7_again_5 rfl (lv_at hl 0 rfl) ?_
  refine kb_get (v := .ref (g_now 0)) hx hb hts hin7 hown hK hH 0 rfl rfl rfl 1 (by decide) (hts (.fieldLink RX7 19 "CockWar" "now" "LCockWar$Hill;") (List.mem_of_getElem? (i := 2) rfl)) (fun _ h9 => h9) rfl dX7_again_6 ?_
  obtain ⟨q1, hq1⟩ : ∃ z, z = (f_X6_fetch V_slots VH_this_slots V_now x0) := ⟨_, rfl⟩
  have hF := kAp_eq hF hq1
  refine kb_ci hH hA [1, 2, 3, 4, 5, 6, 7, 8, 9] (Wc := (w_O6 G g_slots gh_this_slots V_slots VH_this_slots ++ w_O2 G g_now V_now)) (Wc' := (w_O6 G g_slots gh_this_slots V_slots VH_this_slots ++ w_O2 G g_now q1.2)) (WS' := (w_O7 G g a_reader (g_now 0) a_air (g_acts 0) a_sights (g_slots 0) a_plan a_trial V ++ w_O6 G g_slots gh_this_slots V_slots VH_this_slots ++ w_O2 G g_now q1.2 ++ w_O0 G g_acts gh_this_acts V_acts VH_this_acts)) rfl (by decide) rfl rfl (va_runVN (C := RX6) (As := [.int x0, .ref (g_now 0)]) (rest := []) ⟨hx, hb, hml, hown, hts⟩ (c_X6_fetch l G g_slots gh_this_slots V_slots VH_this_slots g_now V_now x0 hq1.symm _) ⟨va_cnB 2 hts gX7_again_X6_fetch_n252 rfl rfl rfl (kb_NM hN 65 rfl) (hts (.initialized RX6) (List.mem_of_getElem? (i := 5) rfl)) hd_X6_fetch ⟨Nat.le_of_ble_eq_true rfl, Nat.le_of_ble_eq_true rfl⟩, (hts (.instanceMethod yX6_fetch) (List.mem_of_getElem? (i := 4) rfl)), (hts (.selects RX6 yX6_fetch yX6_fetch) (List.mem_of_getElem? (i := 6) rfl))⟩ (kb_preV hH hK hN [1, 2, 3, 4, 5, 6, 7, 8, 9] rfl (by decide) 1 rfl rfl rfl rfl) rfl rfl hl.1 rfl (lv_room (Nat.le_of_ble_eq_true rfl)) dX7_again_9 ⟨Nat.le_of_ble_eq_true rfl, Nat.le_of_ble_eq_true rfl⟩) (fun H locs hH => ?_)
  refine lv_istore_n (lv' := [(2, .int q1.1), (0, .ref (g 0)), (1, .int x0)]) hx hb dX7_again_12 rfl hl (by decide) rfl (fun ls hl => ?_)
  refine lv_iload_n hx hb dX7_again_13 rfl (lv_at hl 0 rfl) ?_
  refine lv_if_lt (tgt := 24) hx hb dX7_again_14 (by decide) (fun c2 => ?_) (fun c2 => ?_)
  · rw [if_pos c2] at hF
    refine lv_iload_n hx hb dX7_again_24 rfl (lv_at hl 0 rfl) ?_
    subst hF
    exact kb_iret hx hb hr hH rfl rfl dX7_again_25 hlocks
  · rw [if_neg c2] at hF
    refine lv_aload_n hx hb dX7_again_17 rfl (lv_at hl 1 rfl) ?_
    refine kb_get (v := .ref (g_acts 0)) hx hb hts hin7 hown hK hH 0 rfl rfl rfl 3 (by decide) (hts (.fieldLink RX7 33 "CockWar" "acts" "LCockWar$ActRow;") (List.mem_of_getElem? (i := 3) rfl)) (fun _ h9 => h9) rfl dX7_again_18 ?_
    obtain ⟨q3, hq3⟩ : ∃ z, z = (f_X0_forget V_acts VH_this_acts) := ⟨_, rfl⟩
    have hF := kAp_eq hF hq3
    refine kb_cv hH hA [10, 11, 12] (Wc := (w_O0 G g_acts gh_this_acts V_acts VH_this_acts)) (Wc' := (w_O0 G g_acts gh_this_acts q3 VH_this_acts)) (WS' := (w_O7 G g a_reader (g_now 0) a_air (g_acts 0) a_sights (g_slots 0) a_plan a_trial V ++ w_O6 G g_slots gh_this_slots V_slots VH_this_slots ++ w_O2 G g_now q1.2 ++ w_O0 G g_acts gh_this_acts q3 VH_this_acts)) rfl (by decide) rfl rfl (va_runVN (C := RX0) (As := []) (rest := []) ⟨hx, hb, hml, hown, hts⟩ (c_X0_forget l G g_acts gh_this_acts V_acts VH_this_acts hq3.symm _) ⟨va_cnB 0 hts gX7_again_X0_forget_n88 rfl rfl rfl (kb_NM hN 29 rfl) (hts (.initialized RX0) (List.mem_of_getElem? (i := 31) rfl)) hd_X0_forget ⟨Nat.le_of_ble_eq_true rfl, Nat.le_of_ble_eq_true rfl⟩, (hts (.instanceMethod yX0_forget) (List.mem_of_getElem? (i := 30) rfl)), (hts (.selects RX0 yX0_forget yX0_forget) (List.mem_of_getElem? (i := 32) rfl))⟩ (kb_preV hH hK hN [10, 11, 12] rfl (by decide) 10 rfl rfl rfl rfl) rfl rfl hl.1 rfl (lv_room (Nat.le_of_ble_eq_true rfl)) dX7_again_21 ⟨Nat.le_of_ble_eq_true rfl, Nat.le_of_ble_eq_true rfl⟩) (fun H locs hH => ?_)
    refine lv_iload_n hx hb dX7_again_24 rfl (lv_at hl 0 rfl) ?_
    subst hF
    exact kb_iret hx hb hr hH rfl rfl dX7_again_25 hlocks
