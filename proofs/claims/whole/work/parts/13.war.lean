theorem hd_X7_write : yX7_write.cls ≠ "java/lang/invoke/MethodHandle" ∧ yX7_write.cls ≠ "java/lang/invoke/VarHandle" ∧ (parseMethodDescriptor yX7_write.desc).map (fun d => d.parameters.length) = some 1 := by decide +kernel
theorem he_X7_write : yX7_write.cls = RX7 ∧ yX7_write.cls ≠ "java/lang/invoke/MethodHandle" ∧ yX7_write.cls ≠ "java/lang/invoke/VarHandle" ∧ (parseMethodDescriptor yX7_write.desc).map (fun d => d.parameters.length) = some 1 := ⟨rfl, hd_X7_write⟩
theorem hd_X7_wipe : yX7_wipe.cls ≠ "java/lang/invoke/MethodHandle" ∧ yX7_wipe.cls ≠ "java/lang/invoke/VarHandle" ∧ (parseMethodDescriptor yX7_wipe.desc).map (fun d => d.parameters.length) = some 0 := by decide +kernel
theorem he_X7_wipe : yX7_wipe.cls = RX7 ∧ yX7_wipe.cls ≠ "java/lang/invoke/MethodHandle" ∧ yX7_wipe.cls ≠ "java/lang/invoke/VarHandle" ∧ (parseMethodDescriptor yX7_wipe.desc).map (fun d => d.parameters.length) = some 0 := ⟨rfl, hd_X7_wipe⟩
theorem hd_X7_fault : yX7_fault.cls ≠ "java/lang/invoke/MethodHandle" ∧ yX7_fault.cls ≠ "java/lang/invoke/VarHandle" ∧ (parseMethodDescriptor yX7_fault.desc).map (fun d => d.parameters.length) = some 0 := by decide +kernel
theorem he_X7_fault : yX7_fault.cls = RX7 ∧ yX7_fault.cls ≠ "java/lang/invoke/MethodHandle" ∧ yX7_fault.cls ≠ "java/lang/invoke/VarHandle" ∧ (parseMethodDescriptor yX7_fault.desc).map (fun d => d.parameters.length) = some 0 := ⟨rfl, hd_X7_fault⟩
theorem hd_X7_tree : yX7_tree.cls ≠ "java/lang/invoke/MethodHandle" ∧ yX7_tree.cls ≠ "java/lang/invoke/VarHandle" ∧ (parseMethodDescriptor yX7_tree.desc).map (fun d => d.parameters.length) = some 1 := by decide +kernel
theorem he_X7_tree : yX7_tree.cls = RX7 ∧ yX7_tree.cls ≠ "java/lang/invoke/MethodHandle" ∧ yX7_tree.cls ≠ "java/lang/invoke/VarHandle" ∧ (parseMethodDescriptor yX7_tree.desc).map (fun d => d.parameters.length) = some 1 := ⟨rfl, hd_X7_tree⟩
theorem hd_X7_cock : yX7_cock.cls ≠ "java/lang/invoke/MethodHandle" ∧ yX7_cock.cls ≠ "java/lang/invoke/VarHandle" ∧ (parseMethodDescriptor yX7_cock.desc).map (fun d => d.parameters.length) = some 2 := by decide +kernel
theorem he_X7_cock : yX7_cock.cls = RX7 ∧ yX7_cock.cls ≠ "java/lang/invoke/MethodHandle" ∧ yX7_cock.cls ≠ "java/lang/invoke/VarHandle" ∧ (parseMethodDescriptor yX7_cock.desc).map (fun d => d.parameters.length) = some 2 := ⟨rfl, hd_X7_cock⟩
theorem hd_X7_wind : yX7_wind.cls ≠ "java/lang/invoke/MethodHandle" ∧ yX7_wind.cls ≠ "java/lang/invoke/VarHandle" ∧ (parseMethodDescriptor yX7_wind.desc).map (fun d => d.parameters.length) = some 2 := by decide +kernel
theorem he_X7_wind : yX7_wind.cls = RX7 ∧ yX7_wind.cls ≠ "java/lang/invoke/MethodHandle" ∧ yX7_wind.cls ≠ "java/lang/invoke/VarHandle" ∧ (parseMethodDescriptor yX7_wind.desc).map (fun d => d.parameters.length) = some 2 := ⟨rfl, hd_X7_wind⟩
theorem hd_X7_under : yX7_under.cls ≠ "java/lang/invoke/MethodHandle" ∧ yX7_under.cls ≠ "java/lang/invoke/VarHandle" ∧ (parseMethodDescriptor yX7_under.desc).map (fun d => d.parameters.length) = some 1 := by decide +kernel
theorem he_X7_under : yX7_under.cls = RX7 ∧ yX7_under.cls ≠ "java/lang/invoke/MethodHandle" ∧ yX7_under.cls ≠ "java/lang/invoke/VarHandle" ∧ (parseMethodDescriptor yX7_under.desc).map (fun d => d.parameters.length) = some 1 := ⟨rfl, hd_X7_under⟩
theorem hd_X7_year : yX7_year.cls ≠ "java/lang/invoke/MethodHandle" ∧ yX7_year.cls ≠ "java/lang/invoke/VarHandle" ∧ (parseMethodDescriptor yX7_year.desc).map (fun d => d.parameters.length) = some 1 := by decide +kernel
theorem he_X7_year : yX7_year.cls = RX7 ∧ yX7_year.cls ≠ "java/lang/invoke/MethodHandle" ∧ yX7_year.cls ≠ "java/lang/invoke/VarHandle" ∧ (parseMethodDescriptor yX7_year.desc).map (fun d => d.parameters.length) = some 1 := ⟨rfl, hd_X7_year⟩
theorem hd_X7_placing : yX7_placing.cls ≠ "java/lang/invoke/MethodHandle" ∧ yX7_placing.cls ≠ "java/lang/invoke/VarHandle" ∧ (parseMethodDescriptor yX7_placing.desc).map (fun d => d.parameters.length) = some 2 := by decide +kernel
theorem he_X7_placing : yX7_placing.cls = RX7 ∧ yX7_placing.cls ≠ "java/lang/invoke/MethodHandle" ∧ yX7_placing.cls ≠ "java/lang/invoke/VarHandle" ∧ (parseMethodDescriptor yX7_placing.desc).map (fun d => d.parameters.length) = some 2 := ⟨rfl, hd_X7_placing⟩
theorem hd_X7_trees : yX7_trees.cls ≠ "java/lang/invoke/MethodHandle" ∧ yX7_trees.cls ≠ "java/lang/invoke/VarHandle" ∧ (parseMethodDescriptor yX7_trees.desc).map (fun d => d.parameters.length) = some 2 := by decide +kernel
theorem he_X7_trees : yX7_trees.cls = RX7 ∧ yX7_trees.cls ≠ "java/lang/invoke/MethodHandle" ∧ yX7_trees.cls ≠ "java/lang/invoke/VarHandle" ∧ (parseMethodDescriptor yX7_trees.desc).map (fun d => d.parameters.length) = some 2 := ⟨rfl, hd_X7_trees⟩
theorem hd_X7_decides : yX7_decides.cls ≠ "java/lang/invoke/MethodHandle" ∧ yX7_decides.cls ≠ "java/lang/invoke/VarHandle" ∧ (parseMethodDescriptor yX7_decides.desc).map (fun d => d.parameters.length) = some 1 := by decide +kernel
theorem he_X7_decides : yX7_decides.cls = RX7 ∧ yX7_decides.cls ≠ "java/lang/invoke/MethodHandle" ∧ yX7_decides.cls ≠ "java/lang/invoke/VarHandle" ∧ (parseMethodDescriptor yX7_decides.desc).map (fun d => d.parameters.length) = some 1 := ⟨rfl, hd_X7_decides⟩
theorem hd_X7_power : yX7_power.cls ≠ "java/lang/invoke/MethodHandle" ∧ yX7_power.cls ≠ "java/lang/invoke/VarHandle" ∧ (parseMethodDescriptor yX7_power.desc).map (fun d => d.parameters.length) = some 1 := by decide +kernel
theorem he_X7_power : yX7_power.cls = RX7 ∧ yX7_power.cls ≠ "java/lang/invoke/MethodHandle" ∧ yX7_power.cls ≠ "java/lang/invoke/VarHandle" ∧ (parseMethodDescriptor yX7_power.desc).map (fun d => d.parameters.length) = some 1 := ⟨rfl, hd_X7_power⟩
theorem hd_X7_judge : yX7_judge.cls ≠ "java/lang/invoke/MethodHandle" ∧ yX7_judge.cls ≠ "java/lang/invoke/VarHandle" ∧ (parseMethodDescriptor yX7_judge.desc).map (fun d => d.parameters.length) = some 2 := by decide +kernel
theorem he_X7_judge : yX7_judge.cls = RX7 ∧ yX7_judge.cls ≠ "java/lang/invoke/MethodHandle" ∧ yX7_judge.cls ≠ "java/lang/invoke/VarHandle" ∧ (parseMethodDescriptor yX7_judge.desc).map (fun d => d.parameters.length) = some 2 := ⟨rfl, hd_X7_judge⟩
theorem hd_X7_see : yX7_see.cls ≠ "java/lang/invoke/MethodHandle" ∧ yX7_see.cls ≠ "java/lang/invoke/VarHandle" ∧ (parseMethodDescriptor yX7_see.desc).map (fun d => d.parameters.length) = some 2 := by decide +kernel
theorem he_X7_see : yX7_see.cls = RX7 ∧ yX7_see.cls ≠ "java/lang/invoke/MethodHandle" ∧ yX7_see.cls ≠ "java/lang/invoke/VarHandle" ∧ (parseMethodDescriptor yX7_see.desc).map (fun d => d.parameters.length) = some 2 := ⟨rfl, hd_X7_see⟩
theorem hd_X7_unsee : yX7_unsee.cls ≠ "java/lang/invoke/MethodHandle" ∧ yX7_unsee.cls ≠ "java/lang/invoke/VarHandle" ∧ (parseMethodDescriptor yX7_unsee.desc).map (fun d => d.parameters.length) = some 0 := by decide +kernel
theorem he_X7_unsee : yX7_unsee.cls = RX7 ∧ yX7_unsee.cls ≠ "java/lang/invoke/MethodHandle" ∧ yX7_unsee.cls ≠ "java/lang/invoke/VarHandle" ∧ (parseMethodDescriptor yX7_unsee.desc).map (fun d => d.parameters.length) = some 0 := ⟨rfl, hd_X7_unsee⟩
def f_X7_write (V : OV) (V_reader : OV) (x0 : Int32) : (Int32 × OV) := (if x0 < 0 then ((-2 : Int32), V_reader) else (if x0 ≤ (255 : Int32) then (kAp (f_X4_append V_reader x0) (fun q3 => (q3.1, q3.2))) else ((-2 : Int32), V_reader)))
set_option maxHeartbeats 4000000 in
set_option maxRecDepth 100000 in
theorem c_X7_write (l : Launch) (G : Ge) (g : Nat → Nat) (a_now : Nat) (a_air : Nat) (a_acts : Nat) (a_sights : Nat) (a_slots : Nat) (a_plan : Nat) (a_trial : Nat) (V : OV) (g_reader : Nat → Nat) (a_reader_ground : Nat) (a_reader_air : Nat) (V_reader : OV) (x0 : Int32) {F : (Int32 × OV)} (hF : f_X7_write V V_reader x0 = F) : CI l yX7_write wsX7_write { frames := 2, cells := 0, slots := 0, locals := 43 } [.ref (g 0), .int x0] G (w_O7 G g (g_reader 0) a_now a_air a_acts a_sights a_slots a_plan a_trial V ++ w_O4 G g_reader a_reader_ground a_reader_air V_reader) (w_O7 G g (g_reader 0) a_now a_air a_acts a_sights a_slots a_plan a_trial V ++ w_O4 G g_reader a_reader_ground a_reader_air F.2) F.1 := by
  intro sz
  refine Met.ofW (cc := cX7_write) (maxL := 2) (ret := (some .int)) (by decide) rfl ?_
  intro p e s m args below meth c s₁ B hml hv
  obtain ⟨rfl, hpre⟩ := hv
  obtain ⟨hsz, hH, hK, hN, hA⟩ := kb_start hpre
  subst hsz
  have hx := B.exec
  have hb := B.bytes
  have hr := B.returns
  have hts := atoms_spec (ws := wsX7_write) B.pre
  have hown : s.vm.findClass RX7 = some m.cls := findClass_of_methodNamed B.named
  have hlocks := B.notSynchronized
  generalize hAe : va_A (List.flatten (w_O7 G g (g_reader 0) a_now a_air a_acts a_sights a_slots a_plan a_trial V ++ w_O4 G g_reader a_reader_ground a_reader_air V_reader)) s.heap.size = A at hH hA ⊢
  have hl := lv_entry ([.ref (g 0), .int x0]) (n := 2) (Nat.le_of_ble_eq_true rfl)
  rw [lg_entry_eq]
  generalize (lg_sl ([.ref (g 0), .int x0]) ++ List.replicate (2 - (lg_sl ([.ref (g 0), .int x0])).length) Slot.unset).toArray = ls at hl ⊢
  have hl : lv_has ls 2 [(0, .ref (g 0)), (1, .int x0)] := hl
  have hH : HP G A s.heap (w_O7 G g (g_reader 0) a_now a_air a_acts a_sights a_slots a_plan a_trial V ++ w_O4 G g_reader a_reader_ground a_reader_air V_reader) s.heap [] := hH
  have hin7 : ∀ w ∈ u_ws RX7 TX7 9, w ∈ wsX7_write := fun w h => List.mem_cons_of_mem _ (List.mem_append_left _ (List.mem_append_right _ h))
  have hF : (if x0 < 0 then ((-2 : Int32), V_reader) else (if x0 ≤ (255 : Int32) then (kAp (f_X4_append V_reader x0) (fun q3 => (q3.1, q3.2))) else ((-2 : Int32), V_reader))) = F := hF
  refine lv_iload_n hx hb dX7_write_0 rfl (lv_at hl 1 rfl) ?_
  refine lv_if_lt (tgt := 11) hx hb dX7_write_1 (by decide) (fun c1 => ?_) (fun c1 => ?_)
  · rw [if_pos c1] at hF
    refine lv_bipush (v := -2) hx hb dX7_write_11 (by decide) ?_
    subst hF
    exact kb_iret hx hb hr hH rfl rfl dX7_write_13 hlocks
  · rw [if_neg c1] at hF
    refine lv_iload_n hx hb dX7_write_4 rfl (lv_at hl 1 rfl) ?_
    refine lv_sipush (v := 255) hx hb dX7_write_5 (by decide) ?_
    refine lv_icmp_le (tgt := 14) hx hb dX7_write_8 (by decide) (fun c2 => ?_) (fun c2 => ?_)
    · rw [if_pos c2] at hF
      refine lv_aload_n hx hb dX7_write_14 rfl (lv_at hl 0 rfl) ?_
      refine kb_get (v := .ref (g_reader 0)) hx hb hts hin7 hown hK hH 0 rfl rfl rfl 0 (by decide) (hts (.fieldLink RX7 12 "CockWar" "reader" "LCockWar$Reader;") (List.mem_of_getElem? (i := 1) rfl)) (fun _ h9 => h9) rfl dX7_write_15 ?_
      refine lv_iload_n hx hb dX7_write_18 rfl (lv_at hl 1 rfl) ?_
      obtain ⟨q3, hq3⟩ : ∃ z, z = (f_X4_append V_reader x0) := ⟨_, rfl⟩
      have hF := kAp_eq hF hq3
      refine kb_ci hH hA [1, 2] (Wc := (w_O4 G g_reader a_reader_ground a_reader_air V_reader)) (Wc' := (w_O4 G g_reader a_reader_ground a_reader_air q3.2)) (WS' := (w_O7 G g (g_reader 0) a_now a_air a_acts a_sights a_slots a_plan a_trial V ++ w_O4 G g_reader a_reader_ground a_reader_air q3.2)) rfl (by decide) rfl rfl (va_runVN (C := RX4) (As := [.int x0]) (rest := []) ⟨hx, hb, hml, hown, hts⟩ (c_X4_append l G g_reader a_reader_ground a_reader_air V_reader x0 hq3.symm _) ⟨va_cnB 1 hts gX7_write_X4_append_n65 rfl rfl rfl (kb_NM hN 12 rfl) (hts (.initialized RX4) (List.mem_of_getElem? (i := 3) rfl)) hd_X4_append ⟨Nat.le_of_ble_eq_true rfl, Nat.le_of_ble_eq_true rfl⟩, (hts (.instanceMethod yX4_append) (List.mem_of_getElem? (i := 2) rfl)), (hts (.selects RX4 yX4_append yX4_append) (List.mem_of_getElem? (i := 4) rfl))⟩ (kb_preV hH hK hN [1, 2] rfl (by decide) 1 rfl rfl rfl rfl) rfl rfl hl.1 rfl (lv_room (Nat.le_of_ble_eq_true rfl)) dX7_write_19 ⟨Nat.le_of_ble_eq_true rfl, Nat.le_of_ble_eq_true rfl⟩) (fun H locs hH => ?_)
      subst hF
      exact kb_iret hx hb hr hH rfl rfl dX7_write_22 hlocks
    · rw [if_neg c2] at hF
      refine lv_bipush (v := -2) hx hb dX7_write_11 (by decide) ?_
      subst hF
      exact kb_iret hx hb hr hH rfl rfl dX7_write_13 hlocks
def f_X7_wipe (V : OV) (V_reader : OV) : (Int32 × OV) := ((V_reader.2.1 3), (oI V_reader 3 (0 : Int32)))
set_option maxHeartbeats 4000000 in
set_option maxRecDepth 100000 in
theorem c_X7_wipe (l : Launch) (G : Ge) (g : Nat → Nat) (a_now : Nat) (a_air : Nat) (a_acts : Nat) (a_sights : Nat) (a_slots : Nat) (a_plan : Nat) (a_trial : Nat) (V : OV) (g_reader : Nat → Nat) (a_reader_ground : Nat) (a_reader_air : Nat) (V_reader : OV) {F : (Int32 × OV)} (hF : f_X7_wipe V V_reader = F) : CI l yX7_wipe wsX7_wipe { frames := 0, cells := 0, slots := 0, locals := 0 } [.ref (g 0)] G (w_O7 G g (g_reader 0) a_now a_air a_acts a_sights a_slots a_plan a_trial V ++ w_O4 G g_reader a_reader_ground a_reader_air V_reader) (w_O7 G g (g_reader 0) a_now a_air a_acts a_sights a_slots a_plan a_trial V ++ w_O4 G g_reader a_reader_ground a_reader_air F.2) F.1 := by
  intro sz
  refine Met.ofW (cc := cX7_wipe) (maxL := 2) (ret := (some .int)) (by decide) rfl ?_
  intro p e s m args below meth c s₁ B hml hv
  obtain ⟨rfl, hpre⟩ := hv
  obtain ⟨hsz, hH, hK, hN, hA⟩ := kb_start hpre
  subst hsz
  have hx := B.exec
  have hb := B.bytes
  have hr := B.returns
  have hts := atoms_spec (ws := wsX7_wipe) B.pre
  have hown : s.vm.findClass RX7 = some m.cls := findClass_of_methodNamed B.named
  have hlocks := B.notSynchronized
  generalize hAe : va_A (List.flatten (w_O7 G g (g_reader 0) a_now a_air a_acts a_sights a_slots a_plan a_trial V ++ w_O4 G g_reader a_reader_ground a_reader_air V_reader)) s.heap.size = A at hH hA ⊢
  have hl := lv_entry ([.ref (g 0)]) (n := 2) (Nat.le_of_ble_eq_true rfl)
  rw [lg_entry_eq]
  generalize (lg_sl ([.ref (g 0)]) ++ List.replicate (2 - (lg_sl ([.ref (g 0)])).length) Slot.unset).toArray = ls at hl ⊢
  have hl : lv_has ls 2 [(0, .ref (g 0))] := hl
  have hH : HP G A s.heap (w_O7 G g (g_reader 0) a_now a_air a_acts a_sights a_slots a_plan a_trial V ++ w_O4 G g_reader a_reader_ground a_reader_air V_reader) s.heap [] := hH
  have hin4 : ∀ w ∈ u_ws RX4 TX4 6, w ∈ wsX7_wipe := fun w h => List.mem_cons_of_mem _ (List.mem_append_right _ h)
  have hin7 : ∀ w ∈ u_ws RX7 TX7 9, w ∈ wsX7_wipe := fun w h => List.mem_cons_of_mem _ (List.mem_append_left _ (List.mem_append_right _ h))
  have hF : ((V_reader.2.1 3), (oI V_reader 3 (0 : Int32))) = F := hF
  refine lv_aload_n hx hb dX7_wipe_0 rfl (lv_at hl 0 rfl) ?_
  refine kb_get (v := .ref (g_reader 0)) hx hb hts hin7 hown hK hH 0 rfl rfl rfl 0 (by decide) (hts (.fieldLink RX7 12 "CockWar" "reader" "LCockWar$Reader;") (List.mem_of_getElem? (i := 1) rfl)) (fun _ h9 => h9) rfl dX7_wipe_1 ?_
  refine kb_getN (v := .int (V_reader.2.1 3)) hx hb hts hin4 hown hK hH 1 rfl rfl rfl 3 (by decide) (kb_NF hN 29 rfl) (fun _ h9 => h9) rfl dX7_wipe_4 ?_
  refine lv_istore_n (lv' := [(1, .int (V_reader.2.1 3)), (0, .ref (g 0))]) hx hb dX7_wipe_7 rfl hl (by decide) rfl (fun ls hl => ?_)
  refine lv_aload_n hx hb dX7_wipe_8 rfl (lv_at hl 1 rfl) ?_
  refine kb_get (v := .ref (g_reader 0)) hx hb hts hin7 hown hK hH 0 rfl rfl rfl 0 (by decide) (hts (.fieldLink RX7 12 "CockWar" "reader" "LCockWar$Reader;") (List.mem_of_getElem? (i := 1) rfl)) (fun _ h9 => h9) rfl dX7_wipe_9 ?_
  refine lv_iconst (v := 0) hx hb dX7_wipe_12 (by decide) ?_
  refine kb_putN (ty := .int) (v := .int (0 : Int32)) (WS' := (w_O7 G g (g_reader 0) a_now a_air a_acts a_sights a_slots a_plan a_trial V ++ w_O4 G g_reader a_reader_ground a_reader_air (oI V_reader 3 (0 : Int32)))) hx hb hts hin4 tyX4 tyX4_ok nmX4 hown hK hH 1 rfl rfl 3 (by decide) (kb_NF hN 29 rfl) (fun _ h9 => h9) rfl (by decide +kernel) rfl rfl (Nat.le_of_ble_eq_true rfl) rfl dX7_wipe_13 (fun H locs hH => ?_)
  refine lv_iload_n hx hb dX7_wipe_16 rfl (lv_at hl 0 rfl) ?_
  subst hF
  exact kb_iret hx hb hr hH rfl rfl dX7_wipe_17 hlocks
def f_X7_fault (V : OV) (V_reader : OV) (V_reader_ground : OV) (V_reader_air : OV) : (Int32 × OV × OV × OV) := (kAp (f_X4_firstFault V_reader V_reader_ground V_reader_air) (fun q1 => (q1.1, q1.2.1, q1.2.2.1, q1.2.2.2)))
set_option maxHeartbeats 4000000 in
set_option maxRecDepth 100000 in
theorem c_X7_fault (l : Launch) (G : Ge) (g : Nat → Nat) (a_now : Nat) (a_air : Nat) (a_acts : Nat) (a_sights : Nat) (a_slots : Nat) (a_plan : Nat) (a_trial : Nat) (V : OV) (g_reader : Nat → Nat) (V_reader : OV) (g_reader_ground : Nat → Nat) (V_reader_ground : OV) (g_reader_air : Nat → Nat) (V_reader_air : OV) {F : (Int32 × OV × OV × OV)} (hF : f_X7_fault V V_reader V_reader_ground V_reader_air = F) : CI l yX7_fault wsX7_fault { frames := 5, cells := 0, slots := 0, locals := 117 } [.ref (g 0)] G (w_O7 G g (g_reader 0) a_now a_air a_acts a_sights a_slots a_plan a_trial V ++ w_O4 G g_reader (g_reader_ground 0) (g_reader_air 0) V_reader ++ w_O2 G g_reader_ground V_reader_ground ++ w_O1 G g_reader_air V_reader_air) (w_O7 G g (g_reader 0) a_now a_air a_acts a_sights a_slots a_plan a_trial V ++ w_O4 G g_reader (g_reader_ground 0) (g_reader_air 0) F.2.1 ++ w_O2 G g_reader_ground F.2.2.1 ++ w_O1 G g_reader_air F.2.2.2) F.1 := by
  intro sz
  refine Met.ofW (cc := cX7_fault) (maxL := 1) (ret := (some .int)) (by decide) rfl ?_
  intro p e s m args below meth c s₁ B hml hv
  obtain ⟨rfl, hpre⟩ := hv
  obtain ⟨hsz, hH, hK, hN, hA⟩ := kb_start hpre
  subst hsz
  have hx := B.exec
  have hb := B.bytes
  have hr := B.returns
  have hts := atoms_spec (ws := wsX7_fault) B.pre
  have hown : s.vm.findClass RX7 = some m.cls := findClass_of_methodNamed B.named
  have hlocks := B.notSynchronized
  generalize hAe : va_A (List.flatten (w_O7 G g (g_reader 0) a_now a_air a_acts a_sights a_slots a_plan a_trial V ++ w_O4 G g_reader (g_reader_ground 0) (g_reader_air 0) V_reader ++ w_O2 G g_reader_ground V_reader_ground ++ w_O1 G g_reader_air V_reader_air)) s.heap.size = A at hH hA ⊢
  have hl := lv_entry ([.ref (g 0)]) (n := 1) (Nat.le_of_ble_eq_true rfl)
  rw [lg_entry_eq]
  generalize (lg_sl ([.ref (g 0)]) ++ List.replicate (1 - (lg_sl ([.ref (g 0)])).length) Slot.unset).toArray = ls at hl ⊢
  have hl : lv_has ls 1 [(0, .ref (g 0))] := hl
  have hH : HP G A s.heap (w_O7 G g (g_reader 0) a_now a_air a_acts a_sights a_slots a_plan a_trial V ++ w_O4 G g_reader (g_reader_ground 0) (g_reader_air 0) V_reader ++ w_O2 G g_reader_ground V_reader_ground ++ w_O1 G g_reader_air V_reader_air) s.heap [] := hH
  have hin7 : ∀ w ∈ u_ws RX7 TX7 9, w ∈ wsX7_fault := fun w h => List.mem_cons_of_mem _ (List.mem_append_left _ (List.mem_append_left _ (List.mem_append_left _ (List.mem_append_right _ h))))
  have hF : (kAp (f_X4_firstFault V_reader V_reader_ground V_reader_air) (fun q1 => (q1.1, q1.2.1, q1.2.2.1, q1.2.2.2))) = F := hF
  refine lv_aload_n hx hb dX7_fault_0 rfl (lv_at hl 0 rfl) ?_
  refine kb_get (v := .ref (g_reader 0)) hx hb hts hin7 hown hK hH 0 rfl rfl rfl 0 (by decide) (hts (.fieldLink RX7 12 "CockWar" "reader" "LCockWar$Reader;") (List.mem_of_getElem? (i := 1) rfl)) (fun _ h9 => h9) rfl dX7_fault_1 ?_
  obtain ⟨q1, hq1⟩ : ∃ z, z = (f_X4_firstFault V_reader V_reader_ground V_reader_air) := ⟨_, rfl⟩
  have hF := kAp_eq hF hq1
  refine kb_ci hH hA [1, 2, 3, 4, 5, 6, 7, 8, 9, 10, 11, 12] (Wc := (w_O4 G g_reader (g_reader_ground 0) (g_reader_air 0) V_reader ++ w_O2 G g_reader_ground V_reader_ground ++ w_O1 G g_reader_air V_reader_air)) (Wc' := (w_O4 G g_reader (g_reader_ground 0) (g_reader_air 0) q1.2.1 ++ w_O2 G g_reader_ground q1.2.2.1 ++ w_O1 G g_reader_air q1.2.2.2)) (WS' := (w_O7 G g (g_reader 0) a_now a_air a_acts a_sights a_slots a_plan a_trial V ++ w_O4 G g_reader (g_reader_ground 0) (g_reader_air 0) q1.2.1 ++ w_O2 G g_reader_ground q1.2.2.1 ++ w_O1 G g_reader_air q1.2.2.2)) rfl (by decide) rfl rfl (va_runVN (C := RX4) (As := []) (rest := []) ⟨hx, hb, hml, hown, hts⟩ (c_X4_firstFault l G g_reader V_reader g_reader_ground V_reader_ground g_reader_air V_reader_air hq1.symm _) ⟨va_cnB 0 hts gX7_fault_X4_firstFault_n73 rfl rfl rfl (kb_NM hN 14 rfl) (hts (.initialized RX4) (List.mem_of_getElem? (i := 3) rfl)) hd_X4_firstFault ⟨Nat.le_of_ble_eq_true rfl, Nat.le_of_ble_eq_true rfl⟩, (hts (.instanceMethod yX4_firstFault) (List.mem_of_getElem? (i := 2) rfl)), (hts (.selects RX4 yX4_firstFault yX4_firstFault) (List.mem_of_getElem? (i := 4) rfl))⟩ (kb_preV hH hK hN [1, 2, 3, 4, 5, 6, 7, 8, 9, 10, 11, 12] rfl (by decide) 1 rfl rfl rfl rfl) rfl rfl hl.1 rfl (lv_room (Nat.le_of_ble_eq_true rfl)) dX7_fault_4 ⟨Nat.le_of_ble_eq_true rfl, Nat.le_of_ble_eq_true rfl⟩) (fun H locs hH => ?_)
  subst hF
  exact kb_iret hx hb hr hH rfl rfl dX7_fault_7 hlocks
def f_X7_tree (V : OV) (V_now : OV) (x0 : Int32) : (Int32) := (if (f_X7_isCell x0) = 0 then (-2 : Int32) else (f_X7_at 10 (V_now.1 0) x0))
set_option maxHeartbeats 4000000 in
set_option maxRecDepth 100000 in
theorem c_X7_tree (l : Launch) (G : Ge) (g : Nat → Nat) (a_reader : Nat) (a_air : Nat) (a_acts : Nat) (a_sights : Nat) (a_slots : Nat) (a_plan : Nat) (a_trial : Nat) (V : OV) (g_now : Nat → Nat) (V_now : OV) (x0 : Int32) {F : (Int32)} (hF : f_X7_tree V V_now x0 = F) : CI l yX7_tree wsX7_tree { frames := 1, cells := 0, slots := 0, locals := 21 } [.ref (g 0), .int x0] G (w_O7 G g a_reader (g_now 0) a_air a_acts a_sights a_slots a_plan a_trial V ++ w_O2 G g_now V_now) (w_O7 G g a_reader (g_now 0) a_air a_acts a_sights a_slots a_plan a_trial V ++ w_O2 G g_now V_now) F := by
  intro sz
  refine Met.ofW (cc := cX7_tree) (maxL := 2) (ret := (some .int)) (by decide) rfl ?_
  intro p e s m args below meth c s₁ B hml hv
  obtain ⟨rfl, hpre⟩ := hv
  obtain ⟨hsz, hH, hK, hN, hA⟩ := kb_start hpre
  subst hsz
  have hx := B.exec
  have hb := B.bytes
  have hr := B.returns
  have hts := atoms_spec (ws := wsX7_tree) B.pre
  have hown : s.vm.findClass RX7 = some m.cls := findClass_of_methodNamed B.named
  have hlocks := B.notSynchronized
  generalize hAe : va_A (List.flatten (w_O7 G g a_reader (g_now 0) a_air a_acts a_sights a_slots a_plan a_trial V ++ w_O2 G g_now V_now)) s.heap.size = A at hH hA ⊢
  have hl := lv_entry ([.ref (g 0), .int x0]) (n := 2) (Nat.le_of_ble_eq_true rfl)
  rw [lg_entry_eq]
  generalize (lg_sl ([.ref (g 0), .int x0]) ++ List.replicate (2 - (lg_sl ([.ref (g 0), .int x0])).length) Slot.unset).toArray = ls at hl ⊢
  have hl : lv_has ls 2 [(0, .ref (g 0)), (1, .int x0)] := hl
  have hH : HP G A s.heap (w_O7 G g a_reader (g_now 0) a_air a_acts a_sights a_slots a_plan a_trial V ++ w_O2 G g_now V_now) s.heap [] := hH
  have hin2 : ∀ w ∈ u_ws RX2 TX2 11, w ∈ wsX7_tree := fun w h => List.mem_cons_of_mem _ (List.mem_append_right _ h)
  have hin7 : ∀ w ∈ u_ws RX7 TX7 9, w ∈ wsX7_tree := fun w h => List.mem_cons_of_mem _ (List.mem_append_left _ (List.mem_append_right _ h))
  have hF : (if (f_X7_isCell x0) = 0 then (-2 : Int32) else (f_X7_at 10 (V_now.1 0) x0)) = F := hF
  refine lv_iload_n hx hb dX7_tree_0 rfl (lv_at hl 1 rfl) ?_
  refine kb_ci hH hA [] (Wc := ([] : List va_W)) (Wc' := ([] : List va_W)) (WS' := (w_O7 G g a_reader (g_now 0) a_air a_acts a_sights a_slots a_plan a_trial V ++ w_O2 G g_now V_now)) rfl (by decide) rfl rfl (va_runS (As := [.int x0]) (rest := []) ⟨hx, hb, hml, hown, hts⟩ (c_X7_isCell l G x0 rfl _) (va_cwS 1 hts gX7_tree_X7_isCell rfl rfl rfl hd_X7_isCell ⟨Nat.le_of_ble_eq_true rfl, Nat.le_of_ble_eq_true rfl⟩) (kb_preS hH hK hN [] rfl (by decide)) rfl rfl hl.1 rfl (lv_room (Nat.le_of_ble_eq_true rfl)) dX7_tree_1 ⟨Nat.le_of_ble_eq_true rfl, Nat.le_of_ble_eq_true rfl⟩) (fun H locs hH => ?_)
  refine lv_if_eq (tgt := 21) hx hb dX7_tree_4 (by decide) (fun c1 => ?_) (fun c1 => ?_)
  · rw [if_pos c1] at hF
    refine lv_bipush (v := -2) hx hb dX7_tree_21 (by decide) ?_
    subst hF
    exact kb_iret hx hb hr hH rfl rfl dX7_tree_23 hlocks
  · rw [if_neg c1] at hF
    refine lv_aload_n hx hb dX7_tree_7 rfl (lv_at hl 0 rfl) ?_
    refine kb_get (v := .ref (g_now 0)) hx hb hts hin7 hown hK hH 0 rfl rfl rfl 1 (by decide) (hts (.fieldLink RX7 19 "CockWar" "now" "LCockWar$Hill;") (List.mem_of_getElem? (i := 1) rfl)) (fun _ h9 => h9) rfl dX7_tree_8 ?_
    refine kb_getN (v := .ref (g_now 1)) hx hb hts hin2 hown hK hH 1 rfl rfl rfl 0 (by decide) (kb_NF hN 2 rfl) (fun _ h9 => h9) rfl dX7_tree_11 ?_
    refine lv_iload_n hx hb dX7_tree_14 rfl (lv_at hl 1 rfl) ?_
    refine kb_ci hH hA [2] (Wc := ([b_arr G (g_now 1) 10 (V_now.1 0)])) (Wc' := ([b_arr G (g_now 1) 10 (V_now.1 0)])) (WS' := (w_O7 G g a_reader (g_now 0) a_air a_acts a_sights a_slots a_plan a_trial V ++ w_O2 G g_now V_now)) rfl (by decide) rfl rfl (va_runS (As := [.ref (g_now 1), .int x0]) (rest := []) ⟨hx, hb, hml, hown, hts⟩ (c_X7_at l G (g_now 1) 10 (V_now.1 0) x0 (by decide) rfl _) (va_cwS 2 hts gX7_tree_X7_at rfl rfl rfl hd_X7_at ⟨Nat.le_of_ble_eq_true rfl, Nat.le_of_ble_eq_true rfl⟩) (kb_preS hH hK hN [2] rfl (by decide)) rfl rfl hl.1 rfl (lv_room (Nat.le_of_ble_eq_true rfl)) dX7_tree_15 ⟨Nat.le_of_ble_eq_true rfl, Nat.le_of_ble_eq_true rfl⟩) (fun H locs hH => ?_)
    refine lv_goto (tgt := 23) hx hb dX7_tree_18 (by decide) ?_
    subst hF
    exact kb_iret hx hb hr hH rfl rfl dX7_tree_23 hlocks
def f_X7_cock (V : OV) (V_now : OV) (x0 : Int32) (x1 : Int32) : (Int32) := (if (f_X2_hasCock V_now x0) = 0 then (-1 : Int32) else (if x1 = (0 : Int32) then (f_X7_at 6 (V_now.1 1) x0) else (if x1 = (1 : Int32) then (f_X7_bit (V_now.2.1 6) x0) else (if x1 = (2 : Int32) then (f_X7_at 6 (V_now.1 2) x0) else (if x1 = (3 : Int32) then (f_X7_at 6 (V_now.1 3) x0) else (if x1 = (4 : Int32) then (f_X7_at 6 (V_now.1 4) x0) else (if x1 = (5 : Int32) then (f_X7_bit (V_now.2.1 7) x0) else (if x1 = (6 : Int32) then (f_X7_bit (V_now.2.1 8) x0) else (-2 : Int32)))))))))
set_option maxHeartbeats 4000000 in
set_option maxRecDepth 100000 in
theorem c_X7_cock (l : Launch) (G : Ge) (g : Nat → Nat) (a_reader : Nat) (a_air : Nat) (a_acts : Nat) (a_sights : Nat) (a_slots : Nat) (a_plan : Nat) (a_trial : Nat) (V : OV) (g_now : Nat → Nat) (V_now : OV) (x0 : Int32) (x1 : Int32) {F : (Int32)} (hF : f_X7_cock V V_now x0 x1 = F) : CI l yX7_cock wsX7_cock { frames := 1, cells := 0, slots := 0, locals := 21 } [.ref (g 0), .int x0, .int x1] G (w_O7 G g a_reader (g_now 0) a_air a_acts a_sights a_slots a_plan a_trial V ++ w_O2 G g_now V_now) (w_O7 G g a_reader (g_now 0) a_air a_acts a_sights a_slots a_plan a_trial V ++ w_O2 G g_now V_now) F := by
  intro sz
  refine Met.ofW (cc := cX7_cock) (maxL := 3) (ret := (some .int)) (by decide) rfl ?_
  intro p e s m args below meth c s₁ B hml hv
  obtain ⟨rfl, hpre⟩ := hv
  obtain ⟨hsz, hH, hK, hN, hA⟩ := kb_start hpre
  subst hsz
  have hx := B.exec
  have hb := B.bytes
  have hr := B.returns
  have hts := atoms_spec (ws := wsX7_cock) B.pre
  have hown : s.vm.findClass RX7 = some m.cls := findClass_of_methodNamed B.named
  have hlocks := B.notSynchronized
  generalize hAe : va_A (List.flatten (w_O7 G g a_reader (g_now 0) a_air a_acts a_sights a_slots a_plan a_trial V ++ w_O2 G g_now V_now)) s.heap.size = A at hH hA ⊢
  have hl := lv_entry ([.ref (g 0), .int x0, .int x1]) (n := 3) (Nat.le_of_ble_eq_true rfl)
  rw [lg_entry_eq]
  generalize (lg_sl ([.ref (g 0), .int x0, .int x1]) ++ List.replicate (3 - (lg_sl ([.ref (g 0), .int x0, .int x1])).length) Slot.unset).toArray = ls at hl ⊢
  have hl : lv_has ls 3 [(0, .ref (g 0)), (1, .int x0), (2, .int x1)] := hl
  have hH : HP G A s.heap (w_O7 G g a_reader (g_now 0) a_air a_acts a_sights a_slots a_plan a_trial V ++ w_O2 G g_now V_now) s.heap [] := hH
  have hin2 : ∀ w ∈ u_ws RX2 TX2 11, w ∈ wsX7_cock := fun w h => List.mem_cons_of_mem _ (List.mem_append_right _ h)
  have hin7 : ∀ w ∈ u_ws RX7 TX7 9, w ∈ wsX7_cock := fun w h => List.mem_cons_of_mem _ (List.mem_append_left _ (List.mem_append_right _ h))
  have hF : (if (f_X2_hasCock V_now x0) = 0 then (-1 : Int32) else (if x1 = (0 : Int32) then (f_X7_at 6 (V_now.1 1) x0) else (if x1 = (1 : Int32) then (f_X7_bit (V_now.2.1 6) x0) else (if x1 = (2 : Int32) then (f_X7_at 6 (V_now.1 2) x0) else (if x1 = (3 : Int32) then (f_X7_at 6 (V_now.1 3) x0) else (if x1 = (4 : Int32) then (f_X7_at 6 (V_now.1 4) x0) else (if x1 = (5 : Int32) then (f_X7_bit (V_now.2.1 7) x0) else (if x1 = (6 : Int32) then (f_X7_bit (V_now.2.1 8) x0) else (-2 : Int32))))))))) = F := hF
  refine lv_aload_n hx hb dX7_cock_0 rfl (lv_at hl 0 rfl) ?_
  refine kb_get (v := .ref (g_now 0)) hx hb hts hin7 hown hK hH 0 rfl rfl rfl 1 (by decide) (hts (.fieldLink RX7 19 "CockWar" "now" "LCockWar$Hill;") (List.mem_of_getElem? (i := 1) rfl)) (fun _ h9 => h9) rfl dX7_cock_1 ?_
  refine lv_iload_n hx hb dX7_cock_4 rfl (lv_at hl 1 rfl) ?_
  refine kb_ci hH hA [1, 2, 3, 4, 5, 6] (Wc := (w_O2 G g_now V_now)) (Wc' := (w_O2 G g_now V_now)) (WS' := (w_O7 G g a_reader (g_now 0) a_air a_acts a_sights a_slots a_plan a_trial V ++ w_O2 G g_now V_now)) rfl (by decide) rfl rfl (va_runVN (C := RX2) (As := [.int x0]) (rest := []) ⟨hx, hb, hml, hown, hts⟩ (c_X2_hasCock l G g_now V_now x0 rfl _) ⟨va_cnB 1 hts gX7_cock_X2_hasCock_n110 rfl rfl rfl (kb_NM hN 31 rfl) (hts (.initialized RX2) (List.mem_of_getElem? (i := 3) rfl)) hd_X2_hasCock ⟨Nat.le_of_ble_eq_true rfl, Nat.le_of_ble_eq_true rfl⟩, (hts (.instanceMethod yX2_hasCock) (List.mem_of_getElem? (i := 2) rfl)), (hts (.selects RX2 yX2_hasCock yX2_hasCock) (List.mem_of_getElem? (i := 4) rfl))⟩ (kb_preV hH hK hN [1, 2, 3, 4, 5, 6] rfl (by decide) 1 rfl rfl rfl rfl) rfl rfl hl.1 rfl (lv_room (Nat.le_of_ble_eq_true rfl)) dX7_cock_5 ⟨Nat.le_of_ble_eq_true rfl, Nat.le_of_ble_eq_true rfl⟩) (fun H locs hH => ?_)
  refine lv_if_ne (tgt := 13) hx hb dX7_cock_8 (by decide) (fun c1 => ?_) (fun c1 => ?_)
  · rw [if_neg c1] at hF
    refine lv_iload_n hx hb dX7_cock_13 rfl (lv_at hl 2 rfl) ?_
    by_cases c2 : x1 = (0 : Int32)
    · rw [if_pos c2] at hF
      refine lv_tableIn (tgt := 56) (off := 42) hx hb dX7_cock_14 (by rw [c2]; decide) (by rw [c2]; decide) (by rw [c2]; rfl) (by decide) ?_
      refine lv_aload_n hx hb dX7_cock_56 rfl (lv_at hl 0 rfl) ?_
      refine kb_get (v := .ref (g_now 0)) hx hb hts hin7 hown hK hH 0 rfl rfl rfl 1 (by decide) (hts (.fieldLink RX7 19 "CockWar" "now" "LCockWar$Hill;") (List.mem_of_getElem? (i := 1) rfl)) (fun _ h9 => h9) rfl dX7_cock_57 ?_
      refine kb_getN (v := .ref (g_now 2)) hx hb hts hin2 hown hK hH 1 rfl rfl rfl 1 (by decide) (kb_NF hN 4 rfl) (fun _ h9 => h9) rfl dX7_cock_60 ?_
      refine lv_iload_n hx hb dX7_cock_63 rfl (lv_at hl 1 rfl) ?_
      refine kb_ci hH hA [3] (Wc := ([b_arr G (g_now 2) 6 (V_now.1 1)])) (Wc' := ([b_arr G (g_now 2) 6 (V_now.1 1)])) (WS' := (w_O7 G g a_reader (g_now 0) a_air a_acts a_sights a_slots a_plan a_trial V ++ w_O2 G g_now V_now)) rfl (by decide) rfl rfl (va_runS (As := [.ref (g_now 2), .int x0]) (rest := []) ⟨hx, hb, hml, hown, hts⟩ (c_X7_at l G (g_now 2) 6 (V_now.1 1) x0 (by decide) rfl _) (va_cwS 2 hts gX7_cock_X7_at rfl rfl rfl hd_X7_at ⟨Nat.le_of_ble_eq_true rfl, Nat.le_of_ble_eq_true rfl⟩) (kb_preS hH hK hN [3] rfl (by decide)) rfl rfl hl.1 rfl (lv_room (Nat.le_of_ble_eq_true rfl)) dX7_cock_64 ⟨Nat.le_of_ble_eq_true rfl, Nat.le_of_ble_eq_true rfl⟩) (fun H locs hH => ?_)
      subst hF
      exact kb_iret hx hb hr hH rfl rfl dX7_cock_67 hlocks
    · rw [if_neg c2] at hF
      by_cases c3 : x1 = (1 : Int32)
      · rw [if_pos c3] at hF
        refine lv_tableIn (tgt := 68) (off := 54) hx hb dX7_cock_14 (by rw [c3]; decide) (by rw [c3]; decide) (by rw [c3]; rfl) (by decide) ?_
        refine lv_aload_n hx hb dX7_cock_68 rfl (lv_at hl 0 rfl) ?_
        refine kb_get (v := .ref (g_now 0)) hx hb hts hin7 hown hK hH 0 rfl rfl rfl 1 (by decide) (hts (.fieldLink RX7 19 "CockWar" "now" "LCockWar$Hill;") (List.mem_of_getElem? (i := 1) rfl)) (fun _ h9 => h9) rfl dX7_cock_69 ?_
        refine kb_getN (v := .int (V_now.2.1 6)) hx hb hts hin2 hown hK hH 1 rfl rfl rfl 6 (by decide) (kb_NF hN 12 rfl) (fun _ h9 => h9) rfl dX7_cock_72 ?_
        refine lv_iload_n hx hb dX7_cock_75 rfl (lv_at hl 1 rfl) ?_
        refine kb_ci hH hA [] (Wc := ([] : List va_W)) (Wc' := ([] : List va_W)) (WS' := (w_O7 G g a_reader (g_now 0) a_air a_acts a_sights a_slots a_plan a_trial V ++ w_O2 G g_now V_now)) rfl (by decide) rfl rfl (va_runS (As := [.int (V_now.2.1 6), .int x0]) (rest := []) ⟨hx, hb, hml, hown, hts⟩ (c_X7_bit l G (V_now.2.1 6) x0 rfl _) (va_cwS 2 hts gX7_cock_X7_bit rfl rfl rfl hd_X7_bit ⟨Nat.le_of_ble_eq_true rfl, Nat.le_of_ble_eq_true rfl⟩) (kb_preS hH hK hN [] rfl (by decide)) rfl rfl hl.1 rfl (lv_room (Nat.le_of_ble_eq_true rfl)) dX7_cock_76 ⟨Nat.le_of_ble_eq_true rfl, Nat.le_of_ble_eq_true rfl⟩) (fun H locs hH => ?_)
        subst hF
        exact kb_iret hx hb hr hH rfl rfl dX7_cock_79 hlocks
      · rw [if_neg c3] at hF
        by_cases c4 : x1 = (2 : Int32)
        · rw [if_pos c4] at hF
          refine lv_tableIn (tgt := 80) (off := 66) hx hb dX7_cock_14 (by rw [c4]; decide) (by rw [c4]; decide) (by rw [c4]; rfl) (by decide) ?_
          refine lv_aload_n hx hb dX7_cock_80 rfl (lv_at hl 0 rfl) ?_
          refine kb_get (v := .ref (g_now 0)) hx hb hts hin7 hown hK hH 0 rfl rfl rfl 1 (by decide) (hts (.fieldLink RX7 19 "CockWar" "now" "LCockWar$Hill;") (List.mem_of_getElem? (i := 1) rfl)) (fun _ h9 => h9) rfl dX7_cock_81 ?_
          refine kb_getN (v := .ref (g_now 3)) hx hb hts hin2 hown hK hH 1 rfl rfl rfl 2 (by decide) (kb_NF hN 5 rfl) (fun _ h9 => h9) rfl dX7_cock_84 ?_
          refine lv_iload_n hx hb dX7_cock_87 rfl (lv_at hl 1 rfl) ?_
          refine kb_ci hH hA [4] (Wc := ([b_arr G (g_now 3) 6 (V_now.1 2)])) (Wc' := ([b_arr G (g_now 3) 6 (V_now.1 2)])) (WS' := (w_O7 G g a_reader (g_now 0) a_air a_acts a_sights a_slots a_plan a_trial V ++ w_O2 G g_now V_now)) rfl (by decide) rfl rfl (va_runS (As := [.ref (g_now 3), .int x0]) (rest := []) ⟨hx, hb, hml, hown, hts⟩ (c_X7_at l G (g_now 3) 6 (V_now.1 2) x0 (by decide) rfl _) (va_cwS 2 hts gX7_cock_X7_at rfl rfl rfl hd_X7_at ⟨Nat.le_of_ble_eq_true rfl, Nat.le_of_ble_eq_true rfl⟩) (kb_preS hH hK hN [4] rfl (by decide)) rfl rfl hl.1 rfl (lv_room (Nat.le_of_ble_eq_true rfl)) dX7_cock_88 ⟨Nat.le_of_ble_eq_true rfl, Nat.le_of_ble_eq_true rfl⟩) (fun H locs hH => ?_)
          subst hF
          exact kb_iret hx hb hr hH rfl rfl dX7_cock_91 hlocks
        · rw [if_neg c4] at hF
          by_cases c5 : x1 = (3 : Int32)
          · rw [if_pos c5] at hF
            refine lv_tableIn (tgt := 92) (off := 78) hx hb dX7_cock_14 (by rw [c5]; decide) (by rw [c5]; decide) (by rw [c5]; rfl) (by decide) ?_
            refine lv_aload_n hx hb dX7_cock_92 rfl (lv_at hl 0 rfl) ?_
            refine kb_get (v := .ref (g_now 0)) hx hb hts hin7 hown hK hH 0 rfl rfl rfl 1 (by decide) (hts (.fieldLink RX7 19 "CockWar" "now" "LCockWar$Hill;") (List.mem_of_getElem? (i := 1) rfl)) (fun _ h9 => h9) rfl dX7_cock_93 ?_
            refine kb_getN (v := .ref (g_now 4)) hx hb hts hin2 hown hK hH 1 rfl rfl rfl 3 (by decide) (kb_NF hN 6 rfl) (fun _ h9 => h9) rfl dX7_cock_96 ?_
            refine lv_iload_n hx hb dX7_cock_99 rfl (lv_at hl 1 rfl) ?_
            refine kb_ci hH hA [5] (Wc := ([b_arr G (g_now 4) 6 (V_now.1 3)])) (Wc' := ([b_arr G (g_now 4) 6 (V_now.1 3)])) (WS' := (w_O7 G g a_reader (g_now 0) a_air a_acts a_sights a_slots a_plan a_trial V ++ w_O2 G g_now V_now)) rfl (by decide) rfl rfl (va_runS (As := [.ref (g_now 4), .int x0]) (rest := []) ⟨hx, hb, hml, hown, hts⟩ (c_X7_at l G (g_now 4) 6 (V_now.1 3) x0 (by decide) rfl _) (va_cwS 2 hts gX7_cock_X7_at rfl rfl rfl hd_X7_at ⟨Nat.le_of_ble_eq_true rfl, Nat.le_of_ble_eq_true rfl⟩) (kb_preS hH hK hN [5] rfl (by decide)) rfl rfl hl.1 rfl (lv_room (Nat.le_of_ble_eq_true rfl)) dX7_cock_100 ⟨Nat.le_of_ble_eq_true rfl, Nat.le_of_ble_eq_true rfl⟩) (fun H locs hH => ?_)
            subst hF
            exact kb_iret hx hb hr hH rfl rfl dX7_cock_103 hlocks
          · rw [if_neg c5] at hF
            by_cases c6 : x1 = (4 : Int32)
            · rw [if_pos c6] at hF
              refine lv_tableIn (tgt := 104) (off := 90) hx hb dX7_cock_14 (by rw [c6]; decide) (by rw [c6]; decide) (by rw [c6]; rfl) (by decide) ?_
              refine lv_aload_n hx hb dX7_cock_104 rfl (lv_at hl 0 rfl) ?_
              refine kb_get (v := .ref (g_now 0)) hx hb hts hin7 hown hK hH 0 rfl rfl rfl 1 (by decide) (hts (.fieldLink RX7 19 "CockWar" "now" "LCockWar$Hill;") (List.mem_of_getElem? (i := 1) rfl)) (fun _ h9 => h9) rfl dX7_cock_105 ?_
              refine kb_getN (v := .ref (g_now 5)) hx hb hts hin2 hown hK hH 1 rfl rfl rfl 4 (by decide) (kb_NF hN 7 rfl) (fun _ h9 => h9) rfl dX7_cock_108 ?_
              refine lv_iload_n hx hb dX7_cock_111 rfl (lv_at hl 1 rfl) ?_
              refine kb_ci hH hA [6] (Wc := ([b_arr G (g_now 5) 6 (V_now.1 4)])) (Wc' := ([b_arr G (g_now 5) 6 (V_now.1 4)])) (WS' := (w_O7 G g a_reader (g_now 0) a_air a_acts a_sights a_slots a_plan a_trial V ++ w_O2 G g_now V_now)) rfl (by decide) rfl rfl (va_runS (As := [.ref (g_now 5), .int x0]) (rest := []) ⟨hx, hb, hml, hown, hts⟩ (c_X7_at l G (g_now 5) 6 (V_now.1 4) x0 (by decide) rfl _) (va_cwS 2 hts gX7_cock_X7_at rfl rfl rfl hd_X7_at ⟨Nat.le_of_ble_eq_true rfl, Nat.le_of_ble_eq_true rfl⟩) (kb_preS hH hK hN [6] rfl (by decide)) rfl rfl hl.1 rfl (lv_room (Nat.le_of_ble_eq_true rfl)) dX7_cock_112 ⟨Nat.le_of_ble_eq_true rfl, Nat.le_of_ble_eq_true rfl⟩) (fun H locs hH => ?_)
              subst hF
              exact kb_iret hx hb hr hH rfl rfl dX7_cock_115 hlocks
            · rw [if_neg c6] at hF
              by_cases c7 : x1 = (5 : Int32)
              · rw [if_pos c7] at hF
                refine lv_tableIn (tgt := 116) (off := 102) hx hb dX7_cock_14 (by rw [c7]; decide) (by rw [c7]; decide) (by rw [c7]; rfl) (by decide) ?_
                refine lv_aload_n hx hb dX7_cock_116 rfl (lv_at hl 0 rfl) ?_
                refine kb_get (v := .ref (g_now 0)) hx hb hts hin7 hown hK hH 0 rfl rfl rfl 1 (by decide) (hts (.fieldLink RX7 19 "CockWar" "now" "LCockWar$Hill;") (List.mem_of_getElem? (i := 1) rfl)) (fun _ h9 => h9) rfl dX7_cock_117 ?_
                refine kb_getN (v := .int (V_now.2.1 7)) hx hb hts hin2 hown hK hH 1 rfl rfl rfl 7 (by decide) (kb_NF hN 14 rfl) (fun _ h9 => h9) rfl dX7_cock_120 ?_
                refine lv_iload_n hx hb dX7_cock_123 rfl (lv_at hl 1 rfl) ?_
                refine kb_ci hH hA [] (Wc := ([] : List va_W)) (Wc' := ([] : List va_W)) (WS' := (w_O7 G g a_reader (g_now 0) a_air a_acts a_sights a_slots a_plan a_trial V ++ w_O2 G g_now V_now)) rfl (by decide) rfl rfl (va_runS (As := [.int (V_now.2.1 7), .int x0]) (rest := []) ⟨hx, hb, hml, hown, hts⟩ (c_X7_bit l G (V_now.2.1 7) x0 rfl _) (va_cwS 2 hts gX7_cock_X7_bit rfl rfl rfl hd_X7_bit ⟨Nat.le_of_ble_eq_true rfl, Nat.le_of_ble_eq_true rfl⟩) (kb_preS hH hK hN [] rfl (by decide)) rfl rfl hl.1 rfl (lv_room (Nat.le_of_ble_eq_true rfl)) dX7_cock_124 ⟨Nat.le_of_ble_eq_true rfl, Nat.le_of_ble_eq_true rfl⟩) (fun H locs hH => ?_)
                subst hF
                exact kb_iret hx hb hr hH rfl rfl dX7_cock_127 hlocks
              · rw [if_neg c7] at hF
                by_cases c8 : x1 = (6 : Int32)
                · rw [if_pos c8] at hF
                  refine lv_tableIn (tgt := 128) (off := 114) hx hb dX7_cock_14 (by rw [c8]; decide) (by rw [c8]; decide) (by rw [c8]; rfl) (by decide) ?_
                  refine lv_aload_n hx hb dX7_cock_128 rfl (lv_at hl 0 rfl) ?_
                  refine kb_get (v := .ref (g_now 0)) hx hb hts hin7 hown hK hH 0 rfl rfl rfl 1 (by decide) (hts (.fieldLink RX7 19 "CockWar" "now" "LCockWar$Hill;") (List.mem_of_getElem? (i := 1) rfl)) (fun _ h9 => h9) rfl dX7_cock_129 ?_
                  refine kb_getN (v := .int (V_now.2.1 8)) hx hb hts hin2 hown hK hH 1 rfl rfl rfl 8 (by decide) (kb_NF hN 16 rfl) (fun _ h9 => h9) rfl dX7_cock_132 ?_
                  refine lv_iload_n hx hb dX7_cock_135 rfl (lv_at hl 1 rfl) ?_
                  refine kb_ci hH hA [] (Wc := ([] : List va_W)) (Wc' := ([] : List va_W)) (WS' := (w_O7 G g a_reader (g_now 0) a_air a_acts a_sights a_slots a_plan a_trial V ++ w_O2 G g_now V_now)) rfl (by decide) rfl rfl (va_runS (As := [.int (V_now.2.1 8), .int x0]) (rest := []) ⟨hx, hb, hml, hown, hts⟩ (c_X7_bit l G (V_now.2.1 8) x0 rfl _) (va_cwS 2 hts gX7_cock_X7_bit rfl rfl rfl hd_X7_bit ⟨Nat.le_of_ble_eq_true rfl, Nat.le_of_ble_eq_true rfl⟩) (kb_preS hH hK hN [] rfl (by decide)) rfl rfl hl.1 rfl (lv_room (Nat.le_of_ble_eq_true rfl)) dX7_cock_136 ⟨Nat.le_of_ble_eq_true rfl, Nat.le_of_ble_eq_true rfl⟩) (fun H locs hH => ?_)
                  subst hF
                  exact kb_iret hx hb hr hH rfl rfl dX7_cock_139 hlocks
                · rw [if_neg c8] at hF
                  refine lv_tableOut (tgt := 140) hx hb dX7_cock_14 (by have z0 := lv_neT (a := 0) c2 rfl; have z1 := lv_neT (a := 1) c3 rfl; have z2 := lv_neT (a := 2) c4 rfl; have z3 := lv_neT (a := 3) c5 rfl; have z4 := lv_neT (a := 4) c6 rfl; have z5 := lv_neT (a := 5) c7 rfl; have z6 := lv_neT (a := 6) c8 rfl; omega) (by decide) ?_
                  refine lv_bipush (v := -2) hx hb dX7_cock_140 (by decide) ?_
                  subst hF
                  exact kb_iret hx hb hr hH rfl rfl dX7_cock_142 hlocks
  · rw [if_pos c1] at hF
    refine lv_iconst (v := -1) hx hb dX7_cock_11 (by decide) ?_
    subst hF
    exact kb_iret hx hb hr hH rfl rfl dX7_cock_12 hlocks
def f_X7_wind (V : OV) (V_air : OV) (V_now : OV) (x0 : Int32) (x1 : Int32) : (Int32) := (if (f_X1_hasWind V_air x0) = 0 then (-1 : Int32) else (if x1 = (0 : Int32) then (f_X7_at 4 (V_air.1 0) x0) else (if x1 = (1 : Int32) then (f_X7_at 4 (V_air.1 1) x0) else (if x1 = (2 : Int32) then (f_X7_at 4 (V_air.1 2) x0) else (if x1 = (3 : Int32) then ((V_now.2.1 7) ^^^ (f_X1_waysBehind V_air V_now x0 (V_now.2.1 8) (0 : Int32))) else (-2 : Int32))))))
set_option maxHeartbeats 4000000 in
set_option maxRecDepth 100000 in
theorem c_X7_wind (l : Launch) (G : Ge) (g : Nat → Nat) (a_reader : Nat) (a_acts : Nat) (a_sights : Nat) (a_slots : Nat) (a_plan : Nat) (a_trial : Nat) (V : OV) (g_air : Nat → Nat) (V_air : OV) (g_now : Nat → Nat) (V_now : OV) (x0 : Int32) (x1 : Int32) {F : (Int32)} (hF : f_X7_wind V V_air V_now x0 x1 = F) : CI l yX7_wind wsX7_wind { frames := 3, cells := 0, slots := 0, locals := 74 } [.ref (g 0), .int x0, .int x1] G (w_O7 G g a_reader (g_now 0) (g_air 0) a_acts a_sights a_slots a_plan a_trial V ++ w_O1 G g_air V_air ++ w_O2 G g_now V_now) (w_O7 G g a_reader (g_now 0) (g_air 0) a_acts a_sights a_slots a_plan a_trial V ++ w_O1 G g_air V_air ++ w_O2 G g_now V_now) F := by
  intro sz
  refine Met.ofW (cc := cX7_wind) (maxL := 3) (ret := (some .int)) (by decide) rfl ?_
  intro p e s m args below meth c s₁ B hml hv
  obtain ⟨rfl, hpre⟩ := hv
  obtain ⟨hsz, hH, hK, hN, hA⟩ := kb_start hpre
  subst hsz
  have hx := B.exec
  have hb := B.bytes
  have hr := B.returns
  have hts := atoms_spec (ws := wsX7_wind) B.pre
  have hown : s.vm.findClass RX7 = some m.cls := findClass_of_methodNamed B.named
  have hlocks := B.notSynchronized
  generalize hAe : va_A (List.flatten (w_O7 G g a_reader (g_now 0) (g_air 0) a_acts a_sights a_slots a_plan a_trial V ++ w_O1 G g_air V_air ++ w_O2 G g_now V_now)) s.heap.size = A at hH hA ⊢
  have hl := lv_entry ([.ref (g 0), .int x0, .int x1]) (n := 3) (Nat.le_of_ble_eq_true rfl)
  rw [lg_entry_eq]
  generalize (lg_sl ([.ref (g 0), .int x0, .int x1]) ++ List.replicate (3 - (lg_sl ([.ref (g 0), .int x0, .int x1])).length) Slot.unset).toArray = ls at hl ⊢
  have hl : lv_has ls 3 [(0, .ref (g 0)), (1, .int x0), (2, .int x1)] := hl
  have hH : HP G A s.heap (w_O7 G g a_reader (g_now 0) (g_air 0) a_acts a_sights a_slots a_plan a_trial V ++ w_O1 G g_air V_air ++ w_O2 G g_now V_now) s.heap [] := hH
  have hin1 : ∀ w ∈ u_ws RX1 TX1 4, w ∈ wsX7_wind := fun w h => List.mem_cons_of_mem _ (List.mem_append_left _ (List.mem_append_right _ h))
  have hin2 : ∀ w ∈ u_ws RX2 TX2 11, w ∈ wsX7_wind := fun w h => List.mem_cons_of_mem _ (List.mem_append_right _ h)
  have hin7 : ∀ w ∈ u_ws RX7 TX7 9, w ∈ wsX7_wind := fun w h => List.mem_cons_of_mem _ (List.mem_append_left _ (List.mem_append_left _ (List.mem_append_right _ h)))
  have hF : (if (f_X1_hasWind V_air x0) = 0 then (-1 : Int32) else (if x1 = (0 : Int32) then (f_X7_at 4 (V_air.1 0) x0) else (if x1 = (1 : Int32) then (f_X7_at 4 (V_air.1 1) x0) else (if x1 = (2 : Int32) then (f_X7_at 4 (V_air.1 2) x0) else (if x1 = (3 : Int32) then ((V_now.2.1 7) ^^^ (f_X1_waysBehind V_air V_now x0 (V_now.2.1 8) (0 : Int32))) else (-2 : Int32)))))) = F := hF
  refine lv_aload_n hx hb dX7_wind_0 rfl (lv_at hl 0 rfl) ?_
  refine kb_get (v := .ref (g_air 0)) hx hb hts hin7 hown hK hH 0 rfl rfl rfl 2 (by decide) (hts (.fieldLink RX7 26 "CockWar" "air" "LCockWar$Air;") (List.mem_of_getElem? (i := 1) rfl)) (fun _ h9 => h9) rfl dX7_wind_1 ?_
  refine lv_iload_n hx hb dX7_wind_4 rfl (lv_at hl 1 rfl) ?_
  refine kb_ci hH hA [1, 2, 3, 4] (Wc := (w_O1 G g_air V_air)) (Wc' := (w_O1 G g_air V_air)) (WS' := (w_O7 G g a_reader (g_now 0) (g_air 0) a_acts a_sights a_slots a_plan a_trial V ++ w_O1 G g_air V_air ++ w_O2 G g_now V_now)) rfl (by decide) rfl rfl (va_runVN (C := RX1) (As := [.int x0]) (rest := []) ⟨hx, hb, hml, hown, hts⟩ (c_X1_hasWind l G g_air V_air x0 rfl _) ⟨va_cnB 1 hts gX7_wind_X1_hasWind_n138 rfl rfl rfl (kb_NM hN 32 rfl) (hts (.initialized RX1) (List.mem_of_getElem? (i := 4) rfl)) hd_X1_hasWind ⟨Nat.le_of_ble_eq_true rfl, Nat.le_of_ble_eq_true rfl⟩, (hts (.instanceMethod yX1_hasWind) (List.mem_of_getElem? (i := 3) rfl)), (hts (.selects RX1 yX1_hasWind yX1_hasWind) (List.mem_of_getElem? (i := 5) rfl))⟩ (kb_preV hH hK hN [1, 2, 3, 4] rfl (by decide) 1 rfl rfl rfl rfl) rfl rfl hl.1 rfl (lv_room (Nat.le_of_ble_eq_true rfl)) dX7_wind_5 ⟨Nat.le_of_ble_eq_true rfl, Nat.le_of_ble_eq_true rfl⟩) (fun H locs hH => ?_)
  refine lv_if_ne (tgt := 13) hx hb dX7_wind_8 (by decide) (fun c1 => ?_) (fun c1 => ?_)
  · rw [if_neg c1] at hF
    refine lv_iload_n hx hb dX7_wind_13 rfl (lv_at hl 2 rfl) ?_
    by_cases c2 : x1 = (0 : Int32)
    · rw [if_pos c2] at hF
      refine lv_tableIn (tgt := 44) (off := 30) hx hb dX7_wind_14 (by rw [c2]; decide) (by rw [c2]; decide) (by rw [c2]; rfl) (by decide) ?_
      refine lv_aload_n hx hb dX7_wind_44 rfl (lv_at hl 0 rfl) ?_
      refine kb_get (v := .ref (g_air 0)) hx hb hts hin7 hown hK hH 0 rfl rfl rfl 2 (by decide) (hts (.fieldLink RX7 26 "CockWar" "air" "LCockWar$Air;") (List.mem_of_getElem? (i := 1) rfl)) (fun _ h9 => h9) rfl dX7_wind_45 ?_
      refine kb_getN (v := .ref (g_air 1)) hx hb hts hin1 hown hK hH 1 rfl rfl rfl 0 (by decide) (kb_NF hN 22 rfl) (fun _ h9 => h9) rfl dX7_wind_48 ?_
      refine lv_iload_n hx hb dX7_wind_51 rfl (lv_at hl 1 rfl) ?_
      refine kb_ci hH hA [2] (Wc := ([b_arr G (g_air 1) 4 (V_air.1 0)])) (Wc' := ([b_arr G (g_air 1) 4 (V_air.1 0)])) (WS' := (w_O7 G g a_reader (g_now 0) (g_air 0) a_acts a_sights a_slots a_plan a_trial V ++ w_O1 G g_air V_air ++ w_O2 G g_now V_now)) rfl (by decide) rfl rfl (va_runS (As := [.ref (g_air 1), .int x0]) (rest := []) ⟨hx, hb, hml, hown, hts⟩ (c_X7_at l G (g_air 1) 4 (V_air.1 0) x0 (by decide) rfl _) (va_cwS 2 hts gX7_wind_X7_at rfl rfl rfl hd_X7_at ⟨Nat.le_of_ble_eq_true rfl, Nat.le_of_ble_eq_true rfl⟩) (kb_preS hH hK hN [2] rfl (by decide)) rfl rfl hl.1 rfl (lv_room (Nat.le_of_ble_eq_true rfl)) dX7_wind_52 ⟨Nat.le_of_ble_eq_true rfl, Nat.le_of_ble_eq_true rfl⟩) (fun H locs hH => ?_)
      subst hF
      exact kb_iret hx hb hr hH rfl rfl dX7_wind_55 hlocks
    · rw [if_neg c2] at hF
      by_cases c3 : x1 = (1 : Int32)
      · rw [if_pos c3] at hF
        refine lv_tableIn (tgt := 56) (off := 42) hx hb dX7_wind_14 (by rw [c3]; decide) (by rw [c3]; decide) (by rw [c3]; rfl) (by decide) ?_
        refine lv_aload_n hx hb dX7_wind_56 rfl (lv_at hl 0 rfl) ?_
        refine kb_get (v := .ref (g_air 0)) hx hb hts hin7 hown hK hH 0 rfl rfl rfl 2 (by decide) (hts (.fieldLink RX7 26 "CockWar" "air" "LCockWar$Air;") (List.mem_of_getElem? (i := 1) rfl)) (fun _ h9 => h9) rfl dX7_wind_57 ?_
        refine kb_getN (v := .ref (g_air 2)) hx hb hts hin1 hown hK hH 1 rfl rfl rfl 1 (by decide) (kb_NF hN 23 rfl) (fun _ h9 => h9) rfl dX7_wind_60 ?_
        refine lv_iload_n hx hb dX7_wind_63 rfl (lv_at hl 1 rfl) ?_
        refine kb_ci hH hA [3] (Wc := ([b_arr G (g_air 2) 4 (V_air.1 1)])) (Wc' := ([b_arr G (g_air 2) 4 (V_air.1 1)])) (WS' := (w_O7 G g a_reader (g_now 0) (g_air 0) a_acts a_sights a_slots a_plan a_trial V ++ w_O1 G g_air V_air ++ w_O2 G g_now V_now)) rfl (by decide) rfl rfl (va_runS (As := [.ref (g_air 2), .int x0]) (rest := []) ⟨hx, hb, hml, hown, hts⟩ (c_X7_at l G (g_air 2) 4 (V_air.1 1) x0 (by decide) rfl _) (va_cwS 2 hts gX7_wind_X7_at rfl rfl rfl hd_X7_at ⟨Nat.le_of_ble_eq_true rfl, Nat.le_of_ble_eq_true rfl⟩) (kb_preS hH hK hN [3] rfl (by decide)) rfl rfl hl.1 rfl (lv_room (Nat.le_of_ble_eq_true rfl)) dX7_wind_64 ⟨Nat.le_of_ble_eq_true rfl, Nat.le_of_ble_eq_true rfl⟩) (fun H locs hH => ?_)
        subst hF
        exact kb_iret hx hb hr hH rfl rfl dX7_wind_67 hlocks
      · rw [if_neg c3] at hF
        by_cases c4 : x1 = (2 : Int32)
        · rw [if_pos c4] at hF
          refine lv_tableIn (tgt := 68) (off := 54) hx hb dX7_wind_14 (by rw [c4]; decide) (by rw [c4]; decide) (by rw [c4]; rfl) (by decide) ?_
          refine lv_aload_n hx hb dX7_wind_68 rfl (lv_at hl 0 rfl) ?_
          refine kb_get (v := .ref (g_air 0)) hx hb hts hin7 hown hK hH 0 rfl rfl rfl 2 (by decide) (hts (.fieldLink RX7 26 "CockWar" "air" "LCockWar$Air;") (List.mem_of_getElem? (i := 1) rfl)) (fun _ h9 => h9) rfl dX7_wind_69 ?_
          refine kb_getN (v := .ref (g_air 3)) hx hb hts hin1 hown hK hH 1 rfl rfl rfl 2 (by decide) (kb_NF hN 24 rfl) (fun _ h9 => h9) rfl dX7_wind_72 ?_
          refine lv_iload_n hx hb dX7_wind_75 rfl (lv_at hl 1 rfl) ?_
          refine kb_ci hH hA [4] (Wc := ([b_arr G (g_air 3) 4 (V_air.1 2)])) (Wc' := ([b_arr G (g_air 3) 4 (V_air.1 2)])) (WS' := (w_O7 G g a_reader (g_now 0) (g_air 0) a_acts a_sights a_slots a_plan a_trial V ++ w_O1 G g_air V_air ++ w_O2 G g_now V_now)) rfl (by decide) rfl rfl (va_runS (As := [.ref (g_air 3), .int x0]) (rest := []) ⟨hx, hb, hml, hown, hts⟩ (c_X7_at l G (g_air 3) 4 (V_air.1 2) x0 (by decide) rfl _) (va_cwS 2 hts gX7_wind_X7_at rfl rfl rfl hd_X7_at ⟨Nat.le_of_ble_eq_true rfl, Nat.le_of_ble_eq_true rfl⟩) (kb_preS hH hK hN [4] rfl (by decide)) rfl rfl hl.1 rfl (lv_room (Nat.le_of_ble_eq_true rfl)) dX7_wind_76 ⟨Nat.le_of_ble_eq_true rfl, Nat.le_of_ble_eq_true rfl⟩) (fun H locs hH => ?_)
          subst hF
          exact kb_iret hx hb hr hH rfl rfl dX7_wind_79 hlocks
        · rw [if_neg c4] at hF
          by_cases c5 : x1 = (3 : Int32)
          · rw [if_pos c5] at hF
            refine lv_tableIn (tgt := 80) (off := 66) hx hb dX7_wind_14 (by rw [c5]; decide) (by rw [c5]; decide) (by rw [c5]; rfl) (by decide) ?_
            refine lv_aload_n hx hb dX7_wind_80 rfl (lv_at hl 0 rfl) ?_
            refine kb_get (v := .ref (g_now 0)) hx hb hts hin7 hown hK hH 0 rfl rfl rfl 1 (by decide) (hts (.fieldLink RX7 19 "CockWar" "now" "LCockWar$Hill;") (List.mem_of_getElem? (i := 2) rfl)) (fun _ h9 => h9) rfl dX7_wind_81 ?_
            refine kb_getN (v := .int (V_now.2.1 7)) hx hb hts hin2 hown hK hH 5 rfl rfl rfl 7 (by decide) (kb_NF hN 14 rfl) (fun _ h9 => h9) rfl dX7_wind_84 ?_
            refine lv_aload_n hx hb dX7_wind_87 rfl (lv_at hl 0 rfl) ?_
            refine kb_get (v := .ref (g_air 0)) hx hb hts hin7 hown hK hH 0 rfl rfl rfl 2 (by decide) (hts (.fieldLink RX7 26 "CockWar" "air" "LCockWar$Air;") (List.mem_of_getElem? (i := 1) rfl)) (fun _ h9 => h9) rfl dX7_wind_88 ?_
            refine lv_aload_n hx hb dX7_wind_91 rfl (lv_at hl 0 rfl) ?_
            refine kb_get (v := .ref (g_now 0)) hx hb hts hin7 hown hK hH 0 rfl rfl rfl 1 (by decide) (hts (.fieldLink RX7 19 "CockWar" "now" "LCockWar$Hill;") (List.mem_of_getElem? (i := 2) rfl)) (fun _ h9 => h9) rfl dX7_wind_92 ?_
            refine lv_iload_n hx hb dX7_wind_95 rfl (lv_at hl 1 rfl) ?_
            refine lv_aload_n hx hb dX7_wind_96 rfl (lv_at hl 0 rfl) ?_
            refine kb_get (v := .ref (g_now 0)) hx hb hts hin7 hown hK hH 0 rfl rfl rfl 1 (by decide) (hts (.fieldLink RX7 19 "CockWar" "now" "LCockWar$Hill;") (List.mem_of_getElem? (i := 2) rfl)) (fun _ h9 => h9) rfl dX7_wind_97 ?_
            refine kb_getN (v := .int (V_now.2.1 8)) hx hb hts hin2 hown hK hH 5 rfl rfl rfl 8 (by decide) (kb_NF hN 16 rfl) (fun _ h9 => h9) rfl dX7_wind_100 ?_
            refine lv_iconst (v := 0) hx hb dX7_wind_103 (by decide) ?_
            refine kb_ci hH hA [1, 2, 3, 4, 5, 6, 7, 8, 9, 10] (Wc := (w_O1 G g_air V_air ++ w_O2 G g_now V_now)) (Wc' := (w_O1 G g_air V_air ++ w_O2 G g_now V_now)) (WS' := (w_O7 G g a_reader (g_now 0) (g_air 0) a_acts a_sights a_slots a_plan a_trial V ++ w_O1 G g_air V_air ++ w_O2 G g_now V_now)) rfl (by decide) rfl rfl (va_runVN (C := RX1) (As := [.ref (g_now 0), .int x0, .int (V_now.2.1 8), .int (0 : Int32)]) (rest := [.int (V_now.2.1 7)]) ⟨hx, hb, hml, hown, hts⟩ (c_X1_waysBehind l G g_air V_air g_now V_now x0 (V_now.2.1 8) (0 : Int32) rfl _) ⟨va_cnB 4 hts gX7_wind_X1_waysBehind_n150 rfl rfl rfl (kb_NM hN 33 rfl) (hts (.initialized RX1) (List.mem_of_getElem? (i := 4) rfl)) hd_X1_waysBehind ⟨Nat.le_of_ble_eq_true rfl, Nat.le_of_ble_eq_true rfl⟩, (hts (.instanceMethod yX1_waysBehind) (List.mem_of_getElem? (i := 12) rfl)), (hts (.selects RX1 yX1_waysBehind yX1_waysBehind) (List.mem_of_getElem? (i := 13) rfl))⟩ (kb_preV hH hK hN [1, 2, 3, 4, 5, 6, 7, 8, 9, 10] rfl (by decide) 1 rfl rfl rfl rfl) rfl rfl hl.1 rfl (lv_room (Nat.le_of_ble_eq_true rfl)) dX7_wind_104 ⟨Nat.le_of_ble_eq_true rfl, Nat.le_of_ble_eq_true rfl⟩) (fun H locs hH => ?_)
            refine lv_ixor hx hb dX7_wind_107 ?_
            subst hF
            exact kb_iret hx hb hr hH rfl rfl dX7_wind_108 hlocks
          · rw [if_neg c5] at hF
            refine lv_tableOut (tgt := 109) hx hb dX7_wind_14 (by have z0 := lv_neT (a := 0) c2 rfl; have z1 := lv_neT (a := 1) c3 rfl; have z2 := lv_neT (a := 2) c4 rfl; have z3 := lv_neT (a := 3) c5 rfl; omega) (by decide) ?_
            refine lv_bipush (v := -2) hx hb dX7_wind_109 (by decide) ?_
            subst hF
            exact kb_iret hx hb hr hH rfl rfl dX7_wind_111 hlocks
  · rw [if_pos c1] at hF
    refine lv_iconst (v := -1) hx hb dX7_wind_11 (by decide) ?_
    subst hF
    exact kb_iret hx hb hr hH rfl rfl dX7_wind_12 hlocks
def f_X7_under (V : OV) (V_air : OV) (V_now : OV) (x0 : Int32) : (Int32) := (if (f_X1_hasWind V_air x0) = 0 then (-1 : Int32) else (f_X1_brookUnder V_air V_now x0 (V_now.2.1 8) (0 : Int32)))
set_option maxHeartbeats 4000000 in
set_option maxRecDepth 100000 in
theorem c_X7_under (l : Launch) (G : Ge) (g : Nat → Nat) (a_reader : Nat) (a_acts : Nat) (a_sights : Nat) (a_slots : Nat) (a_plan : Nat) (a_trial : Nat) (V : OV) (g_air : Nat → Nat) (V_air : OV) (g_now : Nat → Nat) (V_now : OV) (x0 : Int32) {F : (Int32)} (hF : f_X7_under V V_air V_now x0 = F) : CI l yX7_under wsX7_under { frames := 4, cells := 0, slots := 0, locals := 98 } [.ref (g 0), .int x0] G (w_O7 G g a_reader (g_now 0) (g_air 0) a_acts a_sights a_slots a_plan a_trial V ++ w_O1 G g_air V_air ++ w_O2 G g_now V_now) (w_O7 G g a_reader (g_now 0) (g_air 0) a_acts a_sights a_slots a_plan a_trial V ++ w_O1 G g_air V_air ++ w_O2 G g_now V_now) F := by
  intro sz
  refine Met.ofW (cc := cX7_under) (maxL := 2) (ret := (some .int)) (by decide) rfl ?_
  intro p e s m args below meth c s₁ B hml hv
  obtain ⟨rfl, hpre⟩ := hv
  obtain ⟨hsz, hH, hK, hN, hA⟩ := kb_start hpre
  subst hsz
  have hx := B.exec
  have hb := B.bytes
  have hr := B.returns
  have hts := atoms_spec (ws := wsX7_under) B.pre
  have hown : s.vm.findClass RX7 = some m.cls := findClass_of_methodNamed B.named
  have hlocks := B.notSynchronized
  generalize hAe : va_A (List.flatten (w_O7 G g a_reader (g_now 0) (g_air 0) a_acts a_sights a_slots a_plan a_trial V ++ w_O1 G g_air V_air ++ w_O2 G g_now V_now)) s.heap.size = A at hH hA ⊢
  have hl := lv_entry ([.ref (g 0), .int x0]) (n := 2) (Nat.le_of_ble_eq_true rfl)
  rw [lg_entry_eq]
  generalize (lg_sl ([.ref (g 0), .int x0]) ++ List.replicate (2 - (lg_sl ([.ref (g 0), .int x0])).length) Slot.unset).toArray = ls at hl ⊢
  have hl : lv_has ls 2 [(0, .ref (g 0)), (1, .int x0)] := hl
  have hH : HP G A s.heap (w_O7 G g a_reader (g_now 0) (g_air 0) a_acts a_sights a_slots a_plan a_trial V ++ w_O1 G g_air V_air ++ w_O2 G g_now V_now) s.heap [] := hH
  have hin2 : ∀ w ∈ u_ws RX2 TX2 11, w ∈ wsX7_under := fun w h => List.mem_cons_of_mem _ (List.mem_append_left _ (List.mem_append_right _ h))
  have hin7 : ∀ w ∈ u_ws RX7 TX7 9, w ∈ wsX7_under := fun w h => List.mem_cons_of_mem _ (List.mem_append_left _ (List.mem_append_left _ (List.mem_append_right _ h)))
  have hF : (if (f_X1_hasWind V_air x0) = 0 then (-1 : Int32) else (f_X1_brookUnder V_air V_now x0 (V_now.2.1 8) (0 : Int32))) = F := hF
  refine lv_aload_n hx hb dX7_under_0 rfl (lv_at hl 0 rfl) ?_
  refine kb_get (v := .ref (g_air 0)) hx hb hts hin7 hown hK hH 0 rfl rfl rfl 2 (by decide) (hts (.fieldLink RX7 26 "CockWar" "air" "LCockWar$Air;") (List.mem_of_getElem? (i := 1) rfl)) (fun _ h9 => h9) rfl dX7_under_1 ?_
  refine lv_iload_n hx hb dX7_under_4 rfl (lv_at hl 1 rfl) ?_
  refine kb_ci hH hA [1, 2, 3, 4] (Wc := (w_O1 G g_air V_air)) (Wc' := (w_O1 G g_air V_air)) (WS' := (w_O7 G g a_reader (g_now 0) (g_air 0) a_acts a_sights a_slots a_plan a_trial V ++ w_O1 G g_air V_air ++ w_O2 G g_now V_now)) rfl (by decide) rfl rfl (va_runVN (C := RX1) (As := [.int x0]) (rest := []) ⟨hx, hb, hml, hown, hts⟩ (c_X1_hasWind l G g_air V_air x0 rfl _) ⟨va_cnB 1 hts gX7_under_X1_hasWind_n138 rfl rfl rfl (kb_NM hN 32 rfl) (hts (.initialized RX1) (List.mem_of_getElem? (i := 4) rfl)) hd_X1_hasWind ⟨Nat.le_of_ble_eq_true rfl, Nat.le_of_ble_eq_true rfl⟩, (hts (.instanceMethod yX1_hasWind) (List.mem_of_getElem? (i := 3) rfl)), (hts (.selects RX1 yX1_hasWind yX1_hasWind) (List.mem_of_getElem? (i := 5) rfl))⟩ (kb_preV hH hK hN [1, 2, 3, 4] rfl (by decide) 1 rfl rfl rfl rfl) rfl rfl hl.1 rfl (lv_room (Nat.le_of_ble_eq_true rfl)) dX7_under_5 ⟨Nat.le_of_ble_eq_true rfl, Nat.le_of_ble_eq_true rfl⟩) (fun H locs hH => ?_)
  refine lv_if_eq (tgt := 34) hx hb dX7_under_8 (by decide) (fun c1 => ?_) (fun c1 => ?_)
  · rw [if_pos c1] at hF
    refine lv_iconst (v := -1) hx hb dX7_under_34 (by decide) ?_
    subst hF
    exact kb_iret hx hb hr hH rfl rfl dX7_under_35 hlocks
  · rw [if_neg c1] at hF
    refine lv_aload_n hx hb dX7_under_11 rfl (lv_at hl 0 rfl) ?_
    refine kb_get (v := .ref (g_air 0)) hx hb hts hin7 hown hK hH 0 rfl rfl rfl 2 (by decide) (hts (.fieldLink RX7 26 "CockWar" "air" "LCockWar$Air;") (List.mem_of_getElem? (i := 1) rfl)) (fun _ h9 => h9) rfl dX7_under_12 ?_
    refine lv_aload_n hx hb dX7_under_15 rfl (lv_at hl 0 rfl) ?_
    refine kb_get (v := .ref (g_now 0)) hx hb hts hin7 hown hK hH 0 rfl rfl rfl 1 (by decide) (hts (.fieldLink RX7 19 "CockWar" "now" "LCockWar$Hill;") (List.mem_of_getElem? (i := 2) rfl)) (fun _ h9 => h9) rfl dX7_under_16 ?_
    refine lv_iload_n hx hb dX7_under_19 rfl (lv_at hl 1 rfl) ?_
    refine lv_aload_n hx hb dX7_under_20 rfl (lv_at hl 0 rfl) ?_
    refine kb_get (v := .ref (g_now 0)) hx hb hts hin7 hown hK hH 0 rfl rfl rfl 1 (by decide) (hts (.fieldLink RX7 19 "CockWar" "now" "LCockWar$Hill;") (List.mem_of_getElem? (i := 2) rfl)) (fun _ h9 => h9) rfl dX7_under_21 ?_
    refine kb_getN (v := .int (V_now.2.1 8)) hx hb hts hin2 hown hK hH 5 rfl rfl rfl 8 (by decide) (kb_NF hN 16 rfl) (fun _ h9 => h9) rfl dX7_under_24 ?_
    refine lv_iconst (v := 0) hx hb dX7_under_27 (by decide) ?_
    refine kb_ci hH hA [1, 2, 3, 4, 5, 6, 7, 8, 9, 10] (Wc := (w_O1 G g_air V_air ++ w_O2 G g_now V_now)) (Wc' := (w_O1 G g_air V_air ++ w_O2 G g_now V_now)) (WS' := (w_O7 G g a_reader (g_now 0) (g_air 0) a_acts a_sights a_slots a_plan a_trial V ++ w_O1 G g_air V_air ++ w_O2 G g_now V_now)) rfl (by decide) rfl rfl (va_runVN (C := RX1) (As := [.ref (g_now 0), .int x0, .int (V_now.2.1 8), .int (0 : Int32)]) (rest := []) ⟨hx, hb, hml, hown, hts⟩ (c_X1_brookUnder l G g_air V_air g_now V_now x0 (V_now.2.1 8) (0 : Int32) rfl _) ⟨va_cnB 4 hts gX7_under_X1_brookUnder_n172 rfl rfl rfl (kb_NM hN 43 rfl) (hts (.initialized RX1) (List.mem_of_getElem? (i := 4) rfl)) hd_X1_brookUnder ⟨Nat.le_of_ble_eq_true rfl, Nat.le_of_ble_eq_true rfl⟩, (hts (.instanceMethod yX1_brookUnder) (List.mem_of_getElem? (i := 8) rfl)), (hts (.selects RX1 yX1_brookUnder yX1_brookUnder) (List.mem_of_getElem? (i := 9) rfl))⟩ (kb_preV hH hK hN [1, 2, 3, 4, 5, 6, 7, 8, 9, 10] rfl (by decide) 1 rfl rfl rfl rfl) rfl rfl hl.1 rfl (lv_room (Nat.le_of_ble_eq_true rfl)) dX7_under_28 ⟨Nat.le_of_ble_eq_true rfl, Nat.le_of_ble_eq_true rfl⟩) (fun H locs hH => ?_)
    refine lv_goto (tgt := 35) hx hb dX7_under_31 (by decide) ?_
    subst hF
    exact kb_iret hx hb hr hH rfl rfl dX7_under_35 hlocks
def f_X7_year (V : OV) (V_air : OV) (V_now : OV) (x0 : Int32) : (Int32) := (if (f_X7_isParish x0) = 0 then (-2 : Int32) else (f_X1_yearOf V_air V_now x0 (0 : Int32)))
set_option maxHeartbeats 4000000 in
set_option maxRecDepth 100000 in
theorem c_X7_year (l : Launch) (G : Ge) (g : Nat → Nat) (a_reader : Nat) (a_acts : Nat) (a_sights : Nat) (a_slots : Nat) (a_plan : Nat) (a_trial : Nat) (V : OV) (g_air : Nat → Nat) (V_air : OV) (g_now : Nat → Nat) (V_now : OV) (x0 : Int32) {F : (Int32)} (hF : f_X7_year V V_air V_now x0 = F) : CI l yX7_year wsX7_year { frames := 5, cells := 0, slots := 0, locals := 123 } [.ref (g 0), .int x0] G (w_O7 G g a_reader (g_now 0) (g_air 0) a_acts a_sights a_slots a_plan a_trial V ++ w_O1 G g_air V_air ++ w_O2 G g_now V_now) (w_O7 G g a_reader (g_now 0) (g_air 0) a_acts a_sights a_slots a_plan a_trial V ++ w_O1 G g_air V_air ++ w_O2 G g_now V_now) F := by
  intro sz
  refine Met.ofW (cc := cX7_year) (maxL := 2) (ret := (some .int)) (by decide) rfl ?_
  intro p e s m args below meth c s₁ B hml hv
  obtain ⟨rfl, hpre⟩ := hv
  obtain ⟨hsz, hH, hK, hN, hA⟩ := kb_start hpre
  subst hsz
  have hx := B.exec
  have hb := B.bytes
  have hr := B.returns
  have hts := atoms_spec (ws := wsX7_year) B.pre
  have hown : s.vm.findClass RX7 = some m.cls := findClass_of_methodNamed B.named
  have hlocks := B.notSynchronized
  generalize hAe : va_A (List.flatten (w_O7 G g a_reader (g_now 0) (g_air 0) a_acts a_sights a_slots a_plan a_trial V ++ w_O1 G g_air V_air ++ w_O2 G g_now V_now)) s.heap.size = A at hH hA ⊢
  have hl := lv_entry ([.ref (g 0), .int x0]) (n := 2) (Nat.le_of_ble_eq_true rfl)
  rw [lg_entry_eq]
  generalize (lg_sl ([.ref (g 0), .int x0]) ++ List.replicate (2 - (lg_sl ([.ref (g 0), .int x0])).length) Slot.unset).toArray = ls at hl ⊢
  have hl : lv_has ls 2 [(0, .ref (g 0)), (1, .int x0)] := hl
  have hH : HP G A s.heap (w_O7 G g a_reader (g_now 0) (g_air 0) a_acts a_sights a_slots a_plan a_trial V ++ w_O1 G g_air V_air ++ w_O2 G g_now V_now) s.heap [] := hH
  have hin7 : ∀ w ∈ u_ws RX7 TX7 9, w ∈ wsX7_year := fun w h => List.mem_cons_of_mem _ (List.mem_append_left _ (List.mem_append_left _ (List.mem_append_right _ h)))
  have hF : (if (f_X7_isParish x0) = 0 then (-2 : Int32) else (f_X1_yearOf V_air V_now x0 (0 : Int32))) = F := hF
  refine lv_iload_n hx hb dX7_year_0 rfl (lv_at hl 1 rfl) ?_
  refine kb_ci hH hA [] (Wc := ([] : List va_W)) (Wc' := ([] : List va_W)) (WS' := (w_O7 G g a_reader (g_now 0) (g_air 0) a_acts a_sights a_slots a_plan a_trial V ++ w_O1 G g_air V_air ++ w_O2 G g_now V_now)) rfl (by decide) rfl rfl (va_runS (As := [.int x0]) (rest := []) ⟨hx, hb, hml, hown, hts⟩ (c_X7_isParish l G x0 rfl _) (va_cwS 1 hts gX7_year_X7_isParish rfl rfl rfl hd_X7_isParish ⟨Nat.le_of_ble_eq_true rfl, Nat.le_of_ble_eq_true rfl⟩) (kb_preS hH hK hN [] rfl (by decide)) rfl rfl hl.1 rfl (lv_room (Nat.le_of_ble_eq_true rfl)) dX7_year_1 ⟨Nat.le_of_ble_eq_true rfl, Nat.le_of_ble_eq_true rfl⟩) (fun H locs hH => ?_)
  refine lv_if_eq (tgt := 23) hx hb dX7_year_4 (by decide) (fun c1 => ?_) (fun c1 => ?_)
  · rw [if_pos c1] at hF
    refine lv_bipush (v := -2) hx hb dX7_year_23 (by decide) ?_
    subst hF
    exact kb_iret hx hb hr hH rfl rfl dX7_year_25 hlocks
  · rw [if_neg c1] at hF
    refine lv_aload_n hx hb dX7_year_7 rfl (lv_at hl 0 rfl) ?_
    refine kb_get (v := .ref (g_air 0)) hx hb hts hin7 hown hK hH 0 rfl rfl rfl 2 (by decide) (hts (.fieldLink RX7 26 "CockWar" "air" "LCockWar$Air;") (List.mem_of_getElem? (i := 1) rfl)) (fun _ h9 => h9) rfl dX7_year_8 ?_
    refine lv_aload_n hx hb dX7_year_11 rfl (lv_at hl 0 rfl) ?_
    refine kb_get (v := .ref (g_now 0)) hx hb hts hin7 hown hK hH 0 rfl rfl rfl 1 (by decide) (hts (.fieldLink RX7 19 "CockWar" "now" "LCockWar$Hill;") (List.mem_of_getElem? (i := 2) rfl)) (fun _ h9 => h9) rfl dX7_year_12 ?_
    refine lv_iload_n hx hb dX7_year_15 rfl (lv_at hl 1 rfl) ?_
    refine lv_iconst (v := 0) hx hb dX7_year_16 (by decide) ?_
    refine kb_ci hH hA [1, 2, 3, 4, 5, 6, 7, 8, 9, 10] (Wc := (w_O1 G g_air V_air ++ w_O2 G g_now V_now)) (Wc' := (w_O1 G g_air V_air ++ w_O2 G g_now V_now)) (WS' := (w_O7 G g a_reader (g_now 0) (g_air 0) a_acts a_sights a_slots a_plan a_trial V ++ w_O1 G g_air V_air ++ w_O2 G g_now V_now)) rfl (by decide) rfl rfl (va_runVN (C := RX1) (As := [.ref (g_now 0), .int x0, .int (0 : Int32)]) (rest := []) ⟨hx, hb, hml, hown, hts⟩ (c_X1_yearOf l G g_air V_air g_now V_now x0 (0 : Int32) rfl _) ⟨va_cnB 3 hts gX7_year_X1_yearOf_n178 rfl rfl rfl (kb_NM hN 44 rfl) (hts (.initialized RX1) (List.mem_of_getElem? (i := 8) rfl)) hd_X1_yearOf ⟨Nat.le_of_ble_eq_true rfl, Nat.le_of_ble_eq_true rfl⟩, (hts (.instanceMethod yX1_yearOf) (List.mem_of_getElem? (i := 7) rfl)), (hts (.selects RX1 yX1_yearOf yX1_yearOf) (List.mem_of_getElem? (i := 9) rfl))⟩ (kb_preV hH hK hN [1, 2, 3, 4, 5, 6, 7, 8, 9, 10] rfl (by decide) 1 rfl rfl rfl rfl) rfl rfl hl.1 rfl (lv_room (Nat.le_of_ble_eq_true rfl)) dX7_year_17 ⟨Nat.le_of_ble_eq_true rfl, Nat.le_of_ble_eq_true rfl⟩) (fun H locs hH => ?_)
    refine lv_goto (tgt := 25) hx hb dX7_year_20 (by decide) ?_
    subst hF
    exact kb_iret hx hb hr hH rfl rfl dX7_year_25 hlocks
def f_X7_placing (V : OV) (V_plan : OV) (V_now : OV) (V_air : OV) (V_plan_trial : OV) (x0 : Int32) (x1 : Int32) : (Int32 × OV × OV) := (if (f_X7_isParish x0) = 0 then ((-2 : Int32), V_plan, V_plan_trial) else (if x1 < 0 then ((-2 : Int32), V_plan, V_plan_trial) else (if x1 ≤ (3 : Int32) then (kAp (f_X3_seek V_plan V_now V_air V_plan_trial x0) (fun q4 => (if x1 = (0 : Int32) then ((q4.1.2.1 1), q4.1, q4.2) else (if x1 = (1 : Int32) then ((q4.1.2.1 2), q4.1, q4.2) else (if x1 = (2 : Int32) then ((q4.1.2.1 3), q4.1, q4.2) else ((q4.1.2.1 4), q4.1, q4.2)))))) else ((-2 : Int32), V_plan, V_plan_trial))))
set_option maxHeartbeats 4000000 in
set_option maxRecDepth 100000 in
theorem c_X7_placing (l : Launch) (G : Ge) (g : Nat → Nat) (a_reader : Nat) (a_acts : Nat) (a_sights : Nat) (a_slots : Nat) (a_trial : Nat) (V : OV) (g_plan : Nat → Nat) (V_plan : OV) (g_now : Nat → Nat) (V_now : OV) (g_air : Nat → Nat) (V_air : OV) (g_plan_trial : Nat → Nat) (V_plan_trial : OV) (x0 : Int32) (x1 : Int32) {F : (Int32 × OV × OV)} (hF : f_X7_placing V V_plan V_now V_air V_plan_trial x0 x1 = F) : CI l yX7_placing wsX7_placing { frames := 7, cells := 0, slots := 0, locals := 174 } [.ref (g 0), .int x0, .int x1] G (w_O7 G g a_reader (g_now 0) (g_air 0) a_acts a_sights a_slots (g_plan 0) a_trial V ++ w_O3 G g_plan (g_plan_trial 0) V_plan ++ w_O2 G g_now V_now ++ w_O1 G g_air V_air ++ w_O2 G g_plan_trial V_plan_trial) (w_O7 G g a_reader (g_now 0) (g_air 0) a_acts a_sights a_slots (g_plan 0) a_trial V ++ w_O3 G g_plan (g_plan_trial 0) F.2.1 ++ w_O2 G g_now V_now ++ w_O1 G g_air V_air ++ w_O2 G g_plan_trial F.2.2) F.1 := by
  intro sz
  refine Met.ofW (cc := cX7_placing) (maxL := 3) (ret := (some .int)) (by decide) rfl ?_
  intro p e s m args below meth c s₁ B hml hv
  obtain ⟨rfl, hpre⟩ := hv
  obtain ⟨hsz, hH, hK, hN, hA⟩ := kb_start hpre
  subst hsz
  have hx := B.exec
  have hb := B.bytes
  have hr := B.returns
  have hts := atoms_spec (ws := wsX7_placing) B.pre
  have hown : s.vm.findClass RX7 = some m.cls := findClass_of_methodNamed B.named
  have hlocks := B.notSynchronized
  generalize hAe : va_A (List.flatten (w_O7 G g a_reader (g_now 0) (g_air 0) a_acts a_sights a_slots (g_plan 0) a_trial V ++ w_O3 G g_plan (g_plan_trial 0) V_plan ++ w_O2 G g_now V_now ++ w_O1 G g_air V_air ++ w_O2 G g_plan_trial V_plan_trial)) s.heap.size = A at hH hA ⊢
  have hl := lv_entry ([.ref (g 0), .int x0, .int x1]) (n := 3) (Nat.le_of_ble_eq_true rfl)
  rw [lg_entry_eq]
  generalize (lg_sl ([.ref (g 0), .int x0, .int x1]) ++ List.replicate (3 - (lg_sl ([.ref (g 0), .int x0, .int x1])).length) Slot.unset).toArray = ls at hl ⊢
  have hl : lv_has ls 3 [(0, .ref (g 0)), (1, .int x0), (2, .int x1)] := hl
  have hH : HP G A s.heap (w_O7 G g a_reader (g_now 0) (g_air 0) a_acts a_sights a_slots (g_plan 0) a_trial V ++ w_O3 G g_plan (g_plan_trial 0) V_plan ++ w_O2 G g_now V_now ++ w_O1 G g_air V_air ++ w_O2 G g_plan_trial V_plan_trial) s.heap [] := hH
  have hin3 : ∀ w ∈ u_ws RX3 TX3 5, w ∈ wsX7_placing := fun w h => List.mem_cons_of_mem _ (List.mem_append_left _ (List.mem_append_left _ (List.mem_append_right _ h)))
  have hin7 : ∀ w ∈ u_ws RX7 TX7 9, w ∈ wsX7_placing := fun w h => List.mem_cons_of_mem _ (List.mem_append_left _ (List.mem_append_left _ (List.mem_append_left _ (List.mem_append_right _ h))))
  have hF : (if (f_X7_isParish x0) = 0 then ((-2 : Int32), V_plan, V_plan_trial) else (if x1 < 0 then ((-2 : Int32), V_plan, V_plan_trial) else (if x1 ≤ (3 : Int32) then (kAp (f_X3_seek V_plan V_now V_air V_plan_trial x0) (fun q4 => (if x1 = (0 : Int32) then ((q4.1.2.1 1), q4.1, q4.2) else (if x1 = (1 : Int32) then ((q4.1.2.1 2), q4.1, q4.2) else (if x1 = (2 : Int32) then ((q4.1.2.1 3), q4.1, q4.2) else ((q4.1.2.1 4), q4.1, q4.2)))))) else ((-2 : Int32), V_plan, V_plan_trial)))) = F := hF
  refine lv_iload_n hx hb dX7_placing_0 rfl (lv_at hl 1 rfl) ?_
  refine kb_ci hH hA [] (Wc := ([] : List va_W)) (Wc' := ([] : List va_W)) (WS' := (w_O7 G g a_reader (g_now 0) (g_air 0) a_acts a_sights a_slots (g_plan 0) a_trial V ++ w_O3 G g_plan (g_plan_trial 0) V_plan ++ w_O2 G g_now V_now ++ w_O1 G g_air V_air ++ w_O2 G g_plan_trial V_plan_trial)) rfl (by decide) rfl rfl (va_runS (As := [.int x0]) (rest := []) ⟨hx, hb, hml, hown, hts⟩ (c_X7_isParish l G x0 rfl _) (va_cwS 1 hts gX7_placing_X7_isParish rfl rfl rfl hd_X7_isParish ⟨Nat.le_of_ble_eq_true rfl, Nat.le_of_ble_eq_true rfl⟩) (kb_preS hH hK hN [] rfl (by decide)) rfl rfl hl.1 rfl (lv_room (Nat.le_of_ble_eq_true rfl)) dX7_placing_1 ⟨Nat.le_of_ble_eq_true rfl, Nat.le_of_ble_eq_true rfl⟩) (fun H locs hH => ?_)
  refine lv_if_eq (tgt := 16) hx hb dX7_placing_4 (by decide) (fun c1 => ?_) (fun c1 => ?_)
  · rw [if_pos c1] at hF
    refine lv_bipush (v := -2) hx hb dX7_placing_16 (by decide) ?_
    subst hF
    exact kb_iret hx hb hr hH rfl rfl dX7_placing_18 hlocks
  · rw [if_neg c1] at hF
    refine lv_iload_n hx hb dX7_placing_7 rfl (lv_at hl 2 rfl) ?_
    refine lv_if_lt (tgt := 16) hx hb dX7_placing_8 (by decide) (fun c2 => ?_) (fun c2 => ?_)
    · rw [if_pos c2] at hF
      refine lv_bipush (v := -2) hx hb dX7_placing_16 (by decide) ?_
      subst hF
      exact kb_iret hx hb hr hH rfl rfl dX7_placing_18 hlocks
    · rw [if_neg c2] at hF
      refine lv_iload_n hx hb dX7_placing_11 rfl (lv_at hl 2 rfl) ?_
      refine lv_iconst (v := 3) hx hb dX7_placing_12 (by decide) ?_
      refine lv_icmp_le (tgt := 19) hx hb dX7_placing_13 (by decide) (fun c3 => ?_) (fun c3 => ?_)
      · rw [if_pos c3] at hF
        refine lv_aload_n hx hb dX7_placing_19 rfl (lv_at hl 0 rfl) ?_
        refine kb_get (v := .ref (g_plan 0)) hx hb hts hin7 hown hK hH 0 rfl rfl rfl 6 (by decide) (hts (.fieldLink RX7 54 "CockWar" "plan" "LCockWar$Plan;") (List.mem_of_getElem? (i := 1) rfl)) (fun _ h9 => h9) rfl dX7_placing_20 ?_
        refine lv_aload_n hx hb dX7_placing_23 rfl (lv_at hl 0 rfl) ?_
        refine kb_get (v := .ref (g_now 0)) hx hb hts hin7 hown hK hH 0 rfl rfl rfl 1 (by decide) (hts (.fieldLink RX7 19 "CockWar" "now" "LCockWar$Hill;") (List.mem_of_getElem? (i := 2) rfl)) (fun _ h9 => h9) rfl dX7_placing_24 ?_
        refine lv_aload_n hx hb dX7_placing_27 rfl (lv_at hl 0 rfl) ?_
        refine kb_get (v := .ref (g_air 0)) hx hb hts hin7 hown hK hH 0 rfl rfl rfl 2 (by decide) (hts (.fieldLink RX7 26 "CockWar" "air" "LCockWar$Air;") (List.mem_of_getElem? (i := 3) rfl)) (fun _ h9 => h9) rfl dX7_placing_28 ?_
        refine lv_iload_n hx hb dX7_placing_31 rfl (lv_at hl 1 rfl) ?_
        obtain ⟨q4, hq4⟩ : ∃ z, z = (f_X3_seek V_plan V_now V_air V_plan_trial x0) := ⟨_, rfl⟩
        have hF := kAp_eq hF hq4
        refine kb_cv hH hA [1, 2, 3, 4, 5, 6, 7, 8, 9, 10, 11, 12, 13, 14, 15, 16, 17] (Wc := (w_O3 G g_plan (g_plan_trial 0) V_plan ++ w_O2 G g_now V_now ++ w_O1 G g_air V_air ++ w_O2 G g_plan_trial V_plan_trial)) (Wc' := (w_O3 G g_plan (g_plan_trial 0) q4.1 ++ w_O2 G g_now V_now ++ w_O1 G g_air V_air ++ w_O2 G g_plan_trial q4.2)) (WS' := (w_O7 G g a_reader (g_now 0) (g_air 0) a_acts a_sights a_slots (g_plan 0) a_trial V ++ w_O3 G g_plan (g_plan_trial 0) q4.1 ++ w_O2 G g_now V_now ++ w_O1 G g_air V_air ++ w_O2 G g_plan_trial q4.2)) rfl (by decide) rfl rfl (va_runVN (C := RX3) (As := [.ref (g_now 0), .ref (g_air 0), .int x0]) (rest := []) ⟨hx, hb, hml, hown, hts⟩ (c_X3_seek l G g_plan V_plan g_now V_now g_air V_air g_plan_trial V_plan_trial x0 hq4.symm _) ⟨va_cnB 3 hts gX7_placing_X3_seek_n182 rfl rfl rfl (kb_NM hN 45 rfl) (hts (.initialized RX3) (List.mem_of_getElem? (i := 9) rfl)) hd_X3_seek ⟨Nat.le_of_ble_eq_true rfl, Nat.le_of_ble_eq_true rfl⟩, (hts (.instanceMethod yX3_seek) (List.mem_of_getElem? (i := 8) rfl)), (hts (.selects RX3 yX3_seek yX3_seek) (List.mem_of_getElem? (i := 10) rfl))⟩ (kb_preV hH hK hN [1, 2, 3, 4, 5, 6, 7, 8, 9, 10, 11, 12, 13, 14, 15, 16, 17] rfl (by decide) 1 rfl rfl rfl rfl) rfl rfl hl.1 rfl (lv_room (Nat.le_of_ble_eq_true rfl)) dX7_placing_32 ⟨Nat.le_of_ble_eq_true rfl, Nat.le_of_ble_eq_true rfl⟩) (fun H locs hH => ?_)
        refine lv_iload_n hx hb dX7_placing_35 rfl (lv_at hl 2 rfl) ?_
        by_cases c5 : x1 = (0 : Int32)
        · rw [if_pos c5] at hF
          refine lv_tableIn (tgt := 64) (off := 28) hx hb dX7_placing_36 (by rw [c5]; decide) (by rw [c5]; decide) (by rw [c5]; rfl) (by decide) ?_
          refine lv_aload_n hx hb dX7_placing_64 rfl (lv_at hl 0 rfl) ?_
          refine kb_get (v := .ref (g_plan 0)) hx hb hts hin7 hown hK hH 0 rfl rfl rfl 6 (by decide) (hts (.fieldLink RX7 54 "CockWar" "plan" "LCockWar$Plan;") (List.mem_of_getElem? (i := 1) rfl)) (fun _ h9 => h9) rfl dX7_placing_65 ?_
          refine kb_getN (v := .int (q4.1.2.1 1)) hx hb hts hin3 hown hK hH 1 rfl rfl rfl 1 (by decide) (kb_NF hN 32 rfl) (fun _ h9 => h9) rfl dX7_placing_68 ?_
          subst hF
          exact kb_iret hx hb hr hH rfl rfl dX7_placing_71 hlocks
        · rw [if_neg c5] at hF
          by_cases c6 : x1 = (1 : Int32)
          · rw [if_pos c6] at hF
            refine lv_tableIn (tgt := 72) (off := 36) hx hb dX7_placing_36 (by rw [c6]; decide) (by rw [c6]; decide) (by rw [c6]; rfl) (by decide) ?_
            refine lv_aload_n hx hb dX7_placing_72 rfl (lv_at hl 0 rfl) ?_
            refine kb_get (v := .ref (g_plan 0)) hx hb hts hin7 hown hK hH 0 rfl rfl rfl 6 (by decide) (hts (.fieldLink RX7 54 "CockWar" "plan" "LCockWar$Plan;") (List.mem_of_getElem? (i := 1) rfl)) (fun _ h9 => h9) rfl dX7_placing_73 ?_
            refine kb_getN (v := .int (q4.1.2.1 2)) hx hb hts hin3 hown hK hH 1 rfl rfl rfl 2 (by decide) (kb_NF hN 33 rfl) (fun _ h9 => h9) rfl dX7_placing_76 ?_
            subst hF
            exact kb_iret hx hb hr hH rfl rfl dX7_placing_79 hlocks
          · rw [if_neg c6] at hF
            by_cases c7 : x1 = (2 : Int32)
            · rw [if_pos c7] at hF
              refine lv_tableIn (tgt := 80) (off := 44) hx hb dX7_placing_36 (by rw [c7]; decide) (by rw [c7]; decide) (by rw [c7]; rfl) (by decide) ?_
              refine lv_aload_n hx hb dX7_placing_80 rfl (lv_at hl 0 rfl) ?_
              refine kb_get (v := .ref (g_plan 0)) hx hb hts hin7 hown hK hH 0 rfl rfl rfl 6 (by decide) (hts (.fieldLink RX7 54 "CockWar" "plan" "LCockWar$Plan;") (List.mem_of_getElem? (i := 1) rfl)) (fun _ h9 => h9) rfl dX7_placing_81 ?_
              refine kb_getN (v := .int (q4.1.2.1 3)) hx hb hts hin3 hown hK hH 1 rfl rfl rfl 3 (by decide) (kb_NF hN 34 rfl) (fun _ h9 => h9) rfl dX7_placing_84 ?_
              subst hF
              exact kb_iret hx hb hr hH rfl rfl dX7_placing_87 hlocks
            · rw [if_neg c7] at hF
              refine lv_tableOut (tgt := 88) hx hb dX7_placing_36 (by have z0 := lv_neT (a := 0) c5 rfl; have z1 := lv_neT (a := 1) c6 rfl; have z2 := lv_neT (a := 2) c7 rfl; omega) (by decide) ?_
              refine lv_aload_n hx hb dX7_placing_88 rfl (lv_at hl 0 rfl) ?_
              refine kb_get (v := .ref (g_plan 0)) hx hb hts hin7 hown hK hH 0 rfl rfl rfl 6 (by decide) (hts (.fieldLink RX7 54 "CockWar" "plan" "LCockWar$Plan;") (List.mem_of_getElem? (i := 1) rfl)) (fun _ h9 => h9) rfl dX7_placing_89 ?_
              refine kb_getN (v := .int (q4.1.2.1 4)) hx hb hts hin3 hown hK hH 1 rfl rfl rfl 4 (by decide) (kb_NF hN 35 rfl) (fun _ h9 => h9) rfl dX7_placing_92 ?_
              subst hF
              exact kb_iret hx hb hr hH rfl rfl dX7_placing_95 hlocks
      · rw [if_neg c3] at hF
        refine lv_bipush (v := -2) hx hb dX7_placing_16 (by decide) ?_
        subst hF
        exact kb_iret hx hb hr hH rfl rfl dX7_placing_18 hlocks
def f_X7_trees_L3 (V_air : OV) (V_now : OV) (x0 : Int32) (x1 : Int32) (iL3 : Nat) (s : (Int32)) : (Int32) := (kAp ((if s = (-9 : Int32) then (1 : Int32) else (if (f_J6_bitCount_0f7a4 s) ≤ (f_J6_bitCount_0f7a4 (nI iL3)) then (0 : Int32) else (1 : Int32))) : Int32) (fun v7 => (if v7 = 0 then s else (if ((nI iL3) &&& ((f_X2_treeCells V_now) ^^^ (-1 : Int32))) = 0 then (if (f_X1_brookUnder V_air V_now x1 (V_now.2.1 8) (nI iL3)) = x0 then (nI iL3) else s) else s))))
def f_X7_trees (V : OV) (V_air : OV) (V_now : OV) (x0 : Int32) (x1 : Int32) : (Int32) := (if (f_X7_isParish x0) = 0 then (-2 : Int32) else (if (f_X1_hasWind V_air x1) = 0 then (-1 : Int32) else (kAp (lpu (f_X7_trees_L3 V_air V_now x0 x1) (cM (1023 : Int32)) 0 (-9 : Int32)) (fun z13 => z13))))
def d_X7_trees (V : OV) (V_air : OV) (V_now : OV) (x0 : Int32) (x1 : Int32) : Prop := (¬ ((f_X7_isParish x0) = 0) → (¬ ((f_X1_hasWind V_air x1) = 0) → (1023 : Int32).toInt < 2147483647))
set_option maxHeartbeats 4000000 in
set_option maxRecDepth 100000 in
theorem c_X7_trees (l : Launch) (G : Ge) (g : Nat → Nat) (a_reader : Nat) (a_acts : Nat) (a_sights : Nat) (a_slots : Nat) (a_plan : Nat) (a_trial : Nat) (V : OV) (g_air : Nat → Nat) (V_air : OV) (g_now : Nat → Nat) (V_now : OV) (x0 : Int32) (x1 : Int32) (hD : d_X7_trees V V_air V_now x0 x1) {F : (Int32)} (hF : f_X7_trees V V_air V_now x0 x1 = F) : CI l yX7_trees wsX7_trees { frames := 4, cells := 0, slots := 0, locals := 98 } [.ref (g 0), .int x0, .int x1] G (w_O7 G g a_reader (g_now 0) (g_air 0) a_acts a_sights a_slots a_plan a_trial V ++ w_O1 G g_air V_air ++ w_O2 G g_now V_now) (w_O7 G g a_reader (g_now 0) (g_air 0) a_acts a_sights a_slots a_plan a_trial V ++ w_O1 G g_air V_air ++ w_O2 G g_now V_now) F := by
  intro sz
  refine Met.ofW (cc := cX7_trees) (maxL := 7) (ret := (some .int)) (by decide) rfl ?_
  intro p e s m args below meth c s₁ B hml hv
  obtain ⟨rfl, hpre⟩ := hv
  obtain ⟨hsz, hH, hK, hN, hA⟩ := kb_start hpre
  subst hsz
  have hx := B.exec
  have hb := B.bytes
  have hr := B.returns
  have hts := atoms_spec (ws := wsX7_trees) B.pre
  have hown : s.vm.findClass RX7 = some m.cls := findClass_of_methodNamed B.named
  have hlocks := B.notSynchronized
  generalize hAe : va_A (List.flatten (w_O7 G g a_reader (g_now 0) (g_air 0) a_acts a_sights a_slots a_plan a_trial V ++ w_O1 G g_air V_air ++ w_O2 G g_now V_now)) s.heap.size = A at hH hA ⊢
  have hl := lv_entry ([.ref (g 0), .int x0, .int x1]) (n := 7) (Nat.le_of_ble_eq_true rfl)
  rw [lg_entry_eq]
  generalize (lg_sl ([.ref (g 0), .int x0, .int x1]) ++ List.replicate (7 - (lg_sl ([.ref (g 0), .int x0, .int x1])).length) Slot.unset).toArray = ls at hl ⊢
  have hl : lv_has ls 7 [(0, .ref (g 0)), (1, .int x0), (2, .int x1)] := hl
  have hH : HP G A s.heap (w_O7 G g a_reader (g_now 0) (g_air 0) a_acts a_sights a_slots a_plan a_trial V ++ w_O1 G g_air V_air ++ w_O2 G g_now V_now) s.heap [] := hH
  have hin2 : ∀ w ∈ u_ws RX2 TX2 11, w ∈ wsX7_trees := fun w h => List.mem_cons_of_mem _ (List.mem_append_left _ (List.mem_append_right _ h))
  have hin7 : ∀ w ∈ u_ws RX7 TX7 9, w ∈ wsX7_trees := fun w h => List.mem_cons_of_mem _ (List.mem_append_left _ (List.mem_append_left _ (List.mem_append_right _ h)))
  have hF : (if (f_X7_isParish x0) = 0 then (-2 : Int32) else (if (f_X1_hasWind V_air x1) = 0 then (-1 : Int32) else (kAp (lpu (f_X7_trees_L3 V_air V_now x0 x1) (cM (1023 : Int32)) 0 (-9 : Int32)) (fun z13 => z13)))) = F := hF
  have hD : (¬ ((f_X7_isParish x0) = 0) → (¬ ((f_X1_hasWind V_air x1) = 0) → (1023 : Int32).toInt < 2147483647)) := hD
  refine lv_iload_n hx hb dX7_trees_0 rfl (lv_at hl 1 rfl) ?_
  refine kb_ci hH hA [] (Wc := ([] : List va_W)) (Wc' := ([] : List va_W)) (WS' := (w_O7 G g a_reader (g_now 0) (g_air 0) a_acts a_sights a_slots a_plan a_trial V ++ w_O1 G g_air V_air ++ w_O2 G g_now V_now)) rfl (by decide) rfl rfl (va_runS (As := [.int x0]) (rest := []) ⟨hx, hb, hml, hown, hts⟩ (c_X7_isParish l G x0 rfl _) (va_cwS 1 hts gX7_trees_X7_isParish rfl rfl rfl hd_X7_isParish ⟨Nat.le_of_ble_eq_true rfl, Nat.le_of_ble_eq_true rfl⟩) (kb_preS hH hK hN [] rfl (by decide)) rfl rfl hl.1 rfl (lv_room (Nat.le_of_ble_eq_true rfl)) dX7_trees_1 ⟨Nat.le_of_ble_eq_true rfl, Nat.le_of_ble_eq_true rfl⟩) (fun H locs hH => ?_)
  refine lv_if_ne (tgt := 10) hx hb dX7_trees_4 (by decide) (fun c1 => ?_) (fun c1 => ?_)
  · have hD := hD c1
    rw [if_neg c1] at hF
    refine lv_aload_n hx hb dX7_trees_10 rfl (lv_at hl 0 rfl) ?_
    refine kb_get (v := .ref (g_air 0)) hx hb hts hin7 hown hK hH 0 rfl rfl rfl 2 (by decide) (hts (.fieldLink RX7 26 "CockWar" "air" "LCockWar$Air;") (List.mem_of_getElem? (i := 1) rfl)) (fun _ h9 => h9) rfl dX7_trees_11 ?_
    refine lv_iload_n hx hb dX7_trees_14 rfl (lv_at hl 2 rfl) ?_
    refine kb_ci hH hA [1, 2, 3, 4] (Wc := (w_O1 G g_air V_air)) (Wc' := (w_O1 G g_air V_air)) (WS' := (w_O7 G g a_reader (g_now 0) (g_air 0) a_acts a_sights a_slots a_plan a_trial V ++ w_O1 G g_air V_air ++ w_O2 G g_now V_now)) rfl (by decide) rfl rfl (va_runVN (C := RX1) (As := [.int x1]) (rest := []) ⟨hx, hb, hml, hown, hts⟩ (c_X1_hasWind l G g_air V_air x1 rfl _) ⟨va_cnB 1 hts gX7_trees_X1_hasWind_n138 rfl rfl rfl (kb_NM hN 32 rfl) (hts (.initialized RX1) (List.mem_of_getElem? (i := 8) rfl)) hd_X1_hasWind ⟨Nat.le_of_ble_eq_true rfl, Nat.le_of_ble_eq_true rfl⟩, (hts (.instanceMethod yX1_hasWind) (List.mem_of_getElem? (i := 7) rfl)), (hts (.selects RX1 yX1_hasWind yX1_hasWind) (List.mem_of_getElem? (i := 9) rfl))⟩ (kb_preV hH hK hN [1, 2, 3, 4] rfl (by decide) 1 rfl rfl rfl rfl) rfl rfl hl.1 rfl (lv_room (Nat.le_of_ble_eq_true rfl)) dX7_trees_15 ⟨Nat.le_of_ble_eq_true rfl, Nat.le_of_ble_eq_true rfl⟩) (fun H locs hH => ?_)
    refine lv_if_ne (tgt := 23) hx hb dX7_trees_18 (by decide) (fun c2 => ?_) (fun c2 => ?_)
    · have hD := hD c2
      rw [if_neg c2] at hF
      refine lv_aload_n hx hb dX7_trees_23 rfl (lv_at hl 0 rfl) ?_
      refine kb_get (v := .ref (g_now 0)) hx hb hts hin7 hown hK hH 0 rfl rfl rfl 1 (by decide) (hts (.fieldLink RX7 19 "CockWar" "now" "LCockWar$Hill;") (List.mem_of_getElem? (i := 2) rfl)) (fun _ h9 => h9) rfl dX7_trees_24 ?_
      refine kb_ci hH hA [5, 6, 7, 8, 9, 10] (Wc := (w_O2 G g_now V_now)) (Wc' := (w_O2 G g_now V_now)) (WS' := (w_O7 G g a_reader (g_now 0) (g_air 0) a_acts a_sights a_slots a_plan a_trial V ++ w_O1 G g_air V_air ++ w_O2 G g_now V_now)) rfl (by decide) rfl rfl (va_runVN (C := RX2) (As := []) (rest := []) ⟨hx, hb, hml, hown, hts⟩ (c_X2_treeCells l G g_now V_now rfl _) ⟨va_cnB 0 hts gX7_trees_X2_treeCells_n197 rfl rfl rfl (kb_NM hN 52 rfl) (hts (.initialized RX2) (List.mem_of_getElem? (i := 13) rfl)) hd_X2_treeCells ⟨Nat.le_of_ble_eq_true rfl, Nat.le_of_ble_eq_true rfl⟩, (hts (.instanceMethod yX2_treeCells) (List.mem_of_getElem? (i := 12) rfl)), (hts (.selects RX2 yX2_treeCells yX2_treeCells) (List.mem_of_getElem? (i := 14) rfl))⟩ (kb_preV hH hK hN [5, 6, 7, 8, 9, 10] rfl (by decide) 5 rfl rfl rfl rfl) rfl rfl hl.1 rfl (lv_room (Nat.le_of_ble_eq_true rfl)) dX7_trees_27 ⟨Nat.le_of_ble_eq_true rfl, Nat.le_of_ble_eq_true rfl⟩) (fun H locs hH => ?_)
      refine lv_istore_n (lv' := [(3, .int (f_X2_treeCells V_now)), (0, .ref (g 0)), (1, .int x0), (2, .int x1)]) hx hb dX7_trees_30 rfl hl (by decide) rfl (fun ls hl => ?_)
      refine lv_bipush (v := -9) hx hb dX7_trees_31 (by decide) ?_
      refine lv_istore (lv' := [(4, .int (-9 : Int32)), (3, .int (f_X2_treeCells V_now)), (0, .ref (g 0)), (1, .int x0), (2, .int x1)]) hx hb dX7_trees_33 hl (by decide) rfl (fun ls hl => ?_)
      refine lv_iconst (v := 0) hx hb dX7_trees_35 (by decide) ?_
      refine lv_istore (lv' := [(5, .int (0 : Int32)), (4, .int (-9 : Int32)), (3, .int (f_X2_treeCells V_now)), (0, .ref (g 0)), (1, .int x0), (2, .int x1)]) hx hb dX7_trees_36 hl (by decide) rfl (fun ls hl => ?_)
      have hsdL3 := hD
      obtain ⟨SFL3, hSFL3⟩ : ∃ z, z = (lpu (f_X7_trees_L3 V_air V_now x0 x1) (cM (1023 : Int32)) 0 (-9 : Int32)) := ⟨_, rfl⟩
      have hF := kAp_eq hF hSFL3
      refine kb_cut (fun H locs ls => HP G A s.heap (w_O7 G g a_reader (g_now 0) (g_air 0) a_acts a_sights a_slots a_plan a_trial V ++ w_O1 G g_air V_air ++ w_O2 G g_now V_now) H locs ∧ lv_has ls 7 [(4, .int SFL3)]) 122 [] (fun EXL3 => ?_) (fun H locs ls hX => ?_)
      · refine kb_loop (σ := (Int32)) (fun n i x => n + i = (cM (1023 : Int32)) ∧ lpu (f_X7_trees_L3 V_air V_now x0 x1) n i x = SFL3) (fun iL3 x H locs ls => HP G A s.heap (w_O7 G g a_reader (g_now 0) (g_air 0) a_acts a_sights a_slots a_plan a_trial V ++ w_O1 G g_air V_air ++ w_O2 G g_now V_now) H locs ∧ lv_has ls 7 [(5, .int (nI iL3)), (4, .int x), (3, .int (f_X2_treeCells V_now)), (0, .ref (g 0)), (1, .int x0), (2, .int x1)]) (fun iL3 x H locs ls hI hX => ?_) (fun n iL3 x hI ihL3 H locs ls hX => ?_) (cM (1023 : Int32)) 0 (-9 : Int32) _ _ _ ⟨Nat.add_zero _, hSFL3.symm⟩ ⟨hH, lv_sub hl [0, 1, 2, 3, 4, 5] rfl⟩
        · obtain ⟨L3a, exL3a⟩ : ∃ z, z = x := ⟨_, rfl⟩
          subst exL3a
          have hH : HP G A s.heap (w_O7 G g a_reader (g_now 0) (g_air 0) a_acts a_sights a_slots a_plan a_trial V ++ w_O1 G g_air V_air ++ w_O2 G g_now V_now) H locs := hX.1
          have hl : lv_has ls 7 [(5, .int (nI iL3)), (4, .int L3a), (3, .int (f_X2_treeCells V_now)), (0, .ref (g 0)), (1, .int x0), (2, .int x1)] := hX.2
          obtain ⟨hiL3, hs⟩ := hI
          have hiL3 : iL3 = (cM (1023 : Int32)) := by omega
          refine lv_iload hx hb dX7_trees_38 (lv_at hl 0 rfl) ?_
          refine lv_sipush (v := 1023) hx hb dX7_trees_40 (by decide) ?_
          refine lv_icmp_gt (tgt := 122) hx hb dX7_trees_43 (by decide) (fun _ => ?_) (fun c => absurd (cM_end hsdL3 hiL3) c)
          exact EXL3 _ _ _ ⟨by subst hs; exact hH, by subst hs; exact lv_sub hl [1] rfl⟩
        · obtain ⟨L3a, exL3a⟩ : ∃ z, z = x := ⟨_, rfl⟩
          subst exL3a
          have hH : HP G A s.heap (w_O7 G g a_reader (g_now 0) (g_air 0) a_acts a_sights a_slots a_plan a_trial V ++ w_O1 G g_air V_air ++ w_O2 G g_now V_now) H locs := hX.1
          have hl : lv_has ls 7 [(5, .int (nI iL3)), (4, .int L3a), (3, .int (f_X2_treeCells V_now)), (0, .ref (g 0)), (1, .int x0), (2, .int x1)] := hX.2
          obtain ⟨hiL3, hs⟩ := hI
          have hltL3 : iL3 < (cM (1023 : Int32)) := by omega
          obtain ⟨BVL3, hBd⟩ : ∃ z, (f_X7_trees_L3 V_air V_now x0 x1) iL3 L3a = z := ⟨_, rfl⟩
          have hs : lpu (f_X7_trees_L3 V_air V_now x0 x1) n (iL3 + 1) BVL3 = SFL3 := by rw [← hBd]; exact hs
          have hBL3 : (kAp ((if L3a = (-9 : Int32) then (1 : Int32) else (if (f_J6_bitCount_0f7a4 L3a) ≤ (f_J6_bitCount_0f7a4 (nI iL3)) then (0 : Int32) else (1 : Int32))) : Int32) (fun v7 => (if v7 = 0 then L3a else (if ((nI iL3) &&& ((f_X2_treeCells V_now) ^^^ (-1 : Int32))) = 0 then (if (f_X1_brookUnder V_air V_now x1 (V_now.2.1 8) (nI iL3)) = x0 then (nI iL3) else L3a) else L3a)))) = BVL3 := hBd
          refine lv_iload hx hb dX7_trees_38 (lv_at hl 0 rfl) ?_
          refine lv_sipush (v := 1023) hx hb dX7_trees_40 (by decide) ?_
          refine lv_icmp_gt (tgt := 122) hx hb dX7_trees_43 (by decide) (fun c => absurd c (cM_gt hsdL3 hltL3)) (fun c4 => ?_)
          refine lv_iload hx hb dX7_trees_46 (lv_at hl 1 rfl) ?_
          refine lv_bipush (v := -9) hx hb dX7_trees_48 (by decide) ?_
          obtain ⟨v7, ev7⟩ : ∃ z : Int32, (if L3a = (-9 : Int32) then (1 : Int32) else (if (f_J6_bitCount_0f7a4 L3a) ≤ (f_J6_bitCount_0f7a4 (nI iL3)) then (0 : Int32) else (1 : Int32))) = z := ⟨_, rfl⟩
          have hBL3 := kAp_eq hBL3 ev7.symm
          refine kb_cut (fun H locs ls => HP G A s.heap (w_O7 G g a_reader (g_now 0) (g_air 0) a_acts a_sights a_slots a_plan a_trial V ++ w_O1 G g_air V_air ++ w_O2 G g_now V_now) H locs ∧ lv_has ls 7 [(5, .int (nI iL3)), (4, .int L3a), (3, .int (f_X2_treeCells V_now)), (0, .ref (g 0)), (1, .int x0), (2, .int x1)]) 71 [.int v7] (fun u5 => ?_) (fun H locs ls hX => ?_)
          · refine lv_icmp_eq (tgt := 66) hx hb dX7_trees_50 (by decide) (fun c8 => ?_) (fun c8 => ?_)
            · rw [if_pos c8] at ev7
              refine lv_iconst (v := 1) hx hb dX7_trees_66 (by decide) ?_
              refine lv_goto (tgt := 71) hx hb dX7_trees_67 (by decide) ?_
              subst ev7
              exact u5 _ _ _ ⟨hH, lv_sub hl [0, 1, 2, 3, 4, 5] rfl⟩
            · rw [if_neg c8] at ev7
              refine lv_iload hx hb dX7_trees_53 (lv_at hl 0 rfl) ?_
              refine kb_ci hH hA [] (Wc := ([] : List va_W)) (Wc' := ([] : List va_W)) (WS' := (w_O7 G g a_reader (g_now 0) (g_air 0) a_acts a_sights a_slots a_plan a_trial V ++ w_O1 G g_air V_air ++ w_O2 G g_now V_now)) rfl (by decide) rfl rfl (va_runS (As := [.int (nI iL3)]) (rest := []) ⟨hx, hb, hml, hown, hts⟩ (c_J6_bitCount_0f7a4 l G (nI iL3) rfl _) (va_cwS 1 hts gX7_trees_J6_bitCount_0f7a4 rfl rfl rfl hd_J6_bitCount_0f7a4 ⟨Nat.le_of_ble_eq_true rfl, Nat.le_of_ble_eq_true rfl⟩) (kb_preS hH hK hN [] rfl (by decide)) rfl rfl hl.1 rfl (lv_room (Nat.le_of_ble_eq_true rfl)) dX7_trees_55 ⟨Nat.le_of_ble_eq_true rfl, Nat.le_of_ble_eq_true rfl⟩) (fun H locs hH => ?_)
              refine lv_iload hx hb dX7_trees_58 (lv_at hl 1 rfl) ?_
              refine kb_ci hH hA [] (Wc := ([] : List va_W)) (Wc' := ([] : List va_W)) (WS' := (w_O7 G g a_reader (g_now 0) (g_air 0) a_acts a_sights a_slots a_plan a_trial V ++ w_O1 G g_air V_air ++ w_O2 G g_now V_now)) rfl (by decide) rfl rfl (va_runS (As := [.int L3a]) (rest := [.int (f_J6_bitCount_0f7a4 (nI iL3))]) ⟨hx, hb, hml, hown, hts⟩ (c_J6_bitCount_0f7a4 l G L3a rfl _) (va_cwS 1 hts gX7_trees_J6_bitCount_0f7a4 rfl rfl rfl hd_J6_bitCount_0f7a4 ⟨Nat.le_of_ble_eq_true rfl, Nat.le_of_ble_eq_true rfl⟩) (kb_preS hH hK hN [] rfl (by decide)) rfl rfl hl.1 rfl (lv_room (Nat.le_of_ble_eq_true rfl)) dX7_trees_60 ⟨Nat.le_of_ble_eq_true rfl, Nat.le_of_ble_eq_true rfl⟩) (fun H locs hH => ?_)
              refine lv_icmp_ge (tgt := 70) hx hb dX7_trees_63 (by decide) (fun c9 => ?_) (fun c9 => ?_)
              · rw [if_pos c9] at ev7
                refine lv_iconst (v := 0) hx hb dX7_trees_70 (by decide) ?_
                subst ev7
                exact u5 _ _ _ ⟨hH, lv_sub hl [0, 1, 2, 3, 4, 5] rfl⟩
              · rw [if_neg c9] at ev7
                refine lv_iconst (v := 1) hx hb dX7_trees_66 (by decide) ?_
                refine lv_goto (tgt := 71) hx hb dX7_trees_67 (by decide) ?_
                subst ev7
                exact u5 _ _ _ ⟨hH, lv_sub hl [0, 1, 2, 3, 4, 5] rfl⟩
          · obtain ⟨hH, hl⟩ := hX
            refine lv_istore (lv' := [(6, .int v7), (5, .int (nI iL3)), (4, .int L3a), (3, .int (f_X2_treeCells V_now)), (0, .ref (g 0)), (1, .int x0), (2, .int x1)]) hx hb dX7_trees_71 hl (by decide) rfl (fun ls hl => ?_)
            refine lv_iload hx hb dX7_trees_73 (lv_at hl 0 rfl) ?_
            refine lv_if_eq (tgt := 116) hx hb dX7_trees_75 (by decide) (fun c10 => ?_) (fun c10 => ?_)
            · rw [if_pos c10] at hBL3
              refine lv_iinc (v := (nI (iL3 + 1))) (lv' := [(5, .int (nI (iL3 + 1))), (6, .int v7), (4, .int L3a), (3, .int (f_X2_treeCells V_now)), (0, .ref (g 0)), (1, .int x0), (2, .int x1)]) hx hb dX7_trees_116 hl (k := 1) rfl (nI_1 _) (by decide) rfl (fun ls hl => ?_)
              refine lv_goto (tgt := 38) hx hb dX7_trees_119 (by decide) ?_
              subst hBL3
              exact ihL3 _ _ _ _ ⟨by omega, hs⟩ ⟨hH, lv_sub hl [0, 2, 3, 4, 5, 6] rfl⟩
            · rw [if_neg c10] at hBL3
              refine lv_iload hx hb dX7_trees_78 (lv_at hl 1 rfl) ?_
              refine lv_iload_n hx hb dX7_trees_80 rfl (lv_at hl 3 rfl) ?_
              refine lv_iconst (v := -1) hx hb dX7_trees_81 (by decide) ?_
              refine lv_ixor hx hb dX7_trees_82 ?_
              refine lv_iand hx hb dX7_trees_83 ?_
              refine lv_if_ne (tgt := 116) hx hb dX7_trees_84 (by decide) (fun c11 => ?_) (fun c11 => ?_)
              · rw [if_neg c11] at hBL3
                refine lv_iinc (v := (nI (iL3 + 1))) (lv' := [(5, .int (nI (iL3 + 1))), (6, .int v7), (4, .int L3a), (3, .int (f_X2_treeCells V_now)), (0, .ref (g 0)), (1, .int x0), (2, .int x1)]) hx hb dX7_trees_116 hl (k := 1) rfl (nI_1 _) (by decide) rfl (fun ls hl => ?_)
                refine lv_goto (tgt := 38) hx hb dX7_trees_119 (by decide) ?_
                subst hBL3
                exact ihL3 _ _ _ _ ⟨by omega, hs⟩ ⟨hH, lv_sub hl [0, 2, 3, 4, 5, 6] rfl⟩
              · rw [if_pos c11] at hBL3
                refine lv_aload_n hx hb dX7_trees_87 rfl (lv_at hl 4 rfl) ?_
                refine kb_get (v := .ref (g_air 0)) hx hb hts hin7 hown hK hH 0 rfl rfl rfl 2 (by decide) (hts (.fieldLink RX7 26 "CockWar" "air" "LCockWar$Air;") (List.mem_of_getElem? (i := 1) rfl)) (fun _ h9 => h9) rfl dX7_trees_88 ?_
                refine lv_aload_n hx hb dX7_trees_91 rfl (lv_at hl 4 rfl) ?_
                refine kb_get (v := .ref (g_now 0)) hx hb hts hin7 hown hK hH 0 rfl rfl rfl 1 (by decide) (hts (.fieldLink RX7 19 "CockWar" "now" "LCockWar$Hill;") (List.mem_of_getElem? (i := 2) rfl)) (fun _ h9 => h9) rfl dX7_trees_92 ?_
                refine lv_iload_n hx hb dX7_trees_95 rfl (lv_at hl 6 rfl) ?_
                refine lv_aload_n hx hb dX7_trees_96 rfl (lv_at hl 4 rfl) ?_
                refine kb_get (v := .ref (g_now 0)) hx hb hts hin7 hown hK hH 0 rfl rfl rfl 1 (by decide) (hts (.fieldLink RX7 19 "CockWar" "now" "LCockWar$Hill;") (List.mem_of_getElem? (i := 2) rfl)) (fun _ h9 => h9) rfl dX7_trees_97 ?_
                refine kb_getN (v := .int (V_now.2.1 8)) hx hb hts hin2 hown hK hH 5 rfl rfl rfl 8 (by decide) (kb_NF hN 16 rfl) (fun _ h9 => h9) rfl dX7_trees_100 ?_
                refine lv_iload hx hb dX7_trees_103 (lv_at hl 1 rfl) ?_
                refine kb_ci hH hA [1, 2, 3, 4, 5, 6, 7, 8, 9, 10] (Wc := (w_O1 G g_air V_air ++ w_O2 G g_now V_now)) (Wc' := (w_O1 G g_air V_air ++ w_O2 G g_now V_now)) (WS' := (w_O7 G g a_reader (g_now 0) (g_air 0) a_acts a_sights a_slots a_plan a_trial V ++ w_O1 G g_air V_air ++ w_O2 G g_now V_now)) rfl (by decide) rfl rfl (va_runVN (C := RX1) (As := [.ref (g_now 0), .int x1, .int (V_now.2.1 8), .int (nI iL3)]) (rest := []) ⟨hx, hb, hml, hown, hts⟩ (c_X1_brookUnder l G g_air V_air g_now V_now x1 (V_now.2.1 8) (nI iL3) rfl _) ⟨va_cnB 4 hts gX7_trees_X1_brookUnder_n172 rfl rfl rfl (kb_NM hN 43 rfl) (hts (.initialized RX1) (List.mem_of_getElem? (i := 8) rfl)) hd_X1_brookUnder ⟨Nat.le_of_ble_eq_true rfl, Nat.le_of_ble_eq_true rfl⟩, (hts (.instanceMethod yX1_brookUnder) (List.mem_of_getElem? (i := 24) rfl)), (hts (.selects RX1 yX1_brookUnder yX1_brookUnder) (List.mem_of_getElem? (i := 25) rfl))⟩ (kb_preV hH hK hN [1, 2, 3, 4, 5, 6, 7, 8, 9, 10] rfl (by decide) 1 rfl rfl rfl rfl) rfl rfl hl.1 rfl (lv_room (Nat.le_of_ble_eq_true rfl)) dX7_trees_105 ⟨Nat.le_of_ble_eq_true rfl, Nat.le_of_ble_eq_true rfl⟩) (fun H locs hH => ?_)
                refine lv_iload_n hx hb dX7_trees_108 rfl (lv_at hl 5 rfl) ?_
                refine lv_icmp_ne (tgt := 116) hx hb dX7_trees_109 (by decide) (fun c12 => ?_) (fun c12 => ?_)
                · rw [if_neg c12] at hBL3
                  refine lv_iinc (v := (nI (iL3 + 1))) (lv' := [(5, .int (nI (iL3 + 1))), (6, .int v7), (4, .int L3a), (3, .int (f_X2_treeCells V_now)), (0, .ref (g 0)), (1, .int x0), (2, .int x1)]) hx hb dX7_trees_116 hl (k := 1) rfl (nI_1 _) (by decide) rfl (fun ls hl => ?_)
                  refine lv_goto (tgt := 38) hx hb dX7_trees_119 (by decide) ?_
                  subst hBL3
                  exact ihL3 _ _ _ _ ⟨by omega, hs⟩ ⟨hH, lv_sub hl [0, 2, 3, 4, 5, 6] rfl⟩
                · rw [if_pos c12] at hBL3
                  refine lv_iload hx hb dX7_trees_112 (lv_at hl 1 rfl) ?_
                  refine lv_istore (lv' := [(4, .int (nI iL3)), (6, .int v7), (5, .int (nI iL3)), (3, .int (f_X2_treeCells V_now)), (0, .ref (g 0)), (1, .int x0), (2, .int x1)]) hx hb dX7_trees_114 hl (by decide) rfl (fun ls hl => ?_)
                  refine lv_iinc (v := (nI (iL3 + 1))) (lv' := [(5, .int (nI (iL3 + 1))), (4, .int (nI iL3)), (6, .int v7), (3, .int (f_X2_treeCells V_now)), (0, .ref (g 0)), (1, .int x0), (2, .int x1)]) hx hb dX7_trees_116 hl (k := 2) rfl (nI_1 _) (by decide) rfl (fun ls hl => ?_)
                  refine lv_goto (tgt := 38) hx hb dX7_trees_119 (by decide) ?_
                  subst hBL3
                  exact ihL3 _ _ _ _ ⟨by omega, hs⟩ ⟨hH, lv_sub hl [0, 1, 3, 4, 5, 6] rfl⟩
      · obtain ⟨hH, hl⟩ := hX
        refine lv_iload hx hb dX7_trees_122 (lv_at hl 0 rfl) ?_
        subst hF
        exact kb_iret hx hb hr hH rfl rfl dX7_trees_124 hlocks
    · rw [if_pos c2] at hF
      refine lv_iconst (v := -1) hx hb dX7_trees_21 (by decide) ?_
      subst hF
      exact kb_iret hx hb hr hH rfl rfl dX7_trees_22 hlocks
  · rw [if_pos c1] at hF
    refine lv_bipush (v := -2) hx hb dX7_trees_7 (by decide) ?_
    subst hF
    exact kb_iret hx hb hr hH rfl rfl dX7_trees_9 hlocks
def f_X7_decides_L2 (V_air : OV) (V_now : OV) (x0 : Int32) (iL2 : Nat) (s : (Int32)) : (Int32) := (if (f_X2_brookBy V_now ((f_X1_waysBehind V_air V_now x0 (V_now.2.1 8) (0 : Int32)) ^^^ ((1 : Int32) <<< ((nI iL2) &&& 31)))) = (f_X2_brookBy V_now (f_X1_waysBehind V_air V_now x0 (V_now.2.1 8) (0 : Int32))) then s else (s ||| ((1 : Int32) <<< ((nI iL2) &&& 31))))
def f_X7_decides (V : OV) (V_air : OV) (V_now : OV) (x0 : Int32) : (Int32) := (if (f_X1_hasWind V_air x0) = 0 then (-1 : Int32) else (kAp (lpu (f_X7_decides_L2 V_air V_now x0) (cN (V_now.2.1 5)) 0 (0 : Int32)) (fun z5 => z5)))
set_option maxHeartbeats 4000000 in
set_option maxRecDepth 100000 in
theorem c_X7_decides (l : Launch) (G : Ge) (g : Nat → Nat) (a_reader : Nat) (a_acts : Nat) (a_sights : Nat) (a_slots : Nat) (a_plan : Nat) (a_trial : Nat) (V : OV) (g_air : Nat → Nat) (V_air : OV) (g_now : Nat → Nat) (V_now : OV) (x0 : Int32) {F : (Int32)} (hF : f_X7_decides V V_air V_now x0 = F) : CI l yX7_decides wsX7_decides { frames := 3, cells := 0, slots := 0, locals := 74 } [.ref (g 0), .int x0] G (w_O7 G g a_reader (g_now 0) (g_air 0) a_acts a_sights a_slots a_plan a_trial V ++ w_O1 G g_air V_air ++ w_O2 G g_now V_now) (w_O7 G g a_reader (g_now 0) (g_air 0) a_acts a_sights a_slots a_plan a_trial V ++ w_O1 G g_air V_air ++ w_O2 G g_now V_now) F := by
  intro sz
  refine Met.ofW (cc := cX7_decides) (maxL := 6) (ret := (some .int)) (by decide) rfl ?_
  intro p e s m args below meth c s₁ B hml hv
  obtain ⟨rfl, hpre⟩ := hv
  obtain ⟨hsz, hH, hK, hN, hA⟩ := kb_start hpre
  subst hsz
  have hx := B.exec
  have hb := B.bytes
  have hr := B.returns
  have hts := atoms_spec (ws := wsX7_decides) B.pre
  have hown : s.vm.findClass RX7 = some m.cls := findClass_of_methodNamed B.named
  have hlocks := B.notSynchronized
  generalize hAe : va_A (List.flatten (w_O7 G g a_reader (g_now 0) (g_air 0) a_acts a_sights a_slots a_plan a_trial V ++ w_O1 G g_air V_air ++ w_O2 G g_now V_now)) s.heap.size = A at hH hA ⊢
  have hl := lv_entry ([.ref (g 0), .int x0]) (n := 6) (Nat.le_of_ble_eq_true rfl)
  rw [lg_entry_eq]
  generalize (lg_sl ([.ref (g 0), .int x0]) ++ List.replicate (6 - (lg_sl ([.ref (g 0), .int x0])).length) Slot.unset).toArray = ls at hl ⊢
  have hl : lv_has ls 6 [(0, .ref (g 0)), (1, .int x0)] := hl
  have hH : HP G A s.heap (w_O7 G g a_reader (g_now 0) (g_air 0) a_acts a_sights a_slots a_plan a_trial V ++ w_O1 G g_air V_air ++ w_O2 G g_now V_now) s.heap [] := hH
  have hin2 : ∀ w ∈ u_ws RX2 TX2 11, w ∈ wsX7_decides := fun w h => List.mem_cons_of_mem _ (List.mem_append_left _ (List.mem_append_right _ h))
  have hin7 : ∀ w ∈ u_ws RX7 TX7 9, w ∈ wsX7_decides := fun w h => List.mem_cons_of_mem _ (List.mem_append_left _ (List.mem_append_left _ (List.mem_append_right _ h)))
  have hF : (if (f_X1_hasWind V_air x0) = 0 then (-1 : Int32) else (kAp (lpu (f_X7_decides_L2 V_air V_now x0) (cN (V_now.2.1 5)) 0 (0 : Int32)) (fun z5 => z5))) = F := hF
  refine lv_aload_n hx hb dX7_decides_0 rfl (lv_at hl 0 rfl) ?_
  refine kb_get (v := .ref (g_air 0)) hx hb hts hin7 hown hK hH 0 rfl rfl rfl 2 (by decide) (hts (.fieldLink RX7 26 "CockWar" "air" "LCockWar$Air;") (List.mem_of_getElem? (i := 1) rfl)) (fun _ h9 => h9) rfl dX7_decides_1 ?_
  refine lv_iload_n hx hb dX7_decides_4 rfl (lv_at hl 1 rfl) ?_
  refine kb_ci hH hA [1, 2, 3, 4] (Wc := (w_O1 G g_air V_air)) (Wc' := (w_O1 G g_air V_air)) (WS' := (w_O7 G g a_reader (g_now 0) (g_air 0) a_acts a_sights a_slots a_plan a_trial V ++ w_O1 G g_air V_air ++ w_O2 G g_now V_now)) rfl (by decide) rfl rfl (va_runVN (C := RX1) (As := [.int x0]) (rest := []) ⟨hx, hb, hml, hown, hts⟩ (c_X1_hasWind l G g_air V_air x0 rfl _) ⟨va_cnB 1 hts gX7_decides_X1_hasWind_n138 rfl rfl rfl (kb_NM hN 32 rfl) (hts (.initialized RX1) (List.mem_of_getElem? (i := 4) rfl)) hd_X1_hasWind ⟨Nat.le_of_ble_eq_true rfl, Nat.le_of_ble_eq_true rfl⟩, (hts (.instanceMethod yX1_hasWind) (List.mem_of_getElem? (i := 3) rfl)), (hts (.selects RX1 yX1_hasWind yX1_hasWind) (List.mem_of_getElem? (i := 5) rfl))⟩ (kb_preV hH hK hN [1, 2, 3, 4] rfl (by decide) 1 rfl rfl rfl rfl) rfl rfl hl.1 rfl (lv_room (Nat.le_of_ble_eq_true rfl)) dX7_decides_5 ⟨Nat.le_of_ble_eq_true rfl, Nat.le_of_ble_eq_true rfl⟩) (fun H locs hH => ?_)
  refine lv_if_ne (tgt := 13) hx hb dX7_decides_8 (by decide) (fun c1 => ?_) (fun c1 => ?_)
  · rw [if_neg c1] at hF
    refine lv_aload_n hx hb dX7_decides_13 rfl (lv_at hl 0 rfl) ?_
    refine kb_get (v := .ref (g_air 0)) hx hb hts hin7 hown hK hH 0 rfl rfl rfl 2 (by decide) (hts (.fieldLink RX7 26 "CockWar" "air" "LCockWar$Air;") (List.mem_of_getElem? (i := 1) rfl)) (fun _ h9 => h9) rfl dX7_decides_14 ?_
    refine lv_aload_n hx hb dX7_decides_17 rfl (lv_at hl 0 rfl) ?_
    refine kb_get (v := .ref (g_now 0)) hx hb hts hin7 hown hK hH 0 rfl rfl rfl 1 (by decide) (hts (.fieldLink RX7 19 "CockWar" "now" "LCockWar$Hill;") (List.mem_of_getElem? (i := 2) rfl)) (fun _ h9 => h9) rfl dX7_decides_18 ?_
    refine lv_iload_n hx hb dX7_decides_21 rfl (lv_at hl 1 rfl) ?_
    refine lv_aload_n hx hb dX7_decides_22 rfl (lv_at hl 0 rfl) ?_
    refine kb_get (v := .ref (g_now 0)) hx hb hts hin7 hown hK hH 0 rfl rfl rfl 1 (by decide) (hts (.fieldLink RX7 19 "CockWar" "now" "LCockWar$Hill;") (List.mem_of_getElem? (i := 2) rfl)) (fun _ h9 => h9) rfl dX7_decides_23 ?_
    refine kb_getN (v := .int (V_now.2.1 8)) hx hb hts hin2 hown hK hH 5 rfl rfl rfl 8 (by decide) (kb_NF hN 16 rfl) (fun _ h9 => h9) rfl dX7_decides_26 ?_
    refine lv_iconst (v := 0) hx hb dX7_decides_29 (by decide) ?_
    refine kb_ci hH hA [1, 2, 3, 4, 5, 6, 7, 8, 9, 10] (Wc := (w_O1 G g_air V_air ++ w_O2 G g_now V_now)) (Wc' := (w_O1 G g_air V_air ++ w_O2 G g_now V_now)) (WS' := (w_O7 G g a_reader (g_now 0) (g_air 0) a_acts a_sights a_slots a_plan a_trial V ++ w_O1 G g_air V_air ++ w_O2 G g_now V_now)) rfl (by decide) rfl rfl (va_runVN (C := RX1) (As := [.ref (g_now 0), .int x0, .int (V_now.2.1 8), .int (0 : Int32)]) (rest := []) ⟨hx, hb, hml, hown, hts⟩ (c_X1_waysBehind l G g_air V_air g_now V_now x0 (V_now.2.1 8) (0 : Int32) rfl _) ⟨va_cnB 4 hts gX7_decides_X1_waysBehind_n150 rfl rfl rfl (kb_NM hN 33 rfl) (hts (.initialized RX1) (List.mem_of_getElem? (i := 4) rfl)) hd_X1_waysBehind ⟨Nat.le_of_ble_eq_true rfl, Nat.le_of_ble_eq_true rfl⟩, (hts (.instanceMethod yX1_waysBehind) (List.mem_of_getElem? (i := 8) rfl)), (hts (.selects RX1 yX1_waysBehind yX1_waysBehind) (List.mem_of_getElem? (i := 9) rfl))⟩ (kb_preV hH hK hN [1, 2, 3, 4, 5, 6, 7, 8, 9, 10] rfl (by decide) 1 rfl rfl rfl rfl) rfl rfl hl.1 rfl (lv_room (Nat.le_of_ble_eq_true rfl)) dX7_decides_30 ⟨Nat.le_of_ble_eq_true rfl, Nat.le_of_ble_eq_true rfl⟩) (fun H locs hH => ?_)
    refine lv_istore_n (lv' := [(2, .int (f_X1_waysBehind V_air V_now x0 (V_now.2.1 8) (0 : Int32))), (0, .ref (g 0)), (1, .int x0)]) hx hb dX7_decides_33 rfl hl (by decide) rfl (fun ls hl => ?_)
    refine lv_aload_n hx hb dX7_decides_34 rfl (lv_at hl 1 rfl) ?_
    refine kb_get (v := .ref (g_now 0)) hx hb hts hin7 hown hK hH 0 rfl rfl rfl 1 (by decide) (hts (.fieldLink RX7 19 "CockWar" "now" "LCockWar$Hill;") (List.mem_of_getElem? (i := 2) rfl)) (fun _ h9 => h9) rfl dX7_decides_35 ?_
    refine lv_iload_n hx hb dX7_decides_38 rfl (lv_at hl 0 rfl) ?_
    refine kb_ci hH hA [5, 6, 7, 8, 9, 10] (Wc := (w_O2 G g_now V_now)) (Wc' := (w_O2 G g_now V_now)) (WS' := (w_O7 G g a_reader (g_now 0) (g_air 0) a_acts a_sights a_slots a_plan a_trial V ++ w_O1 G g_air V_air ++ w_O2 G g_now V_now)) rfl (by decide) rfl rfl (va_runVN (C := RX2) (As := [.int (f_X1_waysBehind V_air V_now x0 (V_now.2.1 8) (0 : Int32))]) (rest := []) ⟨hx, hb, hml, hown, hts⟩ (c_X2_brookBy l G g_now V_now (f_X1_waysBehind V_air V_now x0 (V_now.2.1 8) (0 : Int32)) rfl _) ⟨va_cnB 1 hts gX7_decides_X2_brookBy_n205 rfl rfl rfl (kb_NM hN 53 rfl) (hts (.initialized RX2) (List.mem_of_getElem? (i := 17) rfl)) hd_X2_brookBy ⟨Nat.le_of_ble_eq_true rfl, Nat.le_of_ble_eq_true rfl⟩, (hts (.instanceMethod yX2_brookBy) (List.mem_of_getElem? (i := 27) rfl)), (hts (.selects RX2 yX2_brookBy yX2_brookBy) (List.mem_of_getElem? (i := 28) rfl))⟩ (kb_preV hH hK hN [5, 6, 7, 8, 9, 10] rfl (by decide) 5 rfl rfl rfl rfl) rfl rfl hl.1 rfl (lv_room (Nat.le_of_ble_eq_true rfl)) dX7_decides_39 ⟨Nat.le_of_ble_eq_true rfl, Nat.le_of_ble_eq_true rfl⟩) (fun H locs hH => ?_)
    refine lv_istore_n (lv' := [(3, .int (f_X2_brookBy V_now (f_X1_waysBehind V_air V_now x0 (V_now.2.1 8) (0 : Int32)))), (2, .int (f_X1_waysBehind V_air V_now x0 (V_now.2.1 8) (0 : Int32))), (0, .ref (g 0)), (1, .int x0)]) hx hb dX7_decides_42 rfl hl (by decide) rfl (fun ls hl => ?_)
    refine lv_iconst (v := 0) hx hb dX7_decides_43 (by decide) ?_
    refine lv_istore (lv' := [(4, .int (0 : Int32)), (3, .int (f_X2_brookBy V_now (f_X1_waysBehind V_air V_now x0 (V_now.2.1 8) (0 : Int32)))), (2, .int (f_X1_waysBehind V_air V_now x0 (V_now.2.1 8) (0 : Int32))), (0, .ref (g 0)), (1, .int x0)]) hx hb dX7_decides_44 hl (by decide) rfl (fun ls hl => ?_)
    refine lv_iconst (v := 0) hx hb dX7_decides_46 (by decide) ?_
    refine lv_istore (lv' := [(5, .int (0 : Int32)), (4, .int (0 : Int32)), (3, .int (f_X2_brookBy V_now (f_X1_waysBehind V_air V_now x0 (V_now.2.1 8) (0 : Int32)))), (2, .int (f_X1_waysBehind V_air V_now x0 (V_now.2.1 8) (0 : Int32))), (0, .ref (g 0)), (1, .int x0)]) hx hb dX7_decides_47 hl (by decide) rfl (fun ls hl => ?_)
    obtain ⟨SFL2, hSFL2⟩ : ∃ z, z = (lpu (f_X7_decides_L2 V_air V_now x0) (cN (V_now.2.1 5)) 0 (0 : Int32)) := ⟨_, rfl⟩
    have hF := kAp_eq hF hSFL2
    refine kb_cut (fun H locs ls => HP G A s.heap (w_O7 G g a_reader (g_now 0) (g_air 0) a_acts a_sights a_slots a_plan a_trial V ++ w_O1 G g_air V_air ++ w_O2 G g_now V_now) H locs ∧ lv_has ls 6 [(4, .int SFL2)]) 93 [] (fun EXL2 => ?_) (fun H locs ls hX => ?_)
    · refine kb_loop (σ := (Int32)) (fun n i x => n + i = (cN (V_now.2.1 5)) ∧ lpu (f_X7_decides_L2 V_air V_now x0) n i x = SFL2) (fun iL2 x H locs ls => HP G A s.heap (w_O7 G g a_reader (g_now 0) (g_air 0) a_acts a_sights a_slots a_plan a_trial V ++ w_O1 G g_air V_air ++ w_O2 G g_now V_now) H locs ∧ lv_has ls 6 [(5, .int (nI iL2)), (4, .int x), (3, .int (f_X2_brookBy V_now (f_X1_waysBehind V_air V_now x0 (V_now.2.1 8) (0 : Int32)))), (2, .int (f_X1_waysBehind V_air V_now x0 (V_now.2.1 8) (0 : Int32))), (0, .ref (g 0))]) (fun iL2 x H locs ls hI hX => ?_) (fun n iL2 x hI ihL2 H locs ls hX => ?_) (cN (V_now.2.1 5)) 0 (0 : Int32) _ _ _ ⟨Nat.add_zero _, hSFL2.symm⟩ ⟨hH, lv_sub hl [0, 1, 2, 3, 4] rfl⟩
      · obtain ⟨L2a, exL2a⟩ : ∃ z, z = x := ⟨_, rfl⟩
        subst exL2a
        have hH : HP G A s.heap (w_O7 G g a_reader (g_now 0) (g_air 0) a_acts a_sights a_slots a_plan a_trial V ++ w_O1 G g_air V_air ++ w_O2 G g_now V_now) H locs := hX.1
        have hl : lv_has ls 6 [(5, .int (nI iL2)), (4, .int L2a), (3, .int (f_X2_brookBy V_now (f_X1_waysBehind V_air V_now x0 (V_now.2.1 8) (0 : Int32)))), (2, .int (f_X1_waysBehind V_air V_now x0 (V_now.2.1 8) (0 : Int32))), (0, .ref (g 0))] := hX.2
        obtain ⟨hiL2, hs⟩ := hI
        have hiL2 : iL2 = (cN (V_now.2.1 5)) := by omega
        refine lv_iload hx hb dX7_decides_49 (lv_at hl 0 rfl) ?_
        refine lv_aload_n hx hb dX7_decides_51 rfl (lv_at hl 4 rfl) ?_
        refine kb_get (v := .ref (g_now 0)) hx hb hts hin7 hown hK hH 0 rfl rfl rfl 1 (by decide) (hts (.fieldLink RX7 19 "CockWar" "now" "LCockWar$Hill;") (List.mem_of_getElem? (i := 2) rfl)) (fun _ h9 => h9) rfl dX7_decides_52 ?_
        refine kb_getN (v := .int (V_now.2.1 5)) hx hb hts hin2 hown hK hH 5 rfl rfl rfl 5 (by decide) (kb_NF hN 10 rfl) (fun _ h9 => h9) rfl dX7_decides_55 ?_
        refine lv_icmp_ge (tgt := 93) hx hb dX7_decides_58 (by decide) (fun _ => ?_) (fun c => absurd (cN_end hiL2) c)
        exact EXL2 _ _ _ ⟨by subst hs; exact hH, by subst hs; exact lv_sub hl [1] rfl⟩
      · obtain ⟨L2a, exL2a⟩ : ∃ z, z = x := ⟨_, rfl⟩
        subst exL2a
        have hH : HP G A s.heap (w_O7 G g a_reader (g_now 0) (g_air 0) a_acts a_sights a_slots a_plan a_trial V ++ w_O1 G g_air V_air ++ w_O2 G g_now V_now) H locs := hX.1
        have hl : lv_has ls 6 [(5, .int (nI iL2)), (4, .int L2a), (3, .int (f_X2_brookBy V_now (f_X1_waysBehind V_air V_now x0 (V_now.2.1 8) (0 : Int32)))), (2, .int (f_X1_waysBehind V_air V_now x0 (V_now.2.1 8) (0 : Int32))), (0, .ref (g 0))] := hX.2
        obtain ⟨hiL2, hs⟩ := hI
        have hltL2 : iL2 < (cN (V_now.2.1 5)) := by omega
        obtain ⟨BVL2, hBd⟩ : ∃ z, (f_X7_decides_L2 V_air V_now x0) iL2 L2a = z := ⟨_, rfl⟩
        have hs : lpu (f_X7_decides_L2 V_air V_now x0) n (iL2 + 1) BVL2 = SFL2 := by rw [← hBd]; exact hs
        have hBL2 : (if (f_X2_brookBy V_now ((f_X1_waysBehind V_air V_now x0 (V_now.2.1 8) (0 : Int32)) ^^^ ((1 : Int32) <<< ((nI iL2) &&& 31)))) = (f_X2_brookBy V_now (f_X1_waysBehind V_air V_now x0 (V_now.2.1 8) (0 : Int32))) then L2a else (L2a ||| ((1 : Int32) <<< ((nI iL2) &&& 31)))) = BVL2 := hBd
        refine lv_iload hx hb dX7_decides_49 (lv_at hl 0 rfl) ?_
        refine lv_aload_n hx hb dX7_decides_51 rfl (lv_at hl 4 rfl) ?_
        refine kb_get (v := .ref (g_now 0)) hx hb hts hin7 hown hK hH 0 rfl rfl rfl 1 (by decide) (hts (.fieldLink RX7 19 "CockWar" "now" "LCockWar$Hill;") (List.mem_of_getElem? (i := 2) rfl)) (fun _ h9 => h9) rfl dX7_decides_52 ?_
        refine kb_getN (v := .int (V_now.2.1 5)) hx hb hts hin2 hown hK hH 5 rfl rfl rfl 5 (by decide) (kb_NF hN 10 rfl) (fun _ h9 => h9) rfl dX7_decides_55 ?_
        refine lv_icmp_ge (tgt := 93) hx hb dX7_decides_58 (by decide) (fun c => absurd c (cN_ge hltL2)) (fun c3 => ?_)
        refine lv_aload_n hx hb dX7_decides_61 rfl (lv_at hl 4 rfl) ?_
        refine kb_get (v := .ref (g_now 0)) hx hb hts hin7 hown hK hH 0 rfl rfl rfl 1 (by decide) (hts (.fieldLink RX7 19 "CockWar" "now" "LCockWar$Hill;") (List.mem_of_getElem? (i := 2) rfl)) (fun _ h9 => h9) rfl dX7_decides_62 ?_
        refine lv_iload_n hx hb dX7_decides_65 rfl (lv_at hl 3 rfl) ?_
        refine lv_iconst (v := 1) hx hb dX7_decides_66 (by decide) ?_
        refine lv_iload hx hb dX7_decides_67 (lv_at hl 0 rfl) ?_
        refine lv_ishl hx hb dX7_decides_69 ?_
        refine lv_ixor hx hb dX7_decides_70 ?_
        refine kb_ci hH hA [5, 6, 7, 8, 9, 10] (Wc := (w_O2 G g_now V_now)) (Wc' := (w_O2 G g_now V_now)) (WS' := (w_O7 G g a_reader (g_now 0) (g_air 0) a_acts a_sights a_slots a_plan a_trial V ++ w_O1 G g_air V_air ++ w_O2 G g_now V_now)) rfl (by decide) rfl rfl (va_runVN (C := RX2) (As := [.int ((f_X1_waysBehind V_air V_now x0 (V_now.2.1 8) (0 : Int32)) ^^^ ((1 : Int32) <<< ((nI iL2) &&& 31)))]) (rest := []) ⟨hx, hb, hml, hown, hts⟩ (c_X2_brookBy l G g_now V_now ((f_X1_waysBehind V_air V_now x0 (V_now.2.1 8) (0 : Int32)) ^^^ ((1 : Int32) <<< ((nI iL2) &&& 31))) rfl _) ⟨va_cnB 1 hts gX7_decides_X2_brookBy_n205 rfl rfl rfl (kb_NM hN 53 rfl) (hts (.initialized RX2) (List.mem_of_getElem? (i := 17) rfl)) hd_X2_brookBy ⟨Nat.le_of_ble_eq_true rfl, Nat.le_of_ble_eq_true rfl⟩, (hts (.instanceMethod yX2_brookBy) (List.mem_of_getElem? (i := 27) rfl)), (hts (.selects RX2 yX2_brookBy yX2_brookBy) (List.mem_of_getElem? (i := 28) rfl))⟩ (kb_preV hH hK hN [5, 6, 7, 8, 9, 10] rfl (by decide) 5 rfl rfl rfl rfl) rfl rfl hl.1 rfl (lv_room (Nat.le_of_ble_eq_true rfl)) dX7_decides_71 ⟨Nat.le_of_ble_eq_true rfl, Nat.le_of_ble_eq_true rfl⟩) (fun H locs hH => ?_)
        refine lv_iload_n hx hb dX7_decides_74 rfl (lv_at hl 2 rfl) ?_
        refine lv_icmp_eq (tgt := 87) hx hb dX7_decides_75 (by decide) (fun c4 => ?_) (fun c4 => ?_)
        · rw [if_pos c4] at hBL2
          refine lv_iinc (v := (nI (iL2 + 1))) (lv' := [(5, .int (nI (iL2 + 1))), (4, .int L2a), (3, .int (f_X2_brookBy V_now (f_X1_waysBehind V_air V_now x0 (V_now.2.1 8) (0 : Int32)))), (2, .int (f_X1_waysBehind V_air V_now x0 (V_now.2.1 8) (0 : Int32))), (0, .ref (g 0))]) hx hb dX7_decides_87 hl (k := 0) rfl (nI_1 _) (by decide) rfl (fun ls hl => ?_)
          refine lv_goto (tgt := 49) hx hb dX7_decides_90 (by decide) ?_
          subst hBL2
          exact ihL2 _ _ _ _ ⟨by omega, hs⟩ ⟨hH, lv_sub hl [0, 1, 2, 3, 4] rfl⟩
        · rw [if_neg c4] at hBL2
          refine lv_iload hx hb dX7_decides_78 (lv_at hl 1 rfl) ?_
          refine lv_iconst (v := 1) hx hb dX7_decides_80 (by decide) ?_
          refine lv_iload hx hb dX7_decides_81 (lv_at hl 0 rfl) ?_
          refine lv_ishl hx hb dX7_decides_83 ?_
          refine lv_ior hx hb dX7_decides_84 ?_
          refine lv_istore (lv' := [(4, .int (L2a ||| ((1 : Int32) <<< ((nI iL2) &&& 31)))), (5, .int (nI iL2)), (3, .int (f_X2_brookBy V_now (f_X1_waysBehind V_air V_now x0 (V_now.2.1 8) (0 : Int32)))), (2, .int (f_X1_waysBehind V_air V_now x0 (V_now.2.1 8) (0 : Int32))), (0, .ref (g 0))]) hx hb dX7_decides_85 hl (by decide) rfl (fun ls hl => ?_)
          refine lv_iinc (v := (nI (iL2 + 1))) (lv' := [(5, .int (nI (iL2 + 1))), (4, .int (L2a ||| ((1 : Int32) <<< ((nI iL2) &&& 31)))), (3, .int (f_X2_brookBy V_now (f_X1_waysBehind V_air V_now x0 (V_now.2.1 8) (0 : Int32)))), (2, .int (f_X1_waysBehind V_air V_now x0 (V_now.2.1 8) (0 : Int32))), (0, .ref (g 0))]) hx hb dX7_decides_87 hl (k := 1) rfl (nI_1 _) (by decide) rfl (fun ls hl => ?_)
          refine lv_goto (tgt := 49) hx hb dX7_decides_90 (by decide) ?_
          subst hBL2
          exact ihL2 _ _ _ _ ⟨by omega, hs⟩ ⟨hH, lv_sub hl [0, 1, 2, 3, 4] rfl⟩
    · obtain ⟨hH, hl⟩ := hX
      refine lv_iload hx hb dX7_decides_93 (lv_at hl 0 rfl) ?_
      subst hF
      exact kb_iret hx hb hr hH rfl rfl dX7_decides_95 hlocks
  · rw [if_pos c1] at hF
    refine lv_iconst (v := -1) hx hb dX7_decides_11 (by decide) ?_
    subst hF
    exact kb_iret hx hb hr hH rfl rfl dX7_decides_12 hlocks
def f_X7_power_L2 (V_now : OV) (x0 : Int32) (iL2 : Nat) (s : (Int32)) : (Int32) := (if ((nI iL2) &&& ((1 : Int32) <<< (x0 &&& 31))) = 0 then (if (f_X2_brookBy V_now (nI iL2)) = (f_X2_brookBy V_now ((nI iL2) ||| ((1 : Int32) <<< (x0 &&& 31)))) then s else (s + (1 : Int32))) else s)
def f_X7_power (V : OV) (V_now : OV) (x0 : Int32) : (Int32) := (if (f_X2_hasCock V_now x0) = 0 then (-1 : Int32) else (kAp (lpu (f_X7_power_L2 V_now x0) (cM (f_X2_everyCock V_now)) 0 (0 : Int32)) (fun z6 => z6)))
def d_X7_power (V : OV) (V_now : OV) (x0 : Int32) : Prop := (¬ ((f_X2_hasCock V_now x0) = 0) → (f_X2_everyCock V_now).toInt < 2147483647)
set_option maxHeartbeats 4000000 in
set_option maxRecDepth 100000 in
theorem c_X7_power (l : Launch) (G : Ge) (g : Nat → Nat) (a_reader : Nat) (a_air : Nat) (a_acts : Nat) (a_sights : Nat) (a_slots : Nat) (a_plan : Nat) (a_trial : Nat) (V : OV) (g_now : Nat → Nat) (V_now : OV) (x0 : Int32) (hD : d_X7_power V V_now x0) {F : (Int32)} (hF : f_X7_power V V_now x0 = F) : CI l yX7_power wsX7_power { frames := 2, cells := 0, slots := 0, locals := 46 } [.ref (g 0), .int x0] G (w_O7 G g a_reader (g_now 0) a_air a_acts a_sights a_slots a_plan a_trial V ++ w_O2 G g_now V_now) (w_O7 G g a_reader (g_now 0) a_air a_acts a_sights a_slots a_plan a_trial V ++ w_O2 G g_now V_now) F := by
  intro sz
  refine Met.ofW (cc := cX7_power) (maxL := 6) (ret := (some .int)) (by decide) rfl ?_
  intro p e s m args below meth c s₁ B hml hv
  obtain ⟨rfl, hpre⟩ := hv
  obtain ⟨hsz, hH, hK, hN, hA⟩ := kb_start hpre
  subst hsz
  have hx := B.exec
  have hb := B.bytes
  have hr := B.returns
  have hts := atoms_spec (ws := wsX7_power) B.pre
  have hown : s.vm.findClass RX7 = some m.cls := findClass_of_methodNamed B.named
  have hlocks := B.notSynchronized
  generalize hAe : va_A (List.flatten (w_O7 G g a_reader (g_now 0) a_air a_acts a_sights a_slots a_plan a_trial V ++ w_O2 G g_now V_now)) s.heap.size = A at hH hA ⊢
  have hl := lv_entry ([.ref (g 0), .int x0]) (n := 6) (Nat.le_of_ble_eq_true rfl)
  rw [lg_entry_eq]
  generalize (lg_sl ([.ref (g 0), .int x0]) ++ List.replicate (6 - (lg_sl ([.ref (g 0), .int x0])).length) Slot.unset).toArray = ls at hl ⊢
  have hl : lv_has ls 6 [(0, .ref (g 0)), (1, .int x0)] := hl
  have hH : HP G A s.heap (w_O7 G g a_reader (g_now 0) a_air a_acts a_sights a_slots a_plan a_trial V ++ w_O2 G g_now V_now) s.heap [] := hH
  have hin7 : ∀ w ∈ u_ws RX7 TX7 9, w ∈ wsX7_power := fun w h => List.mem_cons_of_mem _ (List.mem_append_left _ (List.mem_append_right _ h))
  have hF : (if (f_X2_hasCock V_now x0) = 0 then (-1 : Int32) else (kAp (lpu (f_X7_power_L2 V_now x0) (cM (f_X2_everyCock V_now)) 0 (0 : Int32)) (fun z6 => z6))) = F := hF
  have hD : (¬ ((f_X2_hasCock V_now x0) = 0) → (f_X2_everyCock V_now).toInt < 2147483647) := hD
  refine lv_aload_n hx hb dX7_power_0 rfl (lv_at hl 0 rfl) ?_
  refine kb_get (v := .ref (g_now 0)) hx hb hts hin7 hown hK hH 0 rfl rfl rfl 1 (by decide) (hts (.fieldLink RX7 19 "CockWar" "now" "LCockWar$Hill;") (List.mem_of_getElem? (i := 1) rfl)) (fun _ h9 => h9) rfl dX7_power_1 ?_
  refine lv_iload_n hx hb dX7_power_4 rfl (lv_at hl 1 rfl) ?_
  refine kb_ci hH hA [1, 2, 3, 4, 5, 6] (Wc := (w_O2 G g_now V_now)) (Wc' := (w_O2 G g_now V_now)) (WS' := (w_O7 G g a_reader (g_now 0) a_air a_acts a_sights a_slots a_plan a_trial V ++ w_O2 G g_now V_now)) rfl (by decide) rfl rfl (va_runVN (C := RX2) (As := [.int x0]) (rest := []) ⟨hx, hb, hml, hown, hts⟩ (c_X2_hasCock l G g_now V_now x0 rfl _) ⟨va_cnB 1 hts gX7_power_X2_hasCock_n110 rfl rfl rfl (kb_NM hN 31 rfl) (hts (.initialized RX2) (List.mem_of_getElem? (i := 3) rfl)) hd_X2_hasCock ⟨Nat.le_of_ble_eq_true rfl, Nat.le_of_ble_eq_true rfl⟩, (hts (.instanceMethod yX2_hasCock) (List.mem_of_getElem? (i := 2) rfl)), (hts (.selects RX2 yX2_hasCock yX2_hasCock) (List.mem_of_getElem? (i := 4) rfl))⟩ (kb_preV hH hK hN [1, 2, 3, 4, 5, 6] rfl (by decide) 1 rfl rfl rfl rfl) rfl rfl hl.1 rfl (lv_room (Nat.le_of_ble_eq_true rfl)) dX7_power_5 ⟨Nat.le_of_ble_eq_true rfl, Nat.le_of_ble_eq_true rfl⟩) (fun H locs hH => ?_)
  refine lv_if_ne (tgt := 13) hx hb dX7_power_8 (by decide) (fun c1 => ?_) (fun c1 => ?_)
  · have hD := hD c1
    rw [if_neg c1] at hF
    refine lv_iconst (v := 1) hx hb dX7_power_13 (by decide) ?_
    refine lv_iload_n hx hb dX7_power_14 rfl (lv_at hl 1 rfl) ?_
    refine lv_ishl hx hb dX7_power_15 ?_
    refine lv_istore_n (lv' := [(2, .int ((1 : Int32) <<< (x0 &&& 31))), (0, .ref (g 0)), (1, .int x0)]) hx hb dX7_power_16 rfl hl (by decide) rfl (fun ls hl => ?_)
    refine lv_aload_n hx hb dX7_power_17 rfl (lv_at hl 1 rfl) ?_
    refine kb_get (v := .ref (g_now 0)) hx hb hts hin7 hown hK hH 0 rfl rfl rfl 1 (by decide) (hts (.fieldLink RX7 19 "CockWar" "now" "LCockWar$Hill;") (List.mem_of_getElem? (i := 1) rfl)) (fun _ h9 => h9) rfl dX7_power_18 ?_
    refine kb_ci hH hA [1, 2, 3, 4, 5, 6] (Wc := (w_O2 G g_now V_now)) (Wc' := (w_O2 G g_now V_now)) (WS' := (w_O7 G g a_reader (g_now 0) a_air a_acts a_sights a_slots a_plan a_trial V ++ w_O2 G g_now V_now)) rfl (by decide) rfl rfl (va_runVN (C := RX2) (As := []) (rest := []) ⟨hx, hb, hml, hown, hts⟩ (c_X2_everyCock l G g_now V_now rfl _) ⟨va_cnB 0 hts gX7_power_X2_everyCock_n208 rfl rfl rfl (kb_NM hN 54 rfl) (hts (.initialized RX2) (List.mem_of_getElem? (i := 3) rfl)) hd_X2_everyCock ⟨Nat.le_of_ble_eq_true rfl, Nat.le_of_ble_eq_true rfl⟩, (hts (.instanceMethod yX2_everyCock) (List.mem_of_getElem? (i := 7) rfl)), (hts (.selects RX2 yX2_everyCock yX2_everyCock) (List.mem_of_getElem? (i := 8) rfl))⟩ (kb_preV hH hK hN [1, 2, 3, 4, 5, 6] rfl (by decide) 1 rfl rfl rfl rfl) rfl rfl hl.1 rfl (lv_room (Nat.le_of_ble_eq_true rfl)) dX7_power_21 ⟨Nat.le_of_ble_eq_true rfl, Nat.le_of_ble_eq_true rfl⟩) (fun H locs hH => ?_)
    refine lv_istore_n (lv' := [(3, .int (f_X2_everyCock V_now)), (2, .int ((1 : Int32) <<< (x0 &&& 31))), (0, .ref (g 0)), (1, .int x0)]) hx hb dX7_power_24 rfl hl (by decide) rfl (fun ls hl => ?_)
    refine lv_iconst (v := 0) hx hb dX7_power_25 (by decide) ?_
    refine lv_istore (lv' := [(4, .int (0 : Int32)), (3, .int (f_X2_everyCock V_now)), (2, .int ((1 : Int32) <<< (x0 &&& 31))), (0, .ref (g 0)), (1, .int x0)]) hx hb dX7_power_26 hl (by decide) rfl (fun ls hl => ?_)
    refine lv_iconst (v := 0) hx hb dX7_power_28 (by decide) ?_
    refine lv_istore (lv' := [(5, .int (0 : Int32)), (4, .int (0 : Int32)), (3, .int (f_X2_everyCock V_now)), (2, .int ((1 : Int32) <<< (x0 &&& 31))), (0, .ref (g 0)), (1, .int x0)]) hx hb dX7_power_29 hl (by decide) rfl (fun ls hl => ?_)
    have hsdL2 := hD
    obtain ⟨SFL2, hSFL2⟩ : ∃ z, z = (lpu (f_X7_power_L2 V_now x0) (cM (f_X2_everyCock V_now)) 0 (0 : Int32)) := ⟨_, rfl⟩
    have hF := kAp_eq hF hSFL2
    refine kb_cut (fun H locs ls => HP G A s.heap (w_O7 G g a_reader (g_now 0) a_air a_acts a_sights a_slots a_plan a_trial V ++ w_O2 G g_now V_now) H locs ∧ lv_has ls 6 [(4, .int SFL2)]) 76 [] (fun EXL2 => ?_) (fun H locs ls hX => ?_)
    · refine kb_loop (σ := (Int32)) (fun n i x => n + i = (cM (f_X2_everyCock V_now)) ∧ lpu (f_X7_power_L2 V_now x0) n i x = SFL2) (fun iL2 x H locs ls => HP G A s.heap (w_O7 G g a_reader (g_now 0) a_air a_acts a_sights a_slots a_plan a_trial V ++ w_O2 G g_now V_now) H locs ∧ lv_has ls 6 [(5, .int (nI iL2)), (4, .int x), (3, .int (f_X2_everyCock V_now)), (2, .int ((1 : Int32) <<< (x0 &&& 31))), (0, .ref (g 0))]) (fun iL2 x H locs ls hI hX => ?_) (fun n iL2 x hI ihL2 H locs ls hX => ?_) (cM (f_X2_everyCock V_now)) 0 (0 : Int32) _ _ _ ⟨Nat.add_zero _, hSFL2.symm⟩ ⟨hH, lv_sub hl [0, 1, 2, 3, 4] rfl⟩
      · obtain ⟨L2a, exL2a⟩ : ∃ z, z = x := ⟨_, rfl⟩
        subst exL2a
        have hH : HP G A s.heap (w_O7 G g a_reader (g_now 0) a_air a_acts a_sights a_slots a_plan a_trial V ++ w_O2 G g_now V_now) H locs := hX.1
        have hl : lv_has ls 6 [(5, .int (nI iL2)), (4, .int L2a), (3, .int (f_X2_everyCock V_now)), (2, .int ((1 : Int32) <<< (x0 &&& 31))), (0, .ref (g 0))] := hX.2
        obtain ⟨hiL2, hs⟩ := hI
        have hiL2 : iL2 = (cM (f_X2_everyCock V_now)) := by omega
        refine lv_iload hx hb dX7_power_31 (lv_at hl 0 rfl) ?_
        refine lv_iload_n hx hb dX7_power_33 rfl (lv_at hl 2 rfl) ?_
        refine lv_icmp_gt (tgt := 76) hx hb dX7_power_34 (by decide) (fun _ => ?_) (fun c => absurd (cM_end hsdL2 hiL2) c)
        exact EXL2 _ _ _ ⟨by subst hs; exact hH, by subst hs; exact lv_sub hl [1] rfl⟩
      · obtain ⟨L2a, exL2a⟩ : ∃ z, z = x := ⟨_, rfl⟩
        subst exL2a
        have hH : HP G A s.heap (w_O7 G g a_reader (g_now 0) a_air a_acts a_sights a_slots a_plan a_trial V ++ w_O2 G g_now V_now) H locs := hX.1
        have hl : lv_has ls 6 [(5, .int (nI iL2)), (4, .int L2a), (3, .int (f_X2_everyCock V_now)), (2, .int ((1 : Int32) <<< (x0 &&& 31))), (0, .ref (g 0))] := hX.2
        obtain ⟨hiL2, hs⟩ := hI
        have hltL2 : iL2 < (cM (f_X2_everyCock V_now)) := by omega
        obtain ⟨BVL2, hBd⟩ : ∃ z, (f_X7_power_L2 V_now x0) iL2 L2a = z := ⟨_, rfl⟩
        have hs : lpu (f_X7_power_L2 V_now x0) n (iL2 + 1) BVL2 = SFL2 := by rw [← hBd]; exact hs
        have hBL2 : (if ((nI iL2) &&& ((1 : Int32) <<< (x0 &&& 31))) = 0 then (if (f_X2_brookBy V_now (nI iL2)) = (f_X2_brookBy V_now ((nI iL2) ||| ((1 : Int32) <<< (x0 &&& 31)))) then L2a else (L2a + (1 : Int32))) else L2a) = BVL2 := hBd
        refine lv_iload hx hb dX7_power_31 (lv_at hl 0 rfl) ?_
        refine lv_iload_n hx hb dX7_power_33 rfl (lv_at hl 2 rfl) ?_
        refine lv_icmp_gt (tgt := 76) hx hb dX7_power_34 (by decide) (fun c => absurd c (cM_gt hsdL2 hltL2)) (fun c3 => ?_)
        refine lv_iload hx hb dX7_power_37 (lv_at hl 0 rfl) ?_
        refine lv_iload_n hx hb dX7_power_39 rfl (lv_at hl 3 rfl) ?_
        refine lv_iand hx hb dX7_power_40 ?_
        refine lv_if_ne (tgt := 70) hx hb dX7_power_41 (by decide) (fun c4 => ?_) (fun c4 => ?_)
        · rw [if_neg c4] at hBL2
          refine lv_iinc (v := (nI (iL2 + 1))) (lv' := [(5, .int (nI (iL2 + 1))), (4, .int L2a), (3, .int (f_X2_everyCock V_now)), (2, .int ((1 : Int32) <<< (x0 &&& 31))), (0, .ref (g 0))]) hx hb dX7_power_70 hl (k := 0) rfl (nI_1 _) (by decide) rfl (fun ls hl => ?_)
          refine lv_goto (tgt := 31) hx hb dX7_power_73 (by decide) ?_
          subst hBL2
          exact ihL2 _ _ _ _ ⟨by omega, hs⟩ ⟨hH, lv_sub hl [0, 1, 2, 3, 4] rfl⟩
        · rw [if_pos c4] at hBL2
          refine lv_aload_n hx hb dX7_power_44 rfl (lv_at hl 4 rfl) ?_
          refine kb_get (v := .ref (g_now 0)) hx hb hts hin7 hown hK hH 0 rfl rfl rfl 1 (by decide) (hts (.fieldLink RX7 19 "CockWar" "now" "LCockWar$Hill;") (List.mem_of_getElem? (i := 1) rfl)) (fun _ h9 => h9) rfl dX7_power_45 ?_
          refine lv_iload hx hb dX7_power_48 (lv_at hl 0 rfl) ?_
          refine kb_ci hH hA [1, 2, 3, 4, 5, 6] (Wc := (w_O2 G g_now V_now)) (Wc' := (w_O2 G g_now V_now)) (WS' := (w_O7 G g a_reader (g_now 0) a_air a_acts a_sights a_slots a_plan a_trial V ++ w_O2 G g_now V_now)) rfl (by decide) rfl rfl (va_runVN (C := RX2) (As := [.int (nI iL2)]) (rest := []) ⟨hx, hb, hml, hown, hts⟩ (c_X2_brookBy l G g_now V_now (nI iL2) rfl _) ⟨va_cnB 1 hts gX7_power_X2_brookBy_n205 rfl rfl rfl (kb_NM hN 53 rfl) (hts (.initialized RX2) (List.mem_of_getElem? (i := 3) rfl)) hd_X2_brookBy ⟨Nat.le_of_ble_eq_true rfl, Nat.le_of_ble_eq_true rfl⟩, (hts (.instanceMethod yX2_brookBy) (List.mem_of_getElem? (i := 10) rfl)), (hts (.selects RX2 yX2_brookBy yX2_brookBy) (List.mem_of_getElem? (i := 11) rfl))⟩ (kb_preV hH hK hN [1, 2, 3, 4, 5, 6] rfl (by decide) 1 rfl rfl rfl rfl) rfl rfl hl.1 rfl (lv_room (Nat.le_of_ble_eq_true rfl)) dX7_power_50 ⟨Nat.le_of_ble_eq_true rfl, Nat.le_of_ble_eq_true rfl⟩) (fun H locs hH => ?_)
          refine lv_aload_n hx hb dX7_power_53 rfl (lv_at hl 4 rfl) ?_
          refine kb_get (v := .ref (g_now 0)) hx hb hts hin7 hown hK hH 0 rfl rfl rfl 1 (by decide) (hts (.fieldLink RX7 19 "CockWar" "now" "LCockWar$Hill;") (List.mem_of_getElem? (i := 1) rfl)) (fun _ h9 => h9) rfl dX7_power_54 ?_
          refine lv_iload hx hb dX7_power_57 (lv_at hl 0 rfl) ?_
          refine lv_iload_n hx hb dX7_power_59 rfl (lv_at hl 3 rfl) ?_
          refine lv_ior hx hb dX7_power_60 ?_
          refine kb_ci hH hA [1, 2, 3, 4, 5, 6] (Wc := (w_O2 G g_now V_now)) (Wc' := (w_O2 G g_now V_now)) (WS' := (w_O7 G g a_reader (g_now 0) a_air a_acts a_sights a_slots a_plan a_trial V ++ w_O2 G g_now V_now)) rfl (by decide) rfl rfl (va_runVN (C := RX2) (As := [.int ((nI iL2) ||| ((1 : Int32) <<< (x0 &&& 31)))]) (rest := [.int (f_X2_brookBy V_now (nI iL2))]) ⟨hx, hb, hml, hown, hts⟩ (c_X2_brookBy l G g_now V_now ((nI iL2) ||| ((1 : Int32) <<< (x0 &&& 31))) rfl _) ⟨va_cnB 1 hts gX7_power_X2_brookBy_n205 rfl rfl rfl (kb_NM hN 53 rfl) (hts (.initialized RX2) (List.mem_of_getElem? (i := 3) rfl)) hd_X2_brookBy ⟨Nat.le_of_ble_eq_true rfl, Nat.le_of_ble_eq_true rfl⟩, (hts (.instanceMethod yX2_brookBy) (List.mem_of_getElem? (i := 10) rfl)), (hts (.selects RX2 yX2_brookBy yX2_brookBy) (List.mem_of_getElem? (i := 11) rfl))⟩ (kb_preV hH hK hN [1, 2, 3, 4, 5, 6] rfl (by decide) 1 rfl rfl rfl rfl) rfl rfl hl.1 rfl (lv_room (Nat.le_of_ble_eq_true rfl)) dX7_power_61 ⟨Nat.le_of_ble_eq_true rfl, Nat.le_of_ble_eq_true rfl⟩) (fun H locs hH => ?_)
          refine lv_icmp_eq (tgt := 70) hx hb dX7_power_64 (by decide) (fun c5 => ?_) (fun c5 => ?_)
          · rw [if_pos c5] at hBL2
            refine lv_iinc (v := (nI (iL2 + 1))) (lv' := [(5, .int (nI (iL2 + 1))), (4, .int L2a), (3, .int (f_X2_everyCock V_now)), (2, .int ((1 : Int32) <<< (x0 &&& 31))), (0, .ref (g 0))]) hx hb dX7_power_70 hl (k := 0) rfl (nI_1 _) (by decide) rfl (fun ls hl => ?_)
            refine lv_goto (tgt := 31) hx hb dX7_power_73 (by decide) ?_
            subst hBL2
            exact ihL2 _ _ _ _ ⟨by omega, hs⟩ ⟨hH, lv_sub hl [0, 1, 2, 3, 4] rfl⟩
          · rw [if_neg c5] at hBL2
            refine lv_iinc (v := (L2a + (1 : Int32))) (lv' := [(4, .int (L2a + (1 : Int32))), (5, .int (nI iL2)), (3, .int (f_X2_everyCock V_now)), (2, .int ((1 : Int32) <<< (x0 &&& 31))), (0, .ref (g 0))]) hx hb dX7_power_67 hl (k := 1) rfl rfl (by decide) rfl (fun ls hl => ?_)
            refine lv_iinc (v := (nI (iL2 + 1))) (lv' := [(5, .int (nI (iL2 + 1))), (4, .int (L2a + (1 : Int32))), (3, .int (f_X2_everyCock V_now)), (2, .int ((1 : Int32) <<< (x0 &&& 31))), (0, .ref (g 0))]) hx hb dX7_power_70 hl (k := 1) rfl (nI_1 _) (by decide) rfl (fun ls hl => ?_)
            refine lv_goto (tgt := 31) hx hb dX7_power_73 (by decide) ?_
            subst hBL2
            exact ihL2 _ _ _ _ ⟨by omega, hs⟩ ⟨hH, lv_sub hl [0, 1, 2, 3, 4] rfl⟩
    · obtain ⟨hH, hl⟩ := hX
      refine lv_iload hx hb dX7_power_76 (lv_at hl 0 rfl) ?_
      subst hF
      exact kb_iret hx hb hr hH rfl rfl dX7_power_78 hlocks
  · rw [if_pos c1] at hF
    refine lv_iconst (v := -1) hx hb dX7_power_11 (by decide) ?_
    subst hF
    exact kb_iret hx hb hr hH rfl rfl dX7_power_12 hlocks
def f_X7_judge_L6 (V_air : OV) (x0 : Int32) (x1 : Int32) (iL6 : Nat) (s : (OV)) : (OV) ⊕ (Int32 × OV) := (if (f_X1_hasWind V_air ((f_X7_cutFigures x1 ((x0 - (1 : Int32)) - (nI iL6))) - (f_X7_cutFigures x1 ((x0 - (1 : Int32)) - (nI iL6))) / (10 : Int32) * (10 : Int32))) = 0 then (Sum.inr ((nI iL6), s)) else (kAp (f_X1_blowOver V_air s ((f_X7_cutFigures x1 ((x0 - (1 : Int32)) - (nI iL6))) - (f_X7_cutFigures x1 ((x0 - (1 : Int32)) - (nI iL6))) / (10 : Int32) * (10 : Int32))) (fun q9 => (if q9.1 = 0 then (Sum.inl q9.2) else (Sum.inr ((nI iL6), q9.2))))))
def f_X7_judge (V : OV) (V_trial : OV) (V_now : OV) (V_air : OV) (x0 : Int32) (x1 : Int32) : (Int32 × OV) := (if x0 < (1 : Int32) then ((-2 : Int32), V_trial) else (if (6 : Int32) < x0 then ((-2 : Int32), V_trial) else (if x1 < 0 then ((-2 : Int32), V_trial) else (if (f_X7_cutFigures x1 x0) ≤ 0 then (kAp (f_X2_copyFrom V_trial V_now) (fun q5 => (kAx (lpx (f_X7_judge_L6 V_air x0 x1) (cN x0) 0 q5) (fun z11 => ((-9 : Int32), z11))))) else ((-2 : Int32), V_trial)))))
set_option maxHeartbeats 4000000 in
set_option maxRecDepth 100000 in
theorem c_X7_judge (l : Launch) (G : Ge) (g : Nat → Nat) (a_reader : Nat) (a_acts : Nat) (a_sights : Nat) (a_slots : Nat) (a_plan : Nat) (V : OV) (g_trial : Nat → Nat) (V_trial : OV) (g_now : Nat → Nat) (V_now : OV) (g_air : Nat → Nat) (V_air : OV) (x0 : Int32) (x1 : Int32) {F : (Int32 × OV)} (hF : f_X7_judge V V_trial V_now V_air x0 x1 = F) : CI l yX7_judge wsX7_judge { frames := 4, cells := 0, slots := 0, locals := 96 } [.ref (g 0), .int x0, .int x1] G (w_O7 G g a_reader (g_now 0) (g_air 0) a_acts a_sights a_slots a_plan (g_trial 0) V ++ w_O2 G g_trial V_trial ++ w_O2 G g_now V_now ++ w_O1 G g_air V_air) (w_O7 G g a_reader (g_now 0) (g_air 0) a_acts a_sights a_slots a_plan (g_trial 0) V ++ w_O2 G g_trial F.2 ++ w_O2 G g_now V_now ++ w_O1 G g_air V_air) F.1 := by
  intro sz
  refine Met.ofW (cc := cX7_judge) (maxL := 5) (ret := (some .int)) (by decide) rfl ?_
  intro p e s m args below meth c s₁ B hml hv
  obtain ⟨rfl, hpre⟩ := hv
  obtain ⟨hsz, hH, hK, hN, hA⟩ := kb_start hpre
  subst hsz
  have hx := B.exec
  have hb := B.bytes
  have hr := B.returns
  have hts := atoms_spec (ws := wsX7_judge) B.pre
  have hown : s.vm.findClass RX7 = some m.cls := findClass_of_methodNamed B.named
  have hlocks := B.notSynchronized
  generalize hAe : va_A (List.flatten (w_O7 G g a_reader (g_now 0) (g_air 0) a_acts a_sights a_slots a_plan (g_trial 0) V ++ w_O2 G g_trial V_trial ++ w_O2 G g_now V_now ++ w_O1 G g_air V_air)) s.heap.size = A at hH hA ⊢
  have hl := lv_entry ([.ref (g 0), .int x0, .int x1]) (n := 5) (Nat.le_of_ble_eq_true rfl)
  rw [lg_entry_eq]
  generalize (lg_sl ([.ref (g 0), .int x0, .int x1]) ++ List.replicate (5 - (lg_sl ([.ref (g 0), .int x0, .int x1])).length) Slot.unset).toArray = ls at hl ⊢
  have hl : lv_has ls 5 [(0, .ref (g 0)), (1, .int x0), (2, .int x1)] := hl
  have hH : HP G A s.heap (w_O7 G g a_reader (g_now 0) (g_air 0) a_acts a_sights a_slots a_plan (g_trial 0) V ++ w_O2 G g_trial V_trial ++ w_O2 G g_now V_now ++ w_O1 G g_air V_air) s.heap [] := hH
  have hin7 : ∀ w ∈ u_ws RX7 TX7 9, w ∈ wsX7_judge := fun w h => List.mem_cons_of_mem _ (List.mem_append_left _ (List.mem_append_left _ (List.mem_append_right _ h)))
  have hF : (if x0 < (1 : Int32) then ((-2 : Int32), V_trial) else (if (6 : Int32) < x0 then ((-2 : Int32), V_trial) else (if x1 < 0 then ((-2 : Int32), V_trial) else (if (f_X7_cutFigures x1 x0) ≤ 0 then (kAp (f_X2_copyFrom V_trial V_now) (fun q5 => (kAx (lpx (f_X7_judge_L6 V_air x0 x1) (cN x0) 0 q5) (fun z11 => ((-9 : Int32), z11))))) else ((-2 : Int32), V_trial))))) = F := hF
  refine lv_iload_n hx hb dX7_judge_0 rfl (lv_at hl 1 rfl) ?_
  refine lv_iconst (v := 1) hx hb dX7_judge_1 (by decide) ?_
  refine lv_icmp_lt (tgt := 23) hx hb dX7_judge_2 (by decide) (fun c1 => ?_) (fun c1 => ?_)
  · rw [if_pos c1] at hF
    refine lv_bipush (v := -2) hx hb dX7_judge_23 (by decide) ?_
    subst hF
    exact kb_iret hx hb hr hH rfl rfl dX7_judge_25 hlocks
  · rw [if_neg c1] at hF
    refine lv_iload_n hx hb dX7_judge_5 rfl (lv_at hl 1 rfl) ?_
    refine lv_bipush (v := 6) hx hb dX7_judge_6 (by decide) ?_
    refine lv_icmp_gt (tgt := 23) hx hb dX7_judge_8 (by decide) (fun c2 => ?_) (fun c2 => ?_)
    · rw [if_pos c2] at hF
      refine lv_bipush (v := -2) hx hb dX7_judge_23 (by decide) ?_
      subst hF
      exact kb_iret hx hb hr hH rfl rfl dX7_judge_25 hlocks
    · rw [if_neg c2] at hF
      refine lv_iload_n hx hb dX7_judge_11 rfl (lv_at hl 2 rfl) ?_
      refine lv_if_lt (tgt := 23) hx hb dX7_judge_12 (by decide) (fun c3 => ?_) (fun c3 => ?_)
      · rw [if_pos c3] at hF
        refine lv_bipush (v := -2) hx hb dX7_judge_23 (by decide) ?_
        subst hF
        exact kb_iret hx hb hr hH rfl rfl dX7_judge_25 hlocks
      · rw [if_neg c3] at hF
        refine lv_iload_n hx hb dX7_judge_15 rfl (lv_at hl 2 rfl) ?_
        refine lv_iload_n hx hb dX7_judge_16 rfl (lv_at hl 1 rfl) ?_
        refine kb_ci hH hA [] (Wc := ([] : List va_W)) (Wc' := ([] : List va_W)) (WS' := (w_O7 G g a_reader (g_now 0) (g_air 0) a_acts a_sights a_slots a_plan (g_trial 0) V ++ w_O2 G g_trial V_trial ++ w_O2 G g_now V_now ++ w_O1 G g_air V_air)) rfl (by decide) rfl rfl (va_runS (As := [.int x1, .int x0]) (rest := []) ⟨hx, hb, hml, hown, hts⟩ (c_X7_cutFigures l G x1 x0 rfl _) (va_cwS 2 hts gX7_judge_X7_cutFigures rfl rfl rfl hd_X7_cutFigures ⟨Nat.le_of_ble_eq_true rfl, Nat.le_of_ble_eq_true rfl⟩) (kb_preS hH hK hN [] rfl (by decide)) rfl rfl hl.1 rfl (lv_room (Nat.le_of_ble_eq_true rfl)) dX7_judge_17 ⟨Nat.le_of_ble_eq_true rfl, Nat.le_of_ble_eq_true rfl⟩) (fun H locs hH => ?_)
        refine lv_if_le (tgt := 26) hx hb dX7_judge_20 (by decide) (fun c4 => ?_) (fun c4 => ?_)
        · rw [if_pos c4] at hF
          refine lv_aload_n hx hb dX7_judge_26 rfl (lv_at hl 0 rfl) ?_
          refine kb_get (v := .ref (g_trial 0)) hx hb hts hin7 hown hK hH 0 rfl rfl rfl 7 (by decide) (hts (.fieldLink RX7 58 "CockWar" "trial" "LCockWar$Hill;") (List.mem_of_getElem? (i := 1) rfl)) (fun _ h9 => h9) rfl dX7_judge_27 ?_
          refine lv_aload_n hx hb dX7_judge_30 rfl (lv_at hl 0 rfl) ?_
          refine kb_get (v := .ref (g_now 0)) hx hb hts hin7 hown hK hH 0 rfl rfl rfl 1 (by decide) (hts (.fieldLink RX7 19 "CockWar" "now" "LCockWar$Hill;") (List.mem_of_getElem? (i := 2) rfl)) (fun _ h9 => h9) rfl dX7_judge_31 ?_
          obtain ⟨q5, hq5⟩ : ∃ z, z = (f_X2_copyFrom V_trial V_now) := ⟨_, rfl⟩
          have hF := kAp_eq hF hq5
          refine kb_cv hH hA [1, 2, 3, 4, 5, 6, 7, 8, 9, 10, 11, 12] (Wc := (w_O2 G g_trial V_trial ++ w_O2 G g_now V_now)) (Wc' := (w_O2 G g_trial q5 ++ w_O2 G g_now V_now)) (WS' := (w_O7 G g a_reader (g_now 0) (g_air 0) a_acts a_sights a_slots a_plan (g_trial 0) V ++ w_O2 G g_trial q5 ++ w_O2 G g_now V_now ++ w_O1 G g_air V_air)) rfl (by decide) rfl rfl (va_runVN (C := RX2) (As := [.ref (g_now 0)]) (rest := []) ⟨hx, hb, hml, hown, hts⟩ (c_X2_copyFrom l G g_trial V_trial g_now V_now hq5.symm _) ⟨va_cnB 1 hts gX7_judge_X2_copyFrom_n80 rfl rfl rfl (kb_NM hN 25 rfl) (hts (.initialized RX2) (List.mem_of_getElem? (i := 9) rfl)) hd_X2_copyFrom ⟨Nat.le_of_ble_eq_true rfl, Nat.le_of_ble_eq_true rfl⟩, (hts (.instanceMethod yX2_copyFrom) (List.mem_of_getElem? (i := 8) rfl)), (hts (.selects RX2 yX2_copyFrom yX2_copyFrom) (List.mem_of_getElem? (i := 10) rfl))⟩ (kb_preV hH hK hN [1, 2, 3, 4, 5, 6, 7, 8, 9, 10, 11, 12] rfl (by decide) 1 rfl rfl rfl rfl) rfl rfl hl.1 rfl (lv_room (Nat.le_of_ble_eq_true rfl)) dX7_judge_34 ⟨Nat.le_of_ble_eq_true rfl, Nat.le_of_ble_eq_true rfl⟩) (fun H locs hH => ?_)
          refine lv_iconst (v := 0) hx hb dX7_judge_37 (by decide) ?_
          refine lv_istore_n (lv' := [(3, .int (0 : Int32)), (0, .ref (g 0)), (1, .int x0), (2, .int x1)]) hx hb dX7_judge_38 rfl hl (by decide) rfl (fun ls hl => ?_)
          obtain ⟨SFL6, hSFL6⟩ : ∃ z, z = (lpx (f_X7_judge_L6 V_air x0 x1) (cN x0) 0 q5) := ⟨_, rfl⟩
          rw [← hSFL6] at hF
          refine kb_cut (fun H locs ls => ∃ z11 : (OV), SFL6 = Sum.inl z11 ∧ HP G A s.heap (w_O7 G g a_reader (g_now 0) (g_air 0) a_acts a_sights a_slots a_plan (g_trial 0) V ++ w_O2 G g_trial z11 ++ w_O2 G g_now V_now ++ w_O1 G g_air V_air) H locs ∧ lv_has ls 5 []) 94 [] (fun EXL6 => ?_) (fun H locs ls hX => ?_)
          · refine kb_loop (σ := (OV)) (fun n i x => n + i = (cN x0) ∧ lpx (f_X7_judge_L6 V_air x0 x1) n i x = SFL6) (fun iL6 x H locs ls => HP G A s.heap (w_O7 G g a_reader (g_now 0) (g_air 0) a_acts a_sights a_slots a_plan (g_trial 0) V ++ w_O2 G g_trial x ++ w_O2 G g_now V_now ++ w_O1 G g_air V_air) H locs ∧ lv_has ls 5 [(3, .int (nI iL6)), (0, .ref (g 0)), (1, .int x0), (2, .int x1)]) (fun iL6 x H locs ls hI hX => ?_) (fun n iL6 x hI ihL6 H locs ls hX => ?_) (cN x0) 0 q5 _ _ _ ⟨Nat.add_zero _, hSFL6.symm⟩ ⟨hH, lv_sub hl [0, 1, 2, 3] rfl⟩
            · obtain ⟨L6a, exL6a⟩ : ∃ z, z = x := ⟨_, rfl⟩
              subst exL6a
              have hH : HP G A s.heap (w_O7 G g a_reader (g_now 0) (g_air 0) a_acts a_sights a_slots a_plan (g_trial 0) V ++ w_O2 G g_trial L6a ++ w_O2 G g_now V_now ++ w_O1 G g_air V_air) H locs := hX.1
              have hl : lv_has ls 5 [(3, .int (nI iL6)), (0, .ref (g 0)), (1, .int x0), (2, .int x1)] := hX.2
              obtain ⟨hiL6, hs⟩ := hI
              have hiL6 : iL6 = (cN x0) := by omega
              refine lv_iload_n hx hb dX7_judge_39 rfl (lv_at hl 0 rfl) ?_
              refine lv_iload_n hx hb dX7_judge_40 rfl (lv_at hl 2 rfl) ?_
              refine lv_icmp_ge (tgt := 94) hx hb dX7_judge_41 (by decide) (fun _ => ?_) (fun c => absurd (cN_end hiL6) c)
              exact EXL6 _ _ _ ⟨_, hs.symm, hH, lv_sub hl [] rfl⟩
            · obtain ⟨L6a, exL6a⟩ : ∃ z, z = x := ⟨_, rfl⟩
              subst exL6a
              have hH : HP G A s.heap (w_O7 G g a_reader (g_now 0) (g_air 0) a_acts a_sights a_slots a_plan (g_trial 0) V ++ w_O2 G g_trial L6a ++ w_O2 G g_now V_now ++ w_O1 G g_air V_air) H locs := hX.1
              have hl : lv_has ls 5 [(3, .int (nI iL6)), (0, .ref (g 0)), (1, .int x0), (2, .int x1)] := hX.2
              obtain ⟨hiL6, hs⟩ := hI
              have hltL6 : iL6 < (cN x0) := by omega
              obtain ⟨BVL6, hBd⟩ : ∃ z, (f_X7_judge_L6 V_air x0 x1) iL6 L6a = z := ⟨_, rfl⟩
              have hBL6 : (if (f_X1_hasWind V_air ((f_X7_cutFigures x1 ((x0 - (1 : Int32)) - (nI iL6))) - (f_X7_cutFigures x1 ((x0 - (1 : Int32)) - (nI iL6))) / (10 : Int32) * (10 : Int32))) = 0 then (Sum.inr ((nI iL6), L6a)) else (kAp (f_X1_blowOver V_air L6a ((f_X7_cutFigures x1 ((x0 - (1 : Int32)) - (nI iL6))) - (f_X7_cutFigures x1 ((x0 - (1 : Int32)) - (nI iL6))) / (10 : Int32) * (10 : Int32))) (fun q9 => (if q9.1 = 0 then (Sum.inl q9.2) else (Sum.inr ((nI iL6), q9.2)))))) = BVL6 := hBd
              refine lv_iload_n hx hb dX7_judge_39 rfl (lv_at hl 0 rfl) ?_
              refine lv_iload_n hx hb dX7_judge_40 rfl (lv_at hl 2 rfl) ?_
              refine lv_icmp_ge (tgt := 94) hx hb dX7_judge_41 (by decide) (fun c => absurd c (cN_ge hltL6)) (fun c7 => ?_)
              refine lv_iload_n hx hb dX7_judge_44 rfl (lv_at hl 3 rfl) ?_
              refine lv_iload_n hx hb dX7_judge_45 rfl (lv_at hl 2 rfl) ?_
              refine lv_iconst (v := 1) hx hb dX7_judge_46 (by decide) ?_
              refine lv_isub hx hb dX7_judge_47 ?_
              refine lv_iload_n hx hb dX7_judge_48 rfl (lv_at hl 0 rfl) ?_
              refine lv_isub hx hb dX7_judge_49 ?_
              refine kb_ci hH hA [] (Wc := ([] : List va_W)) (Wc' := ([] : List va_W)) (WS' := (w_O7 G g a_reader (g_now 0) (g_air 0) a_acts a_sights a_slots a_plan (g_trial 0) V ++ w_O2 G g_trial L6a ++ w_O2 G g_now V_now ++ w_O1 G g_air V_air)) rfl (by decide) rfl rfl (va_runS (As := [.int x1, .int ((x0 - (1 : Int32)) - (nI iL6))]) (rest := []) ⟨hx, hb, hml, hown, hts⟩ (c_X7_cutFigures l G x1 ((x0 - (1 : Int32)) - (nI iL6)) rfl _) (va_cwS 2 hts gX7_judge_X7_cutFigures rfl rfl rfl hd_X7_cutFigures ⟨Nat.le_of_ble_eq_true rfl, Nat.le_of_ble_eq_true rfl⟩) (kb_preS hH hK hN [] rfl (by decide)) rfl rfl hl.1 rfl (lv_room (Nat.le_of_ble_eq_true rfl)) dX7_judge_50 ⟨Nat.le_of_ble_eq_true rfl, Nat.le_of_ble_eq_true rfl⟩) (fun H locs hH => ?_)
              refine lv_bipush (v := 10) hx hb dX7_judge_53 (by decide) ?_
              refine lv_irem hx hb dX7_judge_55 (by decide) ?_
              refine lv_istore (lv' := [(4, .int ((f_X7_cutFigures x1 ((x0 - (1 : Int32)) - (nI iL6))) - (f_X7_cutFigures x1 ((x0 - (1 : Int32)) - (nI iL6))) / (10 : Int32) * (10 : Int32))), (3, .int (nI iL6)), (0, .ref (g 0)), (1, .int x0), (2, .int x1)]) hx hb dX7_judge_56 hl (by decide) rfl (fun ls hl => ?_)
              refine lv_aload_n hx hb dX7_judge_58 rfl (lv_at hl 2 rfl) ?_
              refine kb_get (v := .ref (g_air 0)) hx hb hts hin7 hown hK hH 0 rfl rfl rfl 2 (by decide) (hts (.fieldLink RX7 26 "CockWar" "air" "LCockWar$Air;") (List.mem_of_getElem? (i := 3) rfl)) (fun _ h9 => h9) rfl dX7_judge_59 ?_
              refine lv_iload hx hb dX7_judge_62 (lv_at hl 0 rfl) ?_
              refine kb_ci hH hA [13, 14, 15, 16] (Wc := (w_O1 G g_air V_air)) (Wc' := (w_O1 G g_air V_air)) (WS' := (w_O7 G g a_reader (g_now 0) (g_air 0) a_acts a_sights a_slots a_plan (g_trial 0) V ++ w_O2 G g_trial L6a ++ w_O2 G g_now V_now ++ w_O1 G g_air V_air)) rfl (by decide) rfl rfl (va_runVN (C := RX1) (As := [.int ((f_X7_cutFigures x1 ((x0 - (1 : Int32)) - (nI iL6))) - (f_X7_cutFigures x1 ((x0 - (1 : Int32)) - (nI iL6))) / (10 : Int32) * (10 : Int32))]) (rest := []) ⟨hx, hb, hml, hown, hts⟩ (c_X1_hasWind l G g_air V_air ((f_X7_cutFigures x1 ((x0 - (1 : Int32)) - (nI iL6))) - (f_X7_cutFigures x1 ((x0 - (1 : Int32)) - (nI iL6))) / (10 : Int32) * (10 : Int32)) rfl _) ⟨va_cnB 1 hts gX7_judge_X1_hasWind_n138 rfl rfl rfl (kb_NM hN 32 rfl) (hts (.initialized RX1) (List.mem_of_getElem? (i := 26) rfl)) hd_X1_hasWind ⟨Nat.le_of_ble_eq_true rfl, Nat.le_of_ble_eq_true rfl⟩, (hts (.instanceMethod yX1_hasWind) (List.mem_of_getElem? (i := 25) rfl)), (hts (.selects RX1 yX1_hasWind yX1_hasWind) (List.mem_of_getElem? (i := 27) rfl))⟩ (kb_preV hH hK hN [13, 14, 15, 16] rfl (by decide) 13 rfl rfl rfl rfl) rfl rfl hl.1 rfl (lv_room (Nat.le_of_ble_eq_true rfl)) dX7_judge_64 ⟨Nat.le_of_ble_eq_true rfl, Nat.le_of_ble_eq_true rfl⟩) (fun H locs hH => ?_)
              refine lv_if_eq (tgt := 86) hx hb dX7_judge_67 (by decide) (fun c8 => ?_) (fun c8 => ?_)
              · rw [if_pos c8] at hBL6
                refine lv_iload_n hx hb dX7_judge_86 rfl (lv_at hl 1 rfl) ?_
                have hx2 := lpx_r hs (hBd.trans hBL6.symm)
                have hF := kAx_r hF hx2
                subst hF
                exact kb_iret hx hb hr hH rfl rfl dX7_judge_87 hlocks
              · rw [if_neg c8] at hBL6
                refine lv_aload_n hx hb dX7_judge_70 rfl (lv_at hl 2 rfl) ?_
                refine kb_get (v := .ref (g_air 0)) hx hb hts hin7 hown hK hH 0 rfl rfl rfl 2 (by decide) (hts (.fieldLink RX7 26 "CockWar" "air" "LCockWar$Air;") (List.mem_of_getElem? (i := 3) rfl)) (fun _ h9 => h9) rfl dX7_judge_71 ?_
                refine lv_aload_n hx hb dX7_judge_74 rfl (lv_at hl 2 rfl) ?_
                refine kb_get (v := .ref (g_trial 0)) hx hb hts hin7 hown hK hH 0 rfl rfl rfl 7 (by decide) (hts (.fieldLink RX7 58 "CockWar" "trial" "LCockWar$Hill;") (List.mem_of_getElem? (i := 1) rfl)) (fun _ h9 => h9) rfl dX7_judge_75 ?_
                refine lv_iload hx hb dX7_judge_78 (lv_at hl 0 rfl) ?_
                obtain ⟨q9, hq9⟩ : ∃ z, z = (f_X1_blowOver V_air L6a ((f_X7_cutFigures x1 ((x0 - (1 : Int32)) - (nI iL6))) - (f_X7_cutFigures x1 ((x0 - (1 : Int32)) - (nI iL6))) / (10 : Int32) * (10 : Int32))) := ⟨_, rfl⟩
                have hBL6 := kAp_eq hBL6 hq9
                refine kb_ci hH hA [13, 14, 15, 16, 1, 2, 3, 4, 5, 6] (Wc := (w_O1 G g_air V_air ++ w_O2 G g_trial L6a)) (Wc' := (w_O1 G g_air V_air ++ w_O2 G g_trial q9.2)) (WS' := (w_O7 G g a_reader (g_now 0) (g_air 0) a_acts a_sights a_slots a_plan (g_trial 0) V ++ w_O2 G g_trial q9.2 ++ w_O2 G g_now V_now ++ w_O1 G g_air V_air)) rfl (by decide) rfl rfl (va_runVN (C := RX1) (As := [.ref (g_trial 0), .int ((f_X7_cutFigures x1 ((x0 - (1 : Int32)) - (nI iL6))) - (f_X7_cutFigures x1 ((x0 - (1 : Int32)) - (nI iL6))) / (10 : Int32) * (10 : Int32))]) (rest := []) ⟨hx, hb, hml, hown, hts⟩ (c_X1_blowOver l G g_air V_air g_trial L6a ((f_X7_cutFigures x1 ((x0 - (1 : Int32)) - (nI iL6))) - (f_X7_cutFigures x1 ((x0 - (1 : Int32)) - (nI iL6))) / (10 : Int32) * (10 : Int32)) hq9.symm _) ⟨va_cnB 2 hts gX7_judge_X1_blowOver_n157 rfl rfl rfl (kb_NM hN 39 rfl) (hts (.initialized RX1) (List.mem_of_getElem? (i := 26) rfl)) hd_X1_blowOver ⟨Nat.le_of_ble_eq_true rfl, Nat.le_of_ble_eq_true rfl⟩, (hts (.instanceMethod yX1_blowOver) (List.mem_of_getElem? (i := 30) rfl)), (hts (.selects RX1 yX1_blowOver yX1_blowOver) (List.mem_of_getElem? (i := 31) rfl))⟩ (kb_preV hH hK hN [13, 14, 15, 16, 1, 2, 3, 4, 5, 6] rfl (by decide) 13 rfl rfl rfl rfl) rfl rfl hl.1 rfl (lv_room (Nat.le_of_ble_eq_true rfl)) dX7_judge_80 ⟨Nat.le_of_ble_eq_true rfl, Nat.le_of_ble_eq_true rfl⟩) (fun H locs hH => ?_)
                refine lv_if_eq (tgt := 88) hx hb dX7_judge_83 (by decide) (fun c10 => ?_) (fun c10 => ?_)
                · rw [if_pos c10] at hBL6
                  refine lv_iinc (v := (nI (iL6 + 1))) (lv' := [(3, .int (nI (iL6 + 1))), (4, .int ((f_X7_cutFigures x1 ((x0 - (1 : Int32)) - (nI iL6))) - (f_X7_cutFigures x1 ((x0 - (1 : Int32)) - (nI iL6))) / (10 : Int32) * (10 : Int32))), (0, .ref (g 0)), (1, .int x0), (2, .int x1)]) hx hb dX7_judge_88 hl (k := 1) rfl (nI_1 _) (by decide) rfl (fun ls hl => ?_)
                  refine lv_goto (tgt := 39) hx hb dX7_judge_91 (by decide) ?_
                  have hs := lpx_l hs (hBd.trans hBL6.symm)
                  exact ihL6 _ _ _ _ ⟨by omega, hs⟩ ⟨hH, lv_sub hl [0, 2, 3, 4] rfl⟩
                · rw [if_neg c10] at hBL6
                  refine lv_iload_n hx hb dX7_judge_86 rfl (lv_at hl 1 rfl) ?_
                  have hx2 := lpx_r hs (hBd.trans hBL6.symm)
                  have hF := kAx_r hF hx2
                  subst hF
                  exact kb_iret hx hb hr hH rfl rfl dX7_judge_87 hlocks
          · obtain ⟨z11, hzz11, hH, hl⟩ := hX
            have hF := kAx_l hF hzz11
            refine lv_bipush (v := -9) hx hb dX7_judge_94 (by decide) ?_
            subst hF
            exact kb_iret hx hb hr hH rfl rfl dX7_judge_96 hlocks
        · rw [if_neg c4] at hF
          refine lv_bipush (v := -2) hx hb dX7_judge_23 (by decide) ?_
          subst hF
          exact kb_iret hx hb hr hH rfl rfl dX7_judge_25 hlocks
def f_X7_see (V : OV) (V_now : OV) (V_sights : OV) (x0 : Int32) (x1 : Int32) : (Int32 × OV) := (if (f_X2_hasCock V_now x0) = 0 then ((-1 : Int32), V_sights) else (if x1 < 0 then ((-2 : Int32), V_sights) else (if x1 ≤ (1 : Int32) then (kAp (f_X5_add V_sights x0 x1) (fun q4 => (q4.1, q4.2))) else ((-2 : Int32), V_sights))))
set_option maxHeartbeats 4000000 in
set_option maxRecDepth 100000 in
theorem c_X7_see (l : Launch) (G : Ge) (g : Nat → Nat) (a_reader : Nat) (a_air : Nat) (a_acts : Nat) (a_slots : Nat) (a_plan : Nat) (a_trial : Nat) (V : OV) (g_now : Nat → Nat) (V_now : OV) (g_sights : Nat → Nat) (V_sights : OV) (x0 : Int32) (x1 : Int32) {F : (Int32 × OV)} (hF : f_X7_see V V_now V_sights x0 x1 = F) : CI l yX7_see wsX7_see { frames := 2, cells := 0, slots := 0, locals := 44 } [.ref (g 0), .int x0, .int x1] G (w_O7 G g a_reader (g_now 0) a_air a_acts (g_sights 0) a_slots a_plan a_trial V ++ w_O2 G g_now V_now ++ w_O5 G g_sights V_sights) (w_O7 G g a_reader (g_now 0) a_air a_acts (g_sights 0) a_slots a_plan a_trial V ++ w_O2 G g_now V_now ++ w_O5 G g_sights F.2) F.1 := by
  intro sz
  refine Met.ofW (cc := cX7_see) (maxL := 3) (ret := (some .int)) (by decide) rfl ?_
  intro p e s m args below meth c s₁ B hml hv
  obtain ⟨rfl, hpre⟩ := hv
  obtain ⟨hsz, hH, hK, hN, hA⟩ := kb_start hpre
  subst hsz
  have hx := B.exec
  have hb := B.bytes
  have hr := B.returns
  have hts := atoms_spec (ws := wsX7_see) B.pre
  have hown : s.vm.findClass RX7 = some m.cls := findClass_of_methodNamed B.named
  have hlocks := B.notSynchronized
  generalize hAe : va_A (List.flatten (w_O7 G g a_reader (g_now 0) a_air a_acts (g_sights 0) a_slots a_plan a_trial V ++ w_O2 G g_now V_now ++ w_O5 G g_sights V_sights)) s.heap.size = A at hH hA ⊢
  have hl := lv_entry ([.ref (g 0), .int x0, .int x1]) (n := 3) (Nat.le_of_ble_eq_true rfl)
  rw [lg_entry_eq]
  generalize (lg_sl ([.ref (g 0), .int x0, .int x1]) ++ List.replicate (3 - (lg_sl ([.ref (g 0), .int x0, .int x1])).length) Slot.unset).toArray = ls at hl ⊢
  have hl : lv_has ls 3 [(0, .ref (g 0)), (1, .int x0), (2, .int x1)] := hl
  have hH : HP G A s.heap (w_O7 G g a_reader (g_now 0) a_air a_acts (g_sights 0) a_slots a_plan a_trial V ++ w_O2 G g_now V_now ++ w_O5 G g_sights V_sights) s.heap [] := hH
  have hin7 : ∀ w ∈ u_ws RX7 TX7 9, w ∈ wsX7_see := fun w h => List.mem_cons_of_mem _ (List.mem_append_left _ (List.mem_append_left _ (List.mem_append_right _ h)))
  have hF : (if (f_X2_hasCock V_now x0) = 0 then ((-1 : Int32), V_sights) else (if x1 < 0 then ((-2 : Int32), V_sights) else (if x1 ≤ (1 : Int32) then (kAp (f_X5_add V_sights x0 x1) (fun q4 => (q4.1, q4.2))) else ((-2 : Int32), V_sights)))) = F := hF
  refine lv_aload_n hx hb dX7_see_0 rfl (lv_at hl 0 rfl) ?_
  refine kb_get (v := .ref (g_now 0)) hx hb hts hin7 hown hK hH 0 rfl rfl rfl 1 (by decide) (hts (.fieldLink RX7 19 "CockWar" "now" "LCockWar$Hill;") (List.mem_of_getElem? (i := 1) rfl)) (fun _ h9 => h9) rfl dX7_see_1 ?_
  refine lv_iload_n hx hb dX7_see_4 rfl (lv_at hl 1 rfl) ?_
  refine kb_ci hH hA [1, 2, 3, 4, 5, 6] (Wc := (w_O2 G g_now V_now)) (Wc' := (w_O2 G g_now V_now)) (WS' := (w_O7 G g a_reader (g_now 0) a_air a_acts (g_sights 0) a_slots a_plan a_trial V ++ w_O2 G g_now V_now ++ w_O5 G g_sights V_sights)) rfl (by decide) rfl rfl (va_runVN (C := RX2) (As := [.int x0]) (rest := []) ⟨hx, hb, hml, hown, hts⟩ (c_X2_hasCock l G g_now V_now x0 rfl _) ⟨va_cnB 1 hts gX7_see_X2_hasCock_n110 rfl rfl rfl (kb_NM hN 31 rfl) (hts (.initialized RX2) (List.mem_of_getElem? (i := 4) rfl)) hd_X2_hasCock ⟨Nat.le_of_ble_eq_true rfl, Nat.le_of_ble_eq_true rfl⟩, (hts (.instanceMethod yX2_hasCock) (List.mem_of_getElem? (i := 3) rfl)), (hts (.selects RX2 yX2_hasCock yX2_hasCock) (List.mem_of_getElem? (i := 5) rfl))⟩ (kb_preV hH hK hN [1, 2, 3, 4, 5, 6] rfl (by decide) 1 rfl rfl rfl rfl) rfl rfl hl.1 rfl (lv_room (Nat.le_of_ble_eq_true rfl)) dX7_see_5 ⟨Nat.le_of_ble_eq_true rfl, Nat.le_of_ble_eq_true rfl⟩) (fun H locs hH => ?_)
  refine lv_if_ne (tgt := 13) hx hb dX7_see_8 (by decide) (fun c1 => ?_) (fun c1 => ?_)
  · rw [if_neg c1] at hF
    refine lv_iload_n hx hb dX7_see_13 rfl (lv_at hl 2 rfl) ?_
    refine lv_if_lt (tgt := 22) hx hb dX7_see_14 (by decide) (fun c2 => ?_) (fun c2 => ?_)
    · rw [if_pos c2] at hF
      refine lv_bipush (v := -2) hx hb dX7_see_22 (by decide) ?_
      subst hF
      exact kb_iret hx hb hr hH rfl rfl dX7_see_24 hlocks
    · rw [if_neg c2] at hF
      refine lv_iload_n hx hb dX7_see_17 rfl (lv_at hl 2 rfl) ?_
      refine lv_iconst (v := 1) hx hb dX7_see_18 (by decide) ?_
      refine lv_icmp_le (tgt := 25) hx hb dX7_see_19 (by decide) (fun c3 => ?_) (fun c3 => ?_)
      · rw [if_pos c3] at hF
        refine lv_aload_n hx hb dX7_see_25 rfl (lv_at hl 0 rfl) ?_
        refine kb_get (v := .ref (g_sights 0)) hx hb hts hin7 hown hK hH 0 rfl rfl rfl 4 (by decide) (hts (.fieldLink RX7 40 "CockWar" "sights" "LCockWar$Sights;") (List.mem_of_getElem? (i := 2) rfl)) (fun _ h9 => h9) rfl dX7_see_26 ?_
        refine lv_iload_n hx hb dX7_see_29 rfl (lv_at hl 1 rfl) ?_
        refine lv_iload_n hx hb dX7_see_30 rfl (lv_at hl 2 rfl) ?_
        obtain ⟨q4, hq4⟩ : ∃ z, z = (f_X5_add V_sights x0 x1) := ⟨_, rfl⟩
        have hF := kAp_eq hF hq4
        refine kb_ci hH hA [7, 8, 9] (Wc := (w_O5 G g_sights V_sights)) (Wc' := (w_O5 G g_sights q4.2)) (WS' := (w_O7 G g a_reader (g_now 0) a_air a_acts (g_sights 0) a_slots a_plan a_trial V ++ w_O2 G g_now V_now ++ w_O5 G g_sights q4.2)) rfl (by decide) rfl rfl (va_runVN (C := RX5) (As := [.int x0, .int x1]) (rest := []) ⟨hx, hb, hml, hown, hts⟩ (c_X5_add l G g_sights V_sights x0 x1 hq4.symm _) ⟨va_cnB 2 hts gX7_see_X5_add_n214 rfl rfl rfl (kb_NM hN 55 rfl) (hts (.initialized RX5) (List.mem_of_getElem? (i := 9) rfl)) hd_X5_add ⟨Nat.le_of_ble_eq_true rfl, Nat.le_of_ble_eq_true rfl⟩, (hts (.instanceMethod yX5_add) (List.mem_of_getElem? (i := 8) rfl)), (hts (.selects RX5 yX5_add yX5_add) (List.mem_of_getElem? (i := 10) rfl))⟩ (kb_preV hH hK hN [7, 8, 9] rfl (by decide) 7 rfl rfl rfl rfl) rfl rfl hl.1 rfl (lv_room (Nat.le_of_ble_eq_true rfl)) dX7_see_31 ⟨Nat.le_of_ble_eq_true rfl, Nat.le_of_ble_eq_true rfl⟩) (fun H locs hH => ?_)
        subst hF
        exact kb_iret hx hb hr hH rfl rfl dX7_see_34 hlocks
      · rw [if_neg c3] at hF
        refine lv_bipush (v := -2) hx hb dX7_see_22 (by decide) ?_
        subst hF
        exact kb_iret hx hb hr hH rfl rfl dX7_see_24 hlocks
  · rw [if_pos c1] at hF
    refine lv_iconst (v := -1) hx hb dX7_see_11 (by decide) ?_
    subst hF
    exact kb_iret hx hb hr hH rfl rfl dX7_see_12 hlocks
def f_X7_unsee (V : OV) (V_sights : OV) : (Int32 × OV) := ((V_sights.2.1 2), (oI V_sights 2 (0 : Int32)))
set_option maxHeartbeats 4000000 in
set_option maxRecDepth 100000 in
theorem c_X7_unsee (l : Launch) (G : Ge) (g : Nat → Nat) (a_reader : Nat) (a_now : Nat) (a_air : Nat) (a_acts : Nat) (a_slots : Nat) (a_plan : Nat) (a_trial : Nat) (V : OV) (g_sights : Nat → Nat) (V_sights : OV) {F : (Int32 × OV)} (hF : f_X7_unsee V V_sights = F) : CI l yX7_unsee wsX7_unsee { frames := 0, cells := 0, slots := 0, locals := 0 } [.ref (g 0)] G (w_O7 G g a_reader a_now a_air a_acts (g_sights 0) a_slots a_plan a_trial V ++ w_O5 G g_sights V_sights) (w_O7 G g a_reader a_now a_air a_acts (g_sights 0) a_slots a_plan a_trial V ++ w_O5 G g_sights F.2) F.1 := by
  intro sz
  refine Met.ofW (cc := cX7_unsee) (maxL := 2) (ret := (some .int)) (by decide) rfl ?_
  intro p e s m args below meth c s₁ B hml hv
  obtain ⟨rfl, hpre⟩ := hv
  obtain ⟨hsz, hH, hK, hN, hA⟩ := kb_start hpre
  subst hsz
  have hx := B.exec
  have hb := B.bytes
  have hr := B.returns
  have hts := atoms_spec (ws := wsX7_unsee) B.pre
  have hown : s.vm.findClass RX7 = some m.cls := findClass_of_methodNamed B.named
  have hlocks := B.notSynchronized
  generalize hAe : va_A (List.flatten (w_O7 G g a_reader a_now a_air a_acts (g_sights 0) a_slots a_plan a_trial V ++ w_O5 G g_sights V_sights)) s.heap.size = A at hH hA ⊢
  have hl := lv_entry ([.ref (g 0)]) (n := 2) (Nat.le_of_ble_eq_true rfl)
  rw [lg_entry_eq]
  generalize (lg_sl ([.ref (g 0)]) ++ List.replicate (2 - (lg_sl ([.ref (g 0)])).length) Slot.unset).toArray = ls at hl ⊢
  have hl : lv_has ls 2 [(0, .ref (g 0))] := hl
  have hH : HP G A s.heap (w_O7 G g a_reader a_now a_air a_acts (g_sights 0) a_slots a_plan a_trial V ++ w_O5 G g_sights V_sights) s.heap [] := hH
  have hin5 : ∀ w ∈ u_ws RX5 TX5 3, w ∈ wsX7_unsee := fun w h => List.mem_cons_of_mem _ (List.mem_append_right _ h)
  have hin7 : ∀ w ∈ u_ws RX7 TX7 9, w ∈ wsX7_unsee := fun w h => List.mem_cons_of_mem _ (List.mem_append_left _ (List.mem_append_right _ h))
  have hF : ((V_sights.2.1 2), (oI V_sights 2 (0 : Int32))) = F := hF
  refine lv_aload_n hx hb dX7_unsee_0 rfl (lv_at hl 0 rfl) ?_
  refine kb_get (v := .ref (g_sights 0)) hx hb hts hin7 hown hK hH 0 rfl rfl rfl 4 (by decide) (hts (.fieldLink RX7 40 "CockWar" "sights" "LCockWar$Sights;") (List.mem_of_getElem? (i := 1) rfl)) (fun _ h9 => h9) rfl dX7_unsee_1 ?_
  refine kb_getN (v := .int (V_sights.2.1 2)) hx hb hts hin5 hown hK hH 1 rfl rfl rfl 2 (by decide) (kb_NF hN 31 rfl) (fun _ h9 => h9) rfl dX7_unsee_4 ?_
  refine lv_istore_n (lv' := [(1, .int (V_sights.2.1 2)), (0, .ref (g 0))]) hx hb dX7_unsee_7 rfl hl (by decide) rfl (fun ls hl => ?_)
  refine lv_aload_n hx hb dX7_unsee_8 rfl (lv_at hl 1 rfl) ?_
  refine kb_get (v := .ref (g_sights 0)) hx hb hts hin7 hown hK hH 0 rfl rfl rfl 4 (by decide) (hts (.fieldLink RX7 40 "CockWar" "sights" "LCockWar$Sights;") (List.mem_of_getElem? (i := 1) rfl)) (fun _ h9 => h9) rfl dX7_unsee_9 ?_
  refine lv_iconst (v := 0) hx hb dX7_unsee_12 (by decide) ?_
  refine kb_putN (ty := .int) (v := .int (0 : Int32)) (WS' := (w_O7 G g a_reader a_now a_air a_acts (g_sights 0) a_slots a_plan a_trial V ++ w_O5 G g_sights (oI V_sights 2 (0 : Int32)))) hx hb hts hin5 tyX5 tyX5_ok nmX5 hown hK hH 1 rfl rfl 2 (by decide) (kb_NF hN 31 rfl) (fun _ h9 => h9) rfl (by decide +kernel) rfl rfl (Nat.le_of_ble_eq_true rfl) rfl dX7_unsee_13 (fun H locs hH => ?_)
  refine lv_iload_n hx hb dX7_unsee_16 rfl (lv_at hl 0 rfl) ?_
  subst hF
  exact kb_iret hx hb hr hH rfl rfl dX7_unsee_17 hlocks
