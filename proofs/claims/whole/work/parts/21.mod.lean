theorem hd_X8_isCock : yX8_isCock.cls ≠ "java/lang/invoke/MethodHandle" ∧ yX8_isCock.cls ≠ "java/lang/invoke/VarHandle" ∧ (parseMethodDescriptor yX8_isCock.desc).map (fun d => d.parameters.length) = some 1 := by decide +kernel
theorem he_X8_isCock : yX8_isCock.cls = RX8 ∧ yX8_isCock.cls ≠ "java/lang/invoke/MethodHandle" ∧ yX8_isCock.cls ≠ "java/lang/invoke/VarHandle" ∧ (parseMethodDescriptor yX8_isCock.desc).map (fun d => d.parameters.length) = some 1 := ⟨rfl, hd_X8_isCock⟩
theorem hd_X8_isWind : yX8_isWind.cls ≠ "java/lang/invoke/MethodHandle" ∧ yX8_isWind.cls ≠ "java/lang/invoke/VarHandle" ∧ (parseMethodDescriptor yX8_isWind.desc).map (fun d => d.parameters.length) = some 1 := by decide +kernel
theorem he_X8_isWind : yX8_isWind.cls = RX8 ∧ yX8_isWind.cls ≠ "java/lang/invoke/MethodHandle" ∧ yX8_isWind.cls ≠ "java/lang/invoke/VarHandle" ∧ (parseMethodDescriptor yX8_isWind.desc).map (fun d => d.parameters.length) = some 1 := ⟨rfl, hd_X8_isWind⟩
theorem hd_X8_tree : yX8_tree.cls ≠ "java/lang/invoke/MethodHandle" ∧ yX8_tree.cls ≠ "java/lang/invoke/VarHandle" ∧ (parseMethodDescriptor yX8_tree.desc).map (fun d => d.parameters.length) = some 1 := by decide +kernel
theorem he_X8_tree : yX8_tree.cls = RX8 ∧ yX8_tree.cls ≠ "java/lang/invoke/MethodHandle" ∧ yX8_tree.cls ≠ "java/lang/invoke/VarHandle" ∧ (parseMethodDescriptor yX8_tree.desc).map (fun d => d.parameters.length) = some 1 := ⟨rfl, hd_X8_tree⟩
theorem hd_X8_cock : yX8_cock.cls ≠ "java/lang/invoke/MethodHandle" ∧ yX8_cock.cls ≠ "java/lang/invoke/VarHandle" ∧ (parseMethodDescriptor yX8_cock.desc).map (fun d => d.parameters.length) = some 2 := by decide +kernel
theorem he_X8_cock : yX8_cock.cls = RX8 ∧ yX8_cock.cls ≠ "java/lang/invoke/MethodHandle" ∧ yX8_cock.cls ≠ "java/lang/invoke/VarHandle" ∧ (parseMethodDescriptor yX8_cock.desc).map (fun d => d.parameters.length) = some 2 := ⟨rfl, hd_X8_cock⟩
theorem hd_X8_isSheltered : yX8_isSheltered.cls ≠ "java/lang/invoke/MethodHandle" ∧ yX8_isSheltered.cls ≠ "java/lang/invoke/VarHandle" ∧ (parseMethodDescriptor yX8_isSheltered.desc).map (fun d => d.parameters.length) = some 3 := by decide +kernel
theorem he_X8_isSheltered : yX8_isSheltered.cls = RX8 ∧ yX8_isSheltered.cls ≠ "java/lang/invoke/MethodHandle" ∧ yX8_isSheltered.cls ≠ "java/lang/invoke/VarHandle" ∧ (parseMethodDescriptor yX8_isSheltered.desc).map (fun d => d.parameters.length) = some 3 := ⟨rfl, hd_X8_isSheltered⟩
theorem hd_X8_pointsBy : yX8_pointsBy.cls ≠ "java/lang/invoke/MethodHandle" ∧ yX8_pointsBy.cls ≠ "java/lang/invoke/VarHandle" ∧ (parseMethodDescriptor yX8_pointsBy.desc).map (fun d => d.parameters.length) = some 3 := by decide +kernel
theorem he_X8_pointsBy : yX8_pointsBy.cls = RX8 ∧ yX8_pointsBy.cls ≠ "java/lang/invoke/MethodHandle" ∧ yX8_pointsBy.cls ≠ "java/lang/invoke/VarHandle" ∧ (parseMethodDescriptor yX8_pointsBy.desc).map (fun d => d.parameters.length) = some 3 := ⟨rfl, hd_X8_pointsBy⟩
theorem hd_X8_weightOf : yX8_weightOf.cls ≠ "java/lang/invoke/MethodHandle" ∧ yX8_weightOf.cls ≠ "java/lang/invoke/VarHandle" ∧ (parseMethodDescriptor yX8_weightOf.desc).map (fun d => d.parameters.length) = some 3 := by decide +kernel
theorem he_X8_weightOf : yX8_weightOf.cls = RX8 ∧ yX8_weightOf.cls ≠ "java/lang/invoke/MethodHandle" ∧ yX8_weightOf.cls ≠ "java/lang/invoke/VarHandle" ∧ (parseMethodDescriptor yX8_weightOf.desc).map (fun d => d.parameters.length) = some 3 := ⟨rfl, hd_X8_weightOf⟩
theorem hd_X8_brookBy : yX8_brookBy.cls ≠ "java/lang/invoke/MethodHandle" ∧ yX8_brookBy.cls ≠ "java/lang/invoke/VarHandle" ∧ (parseMethodDescriptor yX8_brookBy.desc).map (fun d => d.parameters.length) = some 2 := by decide +kernel
theorem he_X8_brookBy : yX8_brookBy.cls = RX8 ∧ yX8_brookBy.cls ≠ "java/lang/invoke/MethodHandle" ∧ yX8_brookBy.cls ≠ "java/lang/invoke/VarHandle" ∧ (parseMethodDescriptor yX8_brookBy.desc).map (fun d => d.parameters.length) = some 2 := ⟨rfl, hd_X8_brookBy⟩
theorem hd_X8_blowOn : yX8_blowOn.cls ≠ "java/lang/invoke/MethodHandle" ∧ yX8_blowOn.cls ≠ "java/lang/invoke/VarHandle" ∧ (parseMethodDescriptor yX8_blowOn.desc).map (fun d => d.parameters.length) = some 2 := by decide +kernel
theorem he_X8_blowOn : yX8_blowOn.cls = RX8 ∧ yX8_blowOn.cls ≠ "java/lang/invoke/MethodHandle" ∧ yX8_blowOn.cls ≠ "java/lang/invoke/VarHandle" ∧ (parseMethodDescriptor yX8_blowOn.desc).map (fun d => d.parameters.length) = some 2 := ⟨rfl, hd_X8_blowOn⟩
theorem hd_X8_wind : yX8_wind.cls ≠ "java/lang/invoke/MethodHandle" ∧ yX8_wind.cls ≠ "java/lang/invoke/VarHandle" ∧ (parseMethodDescriptor yX8_wind.desc).map (fun d => d.parameters.length) = some 2 := by decide +kernel
theorem he_X8_wind : yX8_wind.cls = RX8 ∧ yX8_wind.cls ≠ "java/lang/invoke/MethodHandle" ∧ yX8_wind.cls ≠ "java/lang/invoke/VarHandle" ∧ (parseMethodDescriptor yX8_wind.desc).map (fun d => d.parameters.length) = some 2 := ⟨rfl, hd_X8_wind⟩
theorem hd_X8_keepAct : yX8_keepAct.cls ≠ "java/lang/invoke/MethodHandle" ∧ yX8_keepAct.cls ≠ "java/lang/invoke/VarHandle" ∧ (parseMethodDescriptor yX8_keepAct.desc).map (fun d => d.parameters.length) = some 0 := by decide +kernel
theorem he_X8_keepAct : yX8_keepAct.cls = RX8 ∧ yX8_keepAct.cls ≠ "java/lang/invoke/MethodHandle" ∧ yX8_keepAct.cls ≠ "java/lang/invoke/VarHandle" ∧ (parseMethodDescriptor yX8_keepAct.desc).map (fun d => d.parameters.length) = some 0 := ⟨rfl, hd_X8_keepAct⟩
theorem hd_X8_blow : yX8_blow.cls ≠ "java/lang/invoke/MethodHandle" ∧ yX8_blow.cls ≠ "java/lang/invoke/VarHandle" ∧ (parseMethodDescriptor yX8_blow.desc).map (fun d => d.parameters.length) = some 1 := by decide +kernel
theorem he_X8_blow : yX8_blow.cls = RX8 ∧ yX8_blow.cls ≠ "java/lang/invoke/MethodHandle" ∧ yX8_blow.cls ≠ "java/lang/invoke/VarHandle" ∧ (parseMethodDescriptor yX8_blow.desc).map (fun d => d.parameters.length) = some 1 := ⟨rfl, hd_X8_blow⟩
theorem hd_X8_fell : yX8_fell.cls ≠ "java/lang/invoke/MethodHandle" ∧ yX8_fell.cls ≠ "java/lang/invoke/VarHandle" ∧ (parseMethodDescriptor yX8_fell.desc).map (fun d => d.parameters.length) = some 1 := by decide +kernel
theorem he_X8_fell : yX8_fell.cls = RX8 ∧ yX8_fell.cls ≠ "java/lang/invoke/MethodHandle" ∧ yX8_fell.cls ≠ "java/lang/invoke/VarHandle" ∧ (parseMethodDescriptor yX8_fell.desc).map (fun d => d.parameters.length) = some 1 := ⟨rfl, hd_X8_fell⟩
theorem hd_X8_isCockOn : yX8_isCockOn.cls ≠ "java/lang/invoke/MethodHandle" ∧ yX8_isCockOn.cls ≠ "java/lang/invoke/VarHandle" ∧ (parseMethodDescriptor yX8_isCockOn.desc).map (fun d => d.parameters.length) = some 1 := by decide +kernel
theorem he_X8_isCockOn : yX8_isCockOn.cls = RX8 ∧ yX8_isCockOn.cls ≠ "java/lang/invoke/MethodHandle" ∧ yX8_isCockOn.cls ≠ "java/lang/invoke/VarHandle" ∧ (parseMethodDescriptor yX8_isCockOn.desc).map (fun d => d.parameters.length) = some 1 := ⟨rfl, hd_X8_isCockOn⟩
theorem hd_X8_move : yX8_move.cls ≠ "java/lang/invoke/MethodHandle" ∧ yX8_move.cls ≠ "java/lang/invoke/VarHandle" ∧ (parseMethodDescriptor yX8_move.desc).map (fun d => d.parameters.length) = some 2 := by decide +kernel
theorem he_X8_move : yX8_move.cls = RX8 ∧ yX8_move.cls ≠ "java/lang/invoke/MethodHandle" ∧ yX8_move.cls ≠ "java/lang/invoke/VarHandle" ∧ (parseMethodDescriptor yX8_move.desc).map (fun d => d.parameters.length) = some 2 := ⟨rfl, hd_X8_move⟩
theorem hd_X8_grease : yX8_grease.cls ≠ "java/lang/invoke/MethodHandle" ∧ yX8_grease.cls ≠ "java/lang/invoke/VarHandle" ∧ (parseMethodDescriptor yX8_grease.desc).map (fun d => d.parameters.length) = some 1 := by decide +kernel
theorem he_X8_grease : yX8_grease.cls = RX8 ∧ yX8_grease.cls ≠ "java/lang/invoke/MethodHandle" ∧ yX8_grease.cls ≠ "java/lang/invoke/VarHandle" ∧ (parseMethodDescriptor yX8_grease.desc).map (fun d => d.parameters.length) = some 1 := ⟨rfl, hd_X8_grease⟩
theorem hd_X8_capture : yX8_capture.cls ≠ "java/lang/invoke/MethodHandle" ∧ yX8_capture.cls ≠ "java/lang/invoke/VarHandle" ∧ (parseMethodDescriptor yX8_capture.desc).map (fun d => d.parameters.length) = some 1 := by decide +kernel
theorem he_X8_capture : yX8_capture.cls = RX8 ∧ yX8_capture.cls ≠ "java/lang/invoke/MethodHandle" ∧ yX8_capture.cls ≠ "java/lang/invoke/VarHandle" ∧ (parseMethodDescriptor yX8_capture.desc).map (fun d => d.parameters.length) = some 1 := ⟨rfl, hd_X8_capture⟩
theorem hd_X8_hold : yX8_hold.cls ≠ "java/lang/invoke/MethodHandle" ∧ yX8_hold.cls ≠ "java/lang/invoke/VarHandle" ∧ (parseMethodDescriptor yX8_hold.desc).map (fun d => d.parameters.length) = some 1 := by decide +kernel
theorem he_X8_hold : yX8_hold.cls = RX8 ∧ yX8_hold.cls ≠ "java/lang/invoke/MethodHandle" ∧ yX8_hold.cls ≠ "java/lang/invoke/VarHandle" ∧ (parseMethodDescriptor yX8_hold.desc).map (fun d => d.parameters.length) = some 1 := ⟨rfl, hd_X8_hold⟩
theorem hd_X8_undo : yX8_undo.cls ≠ "java/lang/invoke/MethodHandle" ∧ yX8_undo.cls ≠ "java/lang/invoke/VarHandle" ∧ (parseMethodDescriptor yX8_undo.desc).map (fun d => d.parameters.length) = some 0 := by decide +kernel
theorem he_X8_undo : yX8_undo.cls = RX8 ∧ yX8_undo.cls ≠ "java/lang/invoke/MethodHandle" ∧ yX8_undo.cls ≠ "java/lang/invoke/VarHandle" ∧ (parseMethodDescriptor yX8_undo.desc).map (fun d => d.parameters.length) = some 0 := ⟨rfl, hd_X8_undo⟩
theorem hd_X8_underOf : yX8_underOf.cls ≠ "java/lang/invoke/MethodHandle" ∧ yX8_underOf.cls ≠ "java/lang/invoke/VarHandle" ∧ (parseMethodDescriptor yX8_underOf.desc).map (fun d => d.parameters.length) = some 3 := by decide +kernel
theorem he_X8_underOf : yX8_underOf.cls = RX8 ∧ yX8_underOf.cls ≠ "java/lang/invoke/MethodHandle" ∧ yX8_underOf.cls ≠ "java/lang/invoke/VarHandle" ∧ (parseMethodDescriptor yX8_underOf.desc).map (fun d => d.parameters.length) = some 3 := ⟨rfl, hd_X8_underOf⟩
theorem hd_X8_under : yX8_under.cls ≠ "java/lang/invoke/MethodHandle" ∧ yX8_under.cls ≠ "java/lang/invoke/VarHandle" ∧ (parseMethodDescriptor yX8_under.desc).map (fun d => d.parameters.length) = some 1 := by decide +kernel
theorem he_X8_under : yX8_under.cls = RX8 ∧ yX8_under.cls ≠ "java/lang/invoke/MethodHandle" ∧ yX8_under.cls ≠ "java/lang/invoke/VarHandle" ∧ (parseMethodDescriptor yX8_under.desc).map (fun d => d.parameters.length) = some 1 := ⟨rfl, hd_X8_under⟩
theorem hd_X8_yearOf : yX8_yearOf.cls ≠ "java/lang/invoke/MethodHandle" ∧ yX8_yearOf.cls ≠ "java/lang/invoke/VarHandle" ∧ (parseMethodDescriptor yX8_yearOf.desc).map (fun d => d.parameters.length) = some 1 := by decide +kernel
theorem he_X8_yearOf : yX8_yearOf.cls = RX8 ∧ yX8_yearOf.cls ≠ "java/lang/invoke/MethodHandle" ∧ yX8_yearOf.cls ≠ "java/lang/invoke/VarHandle" ∧ (parseMethodDescriptor yX8_yearOf.desc).map (fun d => d.parameters.length) = some 1 := ⟨rfl, hd_X8_yearOf⟩
theorem hd_X8_year : yX8_year.cls ≠ "java/lang/invoke/MethodHandle" ∧ yX8_year.cls ≠ "java/lang/invoke/VarHandle" ∧ (parseMethodDescriptor yX8_year.desc).map (fun d => d.parameters.length) = some 1 := by decide +kernel
theorem he_X8_year : yX8_year.cls = RX8 ∧ yX8_year.cls ≠ "java/lang/invoke/MethodHandle" ∧ yX8_year.cls ≠ "java/lang/invoke/VarHandle" ∧ (parseMethodDescriptor yX8_year.desc).map (fun d => d.parameters.length) = some 1 := ⟨rfl, hd_X8_year⟩
def f_X8_isCock (V : OV) (x0 : Int32) : (Int32) := (f_X8_in (x0.toInt64) (0 : Int64) (((V.2.1 0) - (1 : Int32)).toInt64))
set_option maxHeartbeats 4000000 in
set_option maxRecDepth 100000 in
theorem c_X8_isCock (l : Launch) (G : Ge) (g : Nat → Nat) (V : OV) (x0 : Int32) {F : (Int32)} (hF : f_X8_isCock V x0 = F) : CI l yX8_isCock wsX8_isCock { frames := 1, cells := 0, slots := 0, locals := 25 } [.ref (g 0), .int x0] G (w_O8 G g V) (w_O8 G g V) F := by
  intro sz
  refine Met.ofW (cc := cX8_isCock) (maxL := 2) (ret := (some .boolean)) (by decide) rfl ?_
  intro p e s m args below meth c s₁ B hml hv
  obtain ⟨rfl, hpre⟩ := hv
  obtain ⟨hsz, hH, hK, hN, hA⟩ := kb_start hpre
  subst hsz
  have hx := B.exec
  have hb := B.bytes
  have hr := B.returns
  have hts := atoms_spec (ws := wsX8_isCock) B.pre
  have hown : s.vm.findClass RX8 = some m.cls := findClass_of_methodNamed B.named
  have hlocks := B.notSynchronized
  generalize hAe : va_A (List.flatten (w_O8 G g V)) s.heap.size = A at hH hA ⊢
  have hl := lv_entry ([.ref (g 0), .int x0]) (n := 2) (Nat.le_of_ble_eq_true rfl)
  rw [lg_entry_eq]
  generalize (lg_sl ([.ref (g 0), .int x0]) ++ List.replicate (2 - (lg_sl ([.ref (g 0), .int x0])).length) Slot.unset).toArray = ls at hl ⊢
  have hl : lv_has ls 2 [(0, .ref (g 0)), (1, .int x0)] := hl
  have hH : HP G A s.heap (w_O8 G g V) s.heap [] := hH
  have hin8 : ∀ w ∈ u_ws RX8 TX8 31, w ∈ wsX8_isCock := fun w h => List.mem_cons_of_mem _ (List.mem_append_right _ h)
  have hF : (f_X8_in (x0.toInt64) (0 : Int64) (((V.2.1 0) - (1 : Int32)).toInt64)) = F := hF
  refine lv_iload_n hx hb dX8_isCock_0 rfl (lv_at hl 1 rfl) ?_
  refine lv_i2l (v := (x0.toInt64)) hx hb dX8_isCock_1 rfl ?_
  refine lv_lconst (v := 0) hx hb dX8_isCock_2 (by decide) ?_
  refine lv_aload_n hx hb dX8_isCock_3 rfl (lv_at hl 0 rfl) ?_
  refine kb_get (v := .int (V.2.1 0)) hx hb hts hin8 hown hK hH 0 rfl rfl rfl 0 (by decide) (hts (.fieldLink RX8 53 "CockWarModel" "cocks" "I") (List.mem_of_getElem? (i := 1) rfl)) (fun _ h9 => h9) rfl dX8_isCock_4 ?_
  refine lv_iconst (v := 1) hx hb dX8_isCock_7 (by decide) ?_
  refine lv_isub hx hb dX8_isCock_8 ?_
  refine lv_i2l (v := (((V.2.1 0) - (1 : Int32)).toInt64)) hx hb dX8_isCock_9 rfl ?_
  refine kb_ci hH hA [] (Wc := ([] : List va_W)) (Wc' := ([] : List va_W)) (WS' := (w_O8 G g V)) rfl (by decide) rfl rfl (va_runS (As := [.long (x0.toInt64), .long (0 : Int64), .long (((V.2.1 0) - (1 : Int32)).toInt64)]) (rest := []) ⟨hx, hb, hml, hown, hts⟩ (c_X8_in l G (x0.toInt64) (0 : Int64) (((V.2.1 0) - (1 : Int32)).toInt64) rfl _) (va_cwS 3 hts gX8_isCock_X8_in rfl rfl rfl hd_X8_in ⟨Nat.le_of_ble_eq_true rfl, Nat.le_of_ble_eq_true rfl⟩) (kb_preS hH hK hN [] rfl (by decide)) rfl rfl hl.1 rfl (lv_room (Nat.le_of_ble_eq_true rfl)) dX8_isCock_10 ⟨Nat.le_of_ble_eq_true rfl, Nat.le_of_ble_eq_true rfl⟩) (fun H locs hH => ?_)
  subst hF
  exact kb_zret hx hb hr hH rfl rfl (kb_nar _ (isb_X8_in _ _ _)) dX8_isCock_13 hlocks
def f_X8_isWind (V : OV) (x0 : Int32) : (Int32) := (f_X8_in (x0.toInt64) (0 : Int64) (((V.2.1 1) - (1 : Int32)).toInt64))
set_option maxHeartbeats 4000000 in
set_option maxRecDepth 100000 in
theorem c_X8_isWind (l : Launch) (G : Ge) (g : Nat → Nat) (V : OV) (x0 : Int32) {F : (Int32)} (hF : f_X8_isWind V x0 = F) : CI l yX8_isWind wsX8_isWind { frames := 1, cells := 0, slots := 0, locals := 25 } [.ref (g 0), .int x0] G (w_O8 G g V) (w_O8 G g V) F := by
  intro sz
  refine Met.ofW (cc := cX8_isWind) (maxL := 2) (ret := (some .boolean)) (by decide) rfl ?_
  intro p e s m args below meth c s₁ B hml hv
  obtain ⟨rfl, hpre⟩ := hv
  obtain ⟨hsz, hH, hK, hN, hA⟩ := kb_start hpre
  subst hsz
  have hx := B.exec
  have hb := B.bytes
  have hr := B.returns
  have hts := atoms_spec (ws := wsX8_isWind) B.pre
  have hown : s.vm.findClass RX8 = some m.cls := findClass_of_methodNamed B.named
  have hlocks := B.notSynchronized
  generalize hAe : va_A (List.flatten (w_O8 G g V)) s.heap.size = A at hH hA ⊢
  have hl := lv_entry ([.ref (g 0), .int x0]) (n := 2) (Nat.le_of_ble_eq_true rfl)
  rw [lg_entry_eq]
  generalize (lg_sl ([.ref (g 0), .int x0]) ++ List.replicate (2 - (lg_sl ([.ref (g 0), .int x0])).length) Slot.unset).toArray = ls at hl ⊢
  have hl : lv_has ls 2 [(0, .ref (g 0)), (1, .int x0)] := hl
  have hH : HP G A s.heap (w_O8 G g V) s.heap [] := hH
  have hin8 : ∀ w ∈ u_ws RX8 TX8 31, w ∈ wsX8_isWind := fun w h => List.mem_cons_of_mem _ (List.mem_append_right _ h)
  have hF : (f_X8_in (x0.toInt64) (0 : Int64) (((V.2.1 1) - (1 : Int32)).toInt64)) = F := hF
  refine lv_iload_n hx hb dX8_isWind_0 rfl (lv_at hl 1 rfl) ?_
  refine lv_i2l (v := (x0.toInt64)) hx hb dX8_isWind_1 rfl ?_
  refine lv_lconst (v := 0) hx hb dX8_isWind_2 (by decide) ?_
  refine lv_aload_n hx hb dX8_isWind_3 rfl (lv_at hl 0 rfl) ?_
  refine kb_get (v := .int (V.2.1 1)) hx hb hts hin8 hown hK hH 0 rfl rfl rfl 1 (by decide) (hts (.fieldLink RX8 109 "CockWarModel" "winds" "I") (List.mem_of_getElem? (i := 1) rfl)) (fun _ h9 => h9) rfl dX8_isWind_4 ?_
  refine lv_iconst (v := 1) hx hb dX8_isWind_7 (by decide) ?_
  refine lv_isub hx hb dX8_isWind_8 ?_
  refine lv_i2l (v := (((V.2.1 1) - (1 : Int32)).toInt64)) hx hb dX8_isWind_9 rfl ?_
  refine kb_ci hH hA [] (Wc := ([] : List va_W)) (Wc' := ([] : List va_W)) (WS' := (w_O8 G g V)) rfl (by decide) rfl rfl (va_runS (As := [.long (x0.toInt64), .long (0 : Int64), .long (((V.2.1 1) - (1 : Int32)).toInt64)]) (rest := []) ⟨hx, hb, hml, hown, hts⟩ (c_X8_in l G (x0.toInt64) (0 : Int64) (((V.2.1 1) - (1 : Int32)).toInt64) rfl _) (va_cwS 3 hts gX8_isWind_X8_in rfl rfl rfl hd_X8_in ⟨Nat.le_of_ble_eq_true rfl, Nat.le_of_ble_eq_true rfl⟩) (kb_preS hH hK hN [] rfl (by decide)) rfl rfl hl.1 rfl (lv_room (Nat.le_of_ble_eq_true rfl)) dX8_isWind_10 ⟨Nat.le_of_ble_eq_true rfl, Nat.le_of_ble_eq_true rfl⟩) (fun H locs hH => ?_)
  subst hF
  exact kb_zret hx hb hr hH rfl rfl (kb_nar _ (isb_X8_in _ _ _)) dX8_isWind_13 hlocks
def f_X8_tree (V : OV) (x0 : Int32) : (Int32) := (if (f_X8_in (x0.toInt64) (0 : Int64) (9 : Int64)) = 0 then (-2 : Int32) else ((V.1 5) ((12 : Int32) + x0).toNatClampNeg))
def d_X8_tree (V : OV) (x0 : Int32) : Prop := (¬ ((f_X8_in (x0.toInt64) (0 : Int64) (9 : Int64)) = 0) → vp_in ((12 : Int32) + x0) 54)
set_option maxHeartbeats 4000000 in
set_option maxRecDepth 100000 in
theorem c_X8_tree (l : Launch) (G : Ge) (g : Nat → Nat) (V : OV) (x0 : Int32) (hD : d_X8_tree V x0) {F : (Int32)} (hF : f_X8_tree V x0 = F) : CI l yX8_tree wsX8_tree { frames := 1, cells := 0, slots := 0, locals := 25 } [.ref (g 0), .int x0] G (w_O8 G g V) (w_O8 G g V) F := by
  intro sz
  refine Met.ofW (cc := cX8_tree) (maxL := 2) (ret := (some .int)) (by decide) rfl ?_
  intro p e s m args below meth c s₁ B hml hv
  obtain ⟨rfl, hpre⟩ := hv
  obtain ⟨hsz, hH, hK, hN, hA⟩ := kb_start hpre
  subst hsz
  have hx := B.exec
  have hb := B.bytes
  have hr := B.returns
  have hts := atoms_spec (ws := wsX8_tree) B.pre
  have hown : s.vm.findClass RX8 = some m.cls := findClass_of_methodNamed B.named
  have hlocks := B.notSynchronized
  generalize hAe : va_A (List.flatten (w_O8 G g V)) s.heap.size = A at hH hA ⊢
  have hl := lv_entry ([.ref (g 0), .int x0]) (n := 2) (Nat.le_of_ble_eq_true rfl)
  rw [lg_entry_eq]
  generalize (lg_sl ([.ref (g 0), .int x0]) ++ List.replicate (2 - (lg_sl ([.ref (g 0), .int x0])).length) Slot.unset).toArray = ls at hl ⊢
  have hl : lv_has ls 2 [(0, .ref (g 0)), (1, .int x0)] := hl
  have hH : HP G A s.heap (w_O8 G g V) s.heap [] := hH
  have hin8 : ∀ w ∈ u_ws RX8 TX8 31, w ∈ wsX8_tree := fun w h => List.mem_cons_of_mem _ (List.mem_append_right _ h)
  have hF : (if (f_X8_in (x0.toInt64) (0 : Int64) (9 : Int64)) = 0 then (-2 : Int32) else ((V.1 5) ((12 : Int32) + x0).toNatClampNeg)) = F := hF
  have hD : (¬ ((f_X8_in (x0.toInt64) (0 : Int64) (9 : Int64)) = 0) → vp_in ((12 : Int32) + x0) 54) := hD
  refine lv_iload_n hx hb dX8_tree_0 rfl (lv_at hl 1 rfl) ?_
  refine lv_i2l (v := (x0.toInt64)) hx hb dX8_tree_1 rfl ?_
  refine lv_lconst (v := 0) hx hb dX8_tree_2 (by decide) ?_
  refine lv_ldc2 (v := 9) hx hb hown (hts (.constantLong RX8 72 (9)) (List.mem_of_getElem? (i := 1) rfl)) dX8_tree_3 ?_
  refine kb_ci hH hA [] (Wc := ([] : List va_W)) (Wc' := ([] : List va_W)) (WS' := (w_O8 G g V)) rfl (by decide) rfl rfl (va_runS (As := [.long (x0.toInt64), .long (0 : Int64), .long (9 : Int64)]) (rest := []) ⟨hx, hb, hml, hown, hts⟩ (c_X8_in l G (x0.toInt64) (0 : Int64) (9 : Int64) rfl _) (va_cwS 3 hts gX8_tree_X8_in rfl rfl rfl hd_X8_in ⟨Nat.le_of_ble_eq_true rfl, Nat.le_of_ble_eq_true rfl⟩) (kb_preS hH hK hN [] rfl (by decide)) rfl rfl hl.1 rfl (lv_room (Nat.le_of_ble_eq_true rfl)) dX8_tree_6 ⟨Nat.le_of_ble_eq_true rfl, Nat.le_of_ble_eq_true rfl⟩) (fun H locs hH => ?_)
  refine lv_if_eq (tgt := 24) hx hb dX8_tree_9 (by decide) (fun c1 => ?_) (fun c1 => ?_)
  · rw [if_pos c1] at hF
    refine lv_bipush (v := -2) hx hb dX8_tree_24 (by decide) ?_
    subst hF
    exact kb_iret hx hb hr hH rfl rfl dX8_tree_26 hlocks
  · have hD := hD c1
    rw [if_neg c1] at hF
    refine lv_aload_n hx hb dX8_tree_12 rfl (lv_at hl 0 rfl) ?_
    refine kb_get (v := .ref (g 6)) hx hb hts hin8 hown hK hH 0 rfl rfl rfl 5 (by decide) (hts (.fieldLink RX8 19 "CockWarModel" "now" "[I") (List.mem_of_getElem? (i := 2) rfl)) (fun _ h9 => h9) rfl dX8_tree_13 ?_
    refine lv_bipush (v := 12) hx hb dX8_tree_16 (by decide) ?_
    refine lv_iload_n hx hb dX8_tree_18 rfl (lv_at hl 1 rfl) ?_
    refine lv_iadd hx hb dX8_tree_19 ?_
    have hz2 := hD
    refine kb_iald hx hb hK hH 4 rfl hz2 dX8_tree_20 ?_
    refine lv_goto (tgt := 26) hx hb dX8_tree_21 (by decide) ?_
    subst hF
    exact kb_iret hx hb hr hH rfl rfl dX8_tree_26 hlocks
def f_X8_cock (V : OV) (x0 : Int32) (x1 : Int32) : (Int32) := (if (f_X8_isCock V x0) = 0 then (-1 : Int32) else (if x1 = (0 : Int32) then ((V.1 5) (x0).toNatClampNeg) else (if x1 = (1 : Int32) then ((((V.1 5) (22 : Int32).toNatClampNeg) >>> (x0 &&& 31)) &&& (1 : Int32)) else (if x1 = (2 : Int32) then ((V.1 2) (x0).toNatClampNeg) else (if x1 = (3 : Int32) then ((V.1 5) ((6 : Int32) + x0).toNatClampNeg) else (if x1 = (4 : Int32) then ((V.1 3) (x0).toNatClampNeg) else (if x1 = (5 : Int32) then ((((V.1 5) (23 : Int32).toNatClampNeg) >>> (x0 &&& 31)) &&& (1 : Int32)) else (if x1 = (6 : Int32) then ((((V.1 5) (24 : Int32).toNatClampNeg) >>> (x0 &&& 31)) &&& (1 : Int32)) else (-2 : Int32)))))))))
def d_X8_cock (V : OV) (x0 : Int32) (x1 : Int32) : Prop := (¬ ((f_X8_isCock V x0) = 0) → ((x1 = (0 : Int32) → vp_in x0 54) ∧ (¬ (x1 = (0 : Int32)) → (¬ (x1 = (1 : Int32)) → ((x1 = (2 : Int32) → vp_in x0 6) ∧ (¬ (x1 = (2 : Int32)) → ((x1 = (3 : Int32) → vp_in ((6 : Int32) + x0) 54) ∧ (¬ (x1 = (3 : Int32)) → (x1 = (4 : Int32) → vp_in x0 6)))))))))
set_option maxHeartbeats 4000000 in
set_option maxRecDepth 100000 in
theorem c_X8_cock (l : Launch) (G : Ge) (g : Nat → Nat) (V : OV) (x0 : Int32) (x1 : Int32) (hD : d_X8_cock V x0 x1) {F : (Int32)} (hF : f_X8_cock V x0 x1 = F) : CI l yX8_cock wsX8_cock { frames := 2, cells := 0, slots := 0, locals := 46 } [.ref (g 0), .int x0, .int x1] G (w_O8 G g V) (w_O8 G g V) F := by
  intro sz
  refine Met.ofW (cc := cX8_cock) (maxL := 3) (ret := (some .int)) (by decide) rfl ?_
  intro p e s m args below meth c s₁ B hml hv
  obtain ⟨rfl, hpre⟩ := hv
  obtain ⟨hsz, hH, hK, hN, hA⟩ := kb_start hpre
  subst hsz
  have hx := B.exec
  have hb := B.bytes
  have hr := B.returns
  have hts := atoms_spec (ws := wsX8_cock) B.pre
  have hown : s.vm.findClass RX8 = some m.cls := findClass_of_methodNamed B.named
  have hlocks := B.notSynchronized
  generalize hAe : va_A (List.flatten (w_O8 G g V)) s.heap.size = A at hH hA ⊢
  have hl := lv_entry ([.ref (g 0), .int x0, .int x1]) (n := 3) (Nat.le_of_ble_eq_true rfl)
  rw [lg_entry_eq]
  generalize (lg_sl ([.ref (g 0), .int x0, .int x1]) ++ List.replicate (3 - (lg_sl ([.ref (g 0), .int x0, .int x1])).length) Slot.unset).toArray = ls at hl ⊢
  have hl : lv_has ls 3 [(0, .ref (g 0)), (1, .int x0), (2, .int x1)] := hl
  have hH : HP G A s.heap (w_O8 G g V) s.heap [] := hH
  have hin8 : ∀ w ∈ u_ws RX8 TX8 31, w ∈ wsX8_cock := fun w h => List.mem_cons_of_mem _ (List.mem_append_right _ h)
  have hF : (if (f_X8_isCock V x0) = 0 then (-1 : Int32) else (if x1 = (0 : Int32) then ((V.1 5) (x0).toNatClampNeg) else (if x1 = (1 : Int32) then ((((V.1 5) (22 : Int32).toNatClampNeg) >>> (x0 &&& 31)) &&& (1 : Int32)) else (if x1 = (2 : Int32) then ((V.1 2) (x0).toNatClampNeg) else (if x1 = (3 : Int32) then ((V.1 5) ((6 : Int32) + x0).toNatClampNeg) else (if x1 = (4 : Int32) then ((V.1 3) (x0).toNatClampNeg) else (if x1 = (5 : Int32) then ((((V.1 5) (23 : Int32).toNatClampNeg) >>> (x0 &&& 31)) &&& (1 : Int32)) else (if x1 = (6 : Int32) then ((((V.1 5) (24 : Int32).toNatClampNeg) >>> (x0 &&& 31)) &&& (1 : Int32)) else (-2 : Int32))))))))) = F := hF
  have hD : (¬ ((f_X8_isCock V x0) = 0) → ((x1 = (0 : Int32) → vp_in x0 54) ∧ (¬ (x1 = (0 : Int32)) → (¬ (x1 = (1 : Int32)) → ((x1 = (2 : Int32) → vp_in x0 6) ∧ (¬ (x1 = (2 : Int32)) → ((x1 = (3 : Int32) → vp_in ((6 : Int32) + x0) 54) ∧ (¬ (x1 = (3 : Int32)) → (x1 = (4 : Int32) → vp_in x0 6))))))))) := hD
  refine lv_aload_n hx hb dX8_cock_0 rfl (lv_at hl 0 rfl) ?_
  refine lv_iload_n hx hb dX8_cock_1 rfl (lv_at hl 1 rfl) ?_
  refine kb_ci hH hA [0, 1, 2, 3, 4, 5, 6, 7, 8, 9, 10, 11, 12, 13, 14] (Wc := (w_O8 G g V)) (Wc' := (w_O8 G g V)) (WS' := (w_O8 G g V)) rfl (by decide) rfl rfl (va_runV (As := [.int x0]) (rest := []) ⟨hx, hb, hml, hown, hts⟩ (c_X8_isCock l G g V x0 rfl _) (cwV 1 hts gX8_cock_X8_isCock rfl rfl rfl he_X8_isCock ⟨Nat.le_of_ble_eq_true rfl, Nat.le_of_ble_eq_true rfl⟩) (kb_preV hH hK hN [0, 1, 2, 3, 4, 5, 6, 7, 8, 9, 10, 11, 12, 13, 14] rfl (by decide) 0 rfl rfl rfl rfl) rfl rfl hl.1 rfl (lv_room (Nat.le_of_ble_eq_true rfl)) dX8_cock_2 ⟨Nat.le_of_ble_eq_true rfl, Nat.le_of_ble_eq_true rfl⟩) (fun H locs hH => ?_)
  refine lv_if_ne (tgt := 10) hx hb dX8_cock_5 (by decide) (fun c1 => ?_) (fun c1 => ?_)
  · have hD := hD c1
    rw [if_neg c1] at hF
    refine lv_iload_n hx hb dX8_cock_10 rfl (lv_at hl 2 rfl) ?_
    by_cases c2 : x1 = (0 : Int32)
    · have hD := hD.1 c2
      rw [if_pos c2] at hF
      refine lv_tableIn (tgt := 52) (off := 41) hx hb dX8_cock_11 (by rw [c2]; decide) (by rw [c2]; decide) (by rw [c2]; rfl) (by decide) ?_
      refine lv_aload_n hx hb dX8_cock_52 rfl (lv_at hl 0 rfl) ?_
      refine kb_get (v := .ref (g 6)) hx hb hts hin8 hown hK hH 0 rfl rfl rfl 5 (by decide) (hts (.fieldLink RX8 19 "CockWarModel" "now" "[I") (List.mem_of_getElem? (i := 1) rfl)) (fun _ h9 => h9) rfl dX8_cock_53 ?_
      refine lv_iload_n hx hb dX8_cock_56 rfl (lv_at hl 1 rfl) ?_
      have hz3 := hD
      refine kb_iald hx hb hK hH 4 rfl hz3 dX8_cock_57 ?_
      subst hF
      exact kb_iret hx hb hr hH rfl rfl dX8_cock_58 hlocks
    · have hD := hD.2 c2
      rw [if_neg c2] at hF
      by_cases c4 : x1 = (1 : Int32)
      · rw [if_pos c4] at hF
        refine lv_tableIn (tgt := 59) (off := 48) hx hb dX8_cock_11 (by rw [c4]; decide) (by rw [c4]; decide) (by rw [c4]; rfl) (by decide) ?_
        refine lv_aload_n hx hb dX8_cock_59 rfl (lv_at hl 0 rfl) ?_
        refine kb_get (v := .ref (g 6)) hx hb hts hin8 hown hK hH 0 rfl rfl rfl 5 (by decide) (hts (.fieldLink RX8 19 "CockWarModel" "now" "[I") (List.mem_of_getElem? (i := 1) rfl)) (fun _ h9 => h9) rfl dX8_cock_60 ?_
        refine lv_bipush (v := 22) hx hb dX8_cock_63 (by decide) ?_
        refine kb_iald hx hb hK hH 4 rfl (show ¬ ((22 : Int32) < 0 ∨ 54 ≤ (22 : Int32).toNatClampNeg) by decide) dX8_cock_65 ?_
        refine lv_iload_n hx hb dX8_cock_66 rfl (lv_at hl 1 rfl) ?_
        refine lv_ishr hx hb dX8_cock_67 ?_
        refine lv_iconst (v := 1) hx hb dX8_cock_68 (by decide) ?_
        refine lv_iand hx hb dX8_cock_69 ?_
        subst hF
        exact kb_iret hx hb hr hH rfl rfl dX8_cock_70 hlocks
      · have hD := hD c4
        rw [if_neg c4] at hF
        by_cases c5 : x1 = (2 : Int32)
        · have hD := hD.1 c5
          rw [if_pos c5] at hF
          refine lv_tableIn (tgt := 71) (off := 60) hx hb dX8_cock_11 (by rw [c5]; decide) (by rw [c5]; decide) (by rw [c5]; rfl) (by decide) ?_
          refine lv_aload_n hx hb dX8_cock_71 rfl (lv_at hl 0 rfl) ?_
          refine kb_get (v := .ref (g 3)) hx hb hts hin8 hown hK hH 0 rfl rfl rfl 2 (by decide) (hts (.fieldLink RX8 7 "CockWarModel" "high" "[I") (List.mem_of_getElem? (i := 2) rfl)) (fun _ h9 => h9) rfl dX8_cock_72 ?_
          refine lv_iload_n hx hb dX8_cock_75 rfl (lv_at hl 1 rfl) ?_
          have hz6 := hD
          refine kb_iald hx hb hK hH 1 rfl hz6 dX8_cock_76 ?_
          subst hF
          exact kb_iret hx hb hr hH rfl rfl dX8_cock_77 hlocks
        · have hD := hD.2 c5
          rw [if_neg c5] at hF
          by_cases c7 : x1 = (3 : Int32)
          · have hD := hD.1 c7
            rw [if_pos c7] at hF
            refine lv_tableIn (tgt := 78) (off := 67) hx hb dX8_cock_11 (by rw [c7]; decide) (by rw [c7]; decide) (by rw [c7]; rfl) (by decide) ?_
            refine lv_aload_n hx hb dX8_cock_78 rfl (lv_at hl 0 rfl) ?_
            refine kb_get (v := .ref (g 6)) hx hb hts hin8 hown hK hH 0 rfl rfl rfl 5 (by decide) (hts (.fieldLink RX8 19 "CockWarModel" "now" "[I") (List.mem_of_getElem? (i := 1) rfl)) (fun _ h9 => h9) rfl dX8_cock_79 ?_
            refine lv_bipush (v := 6) hx hb dX8_cock_82 (by decide) ?_
            refine lv_iload_n hx hb dX8_cock_84 rfl (lv_at hl 1 rfl) ?_
            refine lv_iadd hx hb dX8_cock_85 ?_
            have hz8 := hD
            refine kb_iald hx hb hK hH 4 rfl hz8 dX8_cock_86 ?_
            subst hF
            exact kb_iret hx hb hr hH rfl rfl dX8_cock_87 hlocks
          · have hD := hD.2 c7
            rw [if_neg c7] at hF
            by_cases c9 : x1 = (4 : Int32)
            · have hD := hD c9
              rw [if_pos c9] at hF
              refine lv_tableIn (tgt := 88) (off := 77) hx hb dX8_cock_11 (by rw [c9]; decide) (by rw [c9]; decide) (by rw [c9]; rfl) (by decide) ?_
              refine lv_aload_n hx hb dX8_cock_88 rfl (lv_at hl 0 rfl) ?_
              refine kb_get (v := .ref (g 4)) hx hb hts hin8 hown hK hH 0 rfl rfl rfl 3 (by decide) (hts (.fieldLink RX8 13 "CockWarModel" "weight" "[I") (List.mem_of_getElem? (i := 3) rfl)) (fun _ h9 => h9) rfl dX8_cock_89 ?_
              refine lv_iload_n hx hb dX8_cock_92 rfl (lv_at hl 1 rfl) ?_
              have hz10 := hD
              refine kb_iald hx hb hK hH 2 rfl hz10 dX8_cock_93 ?_
              subst hF
              exact kb_iret hx hb hr hH rfl rfl dX8_cock_94 hlocks
            · rw [if_neg c9] at hF
              by_cases c11 : x1 = (5 : Int32)
              · rw [if_pos c11] at hF
                refine lv_tableIn (tgt := 95) (off := 84) hx hb dX8_cock_11 (by rw [c11]; decide) (by rw [c11]; decide) (by rw [c11]; rfl) (by decide) ?_
                refine lv_aload_n hx hb dX8_cock_95 rfl (lv_at hl 0 rfl) ?_
                refine kb_get (v := .ref (g 6)) hx hb hts hin8 hown hK hH 0 rfl rfl rfl 5 (by decide) (hts (.fieldLink RX8 19 "CockWarModel" "now" "[I") (List.mem_of_getElem? (i := 1) rfl)) (fun _ h9 => h9) rfl dX8_cock_96 ?_
                refine lv_bipush (v := 23) hx hb dX8_cock_99 (by decide) ?_
                refine kb_iald hx hb hK hH 4 rfl (show ¬ ((23 : Int32) < 0 ∨ 54 ≤ (23 : Int32).toNatClampNeg) by decide) dX8_cock_101 ?_
                refine lv_iload_n hx hb dX8_cock_102 rfl (lv_at hl 1 rfl) ?_
                refine lv_ishr hx hb dX8_cock_103 ?_
                refine lv_iconst (v := 1) hx hb dX8_cock_104 (by decide) ?_
                refine lv_iand hx hb dX8_cock_105 ?_
                subst hF
                exact kb_iret hx hb hr hH rfl rfl dX8_cock_106 hlocks
              · rw [if_neg c11] at hF
                by_cases c12 : x1 = (6 : Int32)
                · rw [if_pos c12] at hF
                  refine lv_tableIn (tgt := 107) (off := 96) hx hb dX8_cock_11 (by rw [c12]; decide) (by rw [c12]; decide) (by rw [c12]; rfl) (by decide) ?_
                  refine lv_aload_n hx hb dX8_cock_107 rfl (lv_at hl 0 rfl) ?_
                  refine kb_get (v := .ref (g 6)) hx hb hts hin8 hown hK hH 0 rfl rfl rfl 5 (by decide) (hts (.fieldLink RX8 19 "CockWarModel" "now" "[I") (List.mem_of_getElem? (i := 1) rfl)) (fun _ h9 => h9) rfl dX8_cock_108 ?_
                  refine lv_bipush (v := 24) hx hb dX8_cock_111 (by decide) ?_
                  refine kb_iald hx hb hK hH 4 rfl (show ¬ ((24 : Int32) < 0 ∨ 54 ≤ (24 : Int32).toNatClampNeg) by decide) dX8_cock_113 ?_
                  refine lv_iload_n hx hb dX8_cock_114 rfl (lv_at hl 1 rfl) ?_
                  refine lv_ishr hx hb dX8_cock_115 ?_
                  refine lv_iconst (v := 1) hx hb dX8_cock_116 (by decide) ?_
                  refine lv_iand hx hb dX8_cock_117 ?_
                  subst hF
                  exact kb_iret hx hb hr hH rfl rfl dX8_cock_118 hlocks
                · rw [if_neg c12] at hF
                  refine lv_tableOut (tgt := 119) hx hb dX8_cock_11 (by have z0 := lv_neT (a := 0) c2 rfl; have z1 := lv_neT (a := 1) c4 rfl; have z2 := lv_neT (a := 2) c5 rfl; have z3 := lv_neT (a := 3) c7 rfl; have z4 := lv_neT (a := 4) c9 rfl; have z5 := lv_neT (a := 5) c11 rfl; have z6 := lv_neT (a := 6) c12 rfl; omega) (by decide) ?_
                  refine lv_bipush (v := -2) hx hb dX8_cock_119 (by decide) ?_
                  subst hF
                  exact kb_iret hx hb hr hH rfl rfl dX8_cock_121 hlocks
  · rw [if_pos c1] at hF
    refine lv_iconst (v := -1) hx hb dX8_cock_8 (by decide) ?_
    subst hF
    exact kb_iret hx hb hr hH rfl rfl dX8_cock_9 hlocks
def f_X8_isSheltered (V : OV) (x0 : Int32) (x1 : Int32) (x2 : Int32) : (Int32) := (kAp ((if x2 = (1 : Int32) then (-1 : Int32) else (1 : Int32)) : Int32) (fun v4 => (if (f_X8_in ((((V.1 5) (((27 : Int32) * x0) + x1).toNatClampNeg) + v4).toInt64) (0 : Int64) (9 : Int64)) = 0 then (0 : Int32) else (if ((V.1 5) ((((27 : Int32) * x0) + (12 : Int32)) + (((V.1 5) (((27 : Int32) * x0) + x1).toNatClampNeg) + v4)).toNatClampNeg) ≤ ((V.1 2) (x1).toNatClampNeg) then (0 : Int32) else (1 : Int32)))))
def d_X8_isSheltered (V : OV) (x0 : Int32) (x1 : Int32) (x2 : Int32) : Prop := (vp_in (((27 : Int32) * x0) + x1) 54 ∧ (kAp ((if x2 = (1 : Int32) then (-1 : Int32) else (1 : Int32)) : Int32) (fun v4 => (¬ ((f_X8_in ((((V.1 5) (((27 : Int32) * x0) + x1).toNatClampNeg) + v4).toInt64) (0 : Int64) (9 : Int64)) = 0) → (vp_in ((((27 : Int32) * x0) + (12 : Int32)) + (((V.1 5) (((27 : Int32) * x0) + x1).toNatClampNeg) + v4)) 54 ∧ vp_in x1 6)))))
set_option maxHeartbeats 4000000 in
set_option maxRecDepth 100000 in
theorem c_X8_isSheltered (l : Launch) (G : Ge) (g : Nat → Nat) (V : OV) (x0 : Int32) (x1 : Int32) (x2 : Int32) (hD : d_X8_isSheltered V x0 x1 x2) {F : (Int32)} (hF : f_X8_isSheltered V x0 x1 x2 = F) : CI l yX8_isSheltered wsX8_isSheltered { frames := 1, cells := 0, slots := 0, locals := 25 } [.ref (g 0), .int x0, .int x1, .int x2] G (w_O8 G g V) (w_O8 G g V) F := by
  intro sz
  refine Met.ofW (cc := cX8_isSheltered) (maxL := 5) (ret := (some .boolean)) (by decide) rfl ?_
  intro p e s m args below meth c s₁ B hml hv
  obtain ⟨rfl, hpre⟩ := hv
  obtain ⟨hsz, hH, hK, hN, hA⟩ := kb_start hpre
  subst hsz
  have hx := B.exec
  have hb := B.bytes
  have hr := B.returns
  have hts := atoms_spec (ws := wsX8_isSheltered) B.pre
  have hown : s.vm.findClass RX8 = some m.cls := findClass_of_methodNamed B.named
  have hlocks := B.notSynchronized
  generalize hAe : va_A (List.flatten (w_O8 G g V)) s.heap.size = A at hH hA ⊢
  have hl := lv_entry ([.ref (g 0), .int x0, .int x1, .int x2]) (n := 5) (Nat.le_of_ble_eq_true rfl)
  rw [lg_entry_eq]
  generalize (lg_sl ([.ref (g 0), .int x0, .int x1, .int x2]) ++ List.replicate (5 - (lg_sl ([.ref (g 0), .int x0, .int x1, .int x2])).length) Slot.unset).toArray = ls at hl ⊢
  have hl : lv_has ls 5 [(0, .ref (g 0)), (1, .int x0), (2, .int x1), (3, .int x2)] := hl
  have hH : HP G A s.heap (w_O8 G g V) s.heap [] := hH
  have hin8 : ∀ w ∈ u_ws RX8 TX8 31, w ∈ wsX8_isSheltered := fun w h => List.mem_cons_of_mem _ (List.mem_append_right _ h)
  have hF : (kAp ((if x2 = (1 : Int32) then (-1 : Int32) else (1 : Int32)) : Int32) (fun v4 => (if (f_X8_in ((((V.1 5) (((27 : Int32) * x0) + x1).toNatClampNeg) + v4).toInt64) (0 : Int64) (9 : Int64)) = 0 then (0 : Int32) else (if ((V.1 5) ((((27 : Int32) * x0) + (12 : Int32)) + (((V.1 5) (((27 : Int32) * x0) + x1).toNatClampNeg) + v4)).toNatClampNeg) ≤ ((V.1 2) (x1).toNatClampNeg) then (0 : Int32) else (1 : Int32))))) = F := hF
  have hD : (vp_in (((27 : Int32) * x0) + x1) 54 ∧ (kAp ((if x2 = (1 : Int32) then (-1 : Int32) else (1 : Int32)) : Int32) (fun v4 => (¬ ((f_X8_in ((((V.1 5) (((27 : Int32) * x0) + x1).toNatClampNeg) + v4).toInt64) (0 : Int64) (9 : Int64)) = 0) → (vp_in ((((27 : Int32) * x0) + (12 : Int32)) + (((V.1 5) (((27 : Int32) * x0) + x1).toNatClampNeg) + v4)) 54 ∧ vp_in x1 6))))) := hD
  refine lv_aload_n hx hb dX8_isSheltered_0 rfl (lv_at hl 0 rfl) ?_
  refine kb_get (v := .ref (g 6)) hx hb hts hin8 hown hK hH 0 rfl rfl rfl 5 (by decide) (hts (.fieldLink RX8 19 "CockWarModel" "now" "[I") (List.mem_of_getElem? (i := 1) rfl)) (fun _ h9 => h9) rfl dX8_isSheltered_1 ?_
  refine lv_bipush (v := 27) hx hb dX8_isSheltered_4 (by decide) ?_
  refine lv_iload_n hx hb dX8_isSheltered_6 rfl (lv_at hl 1 rfl) ?_
  refine lv_imul hx hb dX8_isSheltered_7 ?_
  refine lv_iload_n hx hb dX8_isSheltered_8 rfl (lv_at hl 2 rfl) ?_
  refine lv_iadd hx hb dX8_isSheltered_9 ?_
  obtain ⟨hz1, hD⟩ := hD
  refine kb_iald hx hb hK hH 4 rfl hz1 dX8_isSheltered_10 ?_
  refine lv_iload_n hx hb dX8_isSheltered_11 rfl (lv_at hl 3 rfl) ?_
  refine lv_iconst (v := 1) hx hb dX8_isSheltered_12 (by decide) ?_
  obtain ⟨v4, ev4⟩ : ∃ z : Int32, (if x2 = (1 : Int32) then (-1 : Int32) else (1 : Int32)) = z := ⟨_, rfl⟩
  have hF := kAp_eq hF ev4.symm
  have hD := kAp_D hD ev4.symm
  refine kb_cut (fun H locs ls => HP G A s.heap (w_O8 G g V) H locs ∧ lv_has ls 5 [(0, .ref (g 0)), (1, .int x0), (2, .int x1)]) 21 [.int v4, .int ((V.1 5) (((27 : Int32) * x0) + x1).toNatClampNeg)] (fun u2 => ?_) (fun H locs ls hX => ?_)
  · refine lv_icmp_ne (tgt := 20) hx hb dX8_isSheltered_13 (by decide) (fun c5 => ?_) (fun c5 => ?_)
    · rw [if_neg c5] at ev4
      refine lv_iconst (v := 1) hx hb dX8_isSheltered_20 (by decide) ?_
      subst ev4
      exact u2 _ _ _ ⟨hH, lv_sub hl [0, 1, 2] rfl⟩
    · rw [if_pos c5] at ev4
      refine lv_iconst (v := -1) hx hb dX8_isSheltered_16 (by decide) ?_
      refine lv_goto (tgt := 21) hx hb dX8_isSheltered_17 (by decide) ?_
      subst ev4
      exact u2 _ _ _ ⟨hH, lv_sub hl [0, 1, 2] rfl⟩
  · obtain ⟨hH, hl⟩ := hX
    refine lv_iadd hx hb dX8_isSheltered_21 ?_
    refine lv_istore (lv' := [(4, .int (((V.1 5) (((27 : Int32) * x0) + x1).toNatClampNeg) + v4)), (0, .ref (g 0)), (1, .int x0), (2, .int x1)]) hx hb dX8_isSheltered_22 hl (by decide) rfl (fun ls hl => ?_)
    refine lv_iload hx hb dX8_isSheltered_24 (lv_at hl 0 rfl) ?_
    refine lv_i2l (v := ((((V.1 5) (((27 : Int32) * x0) + x1).toNatClampNeg) + v4).toInt64)) hx hb dX8_isSheltered_26 rfl ?_
    refine lv_lconst (v := 0) hx hb dX8_isSheltered_27 (by decide) ?_
    refine lv_ldc2 (v := 9) hx hb hown (hts (.constantLong RX8 72 (9)) (List.mem_of_getElem? (i := 2) rfl)) dX8_isSheltered_28 ?_
    refine kb_ci hH hA [] (Wc := ([] : List va_W)) (Wc' := ([] : List va_W)) (WS' := (w_O8 G g V)) rfl (by decide) rfl rfl (va_runS (As := [.long ((((V.1 5) (((27 : Int32) * x0) + x1).toNatClampNeg) + v4).toInt64), .long (0 : Int64), .long (9 : Int64)]) (rest := []) ⟨hx, hb, hml, hown, hts⟩ (c_X8_in l G ((((V.1 5) (((27 : Int32) * x0) + x1).toNatClampNeg) + v4).toInt64) (0 : Int64) (9 : Int64) rfl _) (va_cwS 3 hts gX8_isSheltered_X8_in rfl rfl rfl hd_X8_in ⟨Nat.le_of_ble_eq_true rfl, Nat.le_of_ble_eq_true rfl⟩) (kb_preS hH hK hN [] rfl (by decide)) rfl rfl hl.1 rfl (lv_room (Nat.le_of_ble_eq_true rfl)) dX8_isSheltered_31 ⟨Nat.le_of_ble_eq_true rfl, Nat.le_of_ble_eq_true rfl⟩) (fun H locs hH => ?_)
    refine lv_if_eq (tgt := 65) hx hb dX8_isSheltered_34 (by decide) (fun c6 => ?_) (fun c6 => ?_)
    · rw [if_pos c6] at hF
      refine lv_iconst (v := 0) hx hb dX8_isSheltered_65 (by decide) ?_
      subst hF
      exact kb_zret hx hb hr hH rfl rfl (kb_nar _ (Or.inl rfl)) dX8_isSheltered_66 hlocks
    · have hD := hD c6
      rw [if_neg c6] at hF
      refine lv_aload_n hx hb dX8_isSheltered_37 rfl (lv_at hl 1 rfl) ?_
      refine kb_get (v := .ref (g 6)) hx hb hts hin8 hown hK hH 0 rfl rfl rfl 5 (by decide) (hts (.fieldLink RX8 19 "CockWarModel" "now" "[I") (List.mem_of_getElem? (i := 1) rfl)) (fun _ h9 => h9) rfl dX8_isSheltered_38 ?_
      refine lv_bipush (v := 27) hx hb dX8_isSheltered_41 (by decide) ?_
      refine lv_iload_n hx hb dX8_isSheltered_43 rfl (lv_at hl 2 rfl) ?_
      refine lv_imul hx hb dX8_isSheltered_44 ?_
      refine lv_bipush (v := 12) hx hb dX8_isSheltered_45 (by decide) ?_
      refine lv_iadd hx hb dX8_isSheltered_47 ?_
      refine lv_iload hx hb dX8_isSheltered_48 (lv_at hl 0 rfl) ?_
      refine lv_iadd hx hb dX8_isSheltered_50 ?_
      obtain ⟨hz7, hD⟩ := hD
      refine kb_iald hx hb hK hH 4 rfl hz7 dX8_isSheltered_51 ?_
      refine lv_aload_n hx hb dX8_isSheltered_52 rfl (lv_at hl 1 rfl) ?_
      refine kb_get (v := .ref (g 3)) hx hb hts hin8 hown hK hH 0 rfl rfl rfl 2 (by decide) (hts (.fieldLink RX8 7 "CockWarModel" "high" "[I") (List.mem_of_getElem? (i := 3) rfl)) (fun _ h9 => h9) rfl dX8_isSheltered_53 ?_
      refine lv_iload_n hx hb dX8_isSheltered_56 rfl (lv_at hl 3 rfl) ?_
      have hz8 := hD
      refine kb_iald hx hb hK hH 1 rfl hz8 dX8_isSheltered_57 ?_
      refine lv_icmp_le (tgt := 65) hx hb dX8_isSheltered_58 (by decide) (fun c9 => ?_) (fun c9 => ?_)
      · rw [if_pos c9] at hF
        refine lv_iconst (v := 0) hx hb dX8_isSheltered_65 (by decide) ?_
        subst hF
        exact kb_zret hx hb hr hH rfl rfl (kb_nar _ (Or.inl rfl)) dX8_isSheltered_66 hlocks
      · rw [if_neg c9] at hF
        refine lv_iconst (v := 1) hx hb dX8_isSheltered_61 (by decide) ?_
        refine lv_goto (tgt := 66) hx hb dX8_isSheltered_62 (by decide) ?_
        subst hF
        exact kb_zret hx hb hr hH rfl rfl (kb_nar _ (Or.inr rfl)) dX8_isSheltered_66 hlocks
def f_X8_pointsBy_L2 (V : OV) (x0 : Int32) (x1 : Int32) (x2 : Int32) (iL2 : Nat) (s : (Int32)) : (Int32) := (kAp ((if ((V.1 4) (((3 : Int32) * x1) + (1 : Int32)).toNatClampNeg) ≤ ((V.1 5) ((((27 : Int32) * x0) + (6 : Int32)) + (nI iL2)).toNatClampNeg) then (0 : Int32) else (if (f_X8_has x2 (nI iL2)) = 0 then (if (f_X8_isSheltered V x0 (nI iL2) ((V.1 4) ((3 : Int32) * x1).toNatClampNeg)) = 0 then (1 : Int32) else (0 : Int32)) else (0 : Int32))) : Int32) (fun v8 => (if v8 = 0 then s else (if ((V.1 4) ((3 : Int32) * x1).toNatClampNeg) = (1 : Int32) then (s ||| ((1 : Int32) <<< ((nI iL2) &&& 31))) else (s &&& (((1 : Int32) <<< ((nI iL2) &&& 31)) ^^^ (-1 : Int32)))))))
def d_X8_pointsBy_L2 (V : OV) (x0 : Int32) (x1 : Int32) (x2 : Int32) (iL2 : Nat) (s : (Int32)) : Prop := (vp_in (((3 : Int32) * x1) + (1 : Int32)) 12 ∧ (vp_in ((((27 : Int32) * x0) + (6 : Int32)) + (nI iL2)) 54 ∧ ((¬ (((V.1 4) (((3 : Int32) * x1) + (1 : Int32)).toNatClampNeg) ≤ ((V.1 5) ((((27 : Int32) * x0) + (6 : Int32)) + (nI iL2)).toNatClampNeg)) → ((f_X8_has x2 (nI iL2)) = 0 → (vp_in ((3 : Int32) * x1) 12 ∧ (d_X8_isSheltered V x0 (nI iL2) ((V.1 4) ((3 : Int32) * x1).toNatClampNeg))))) ∧ (kAp ((if ((V.1 4) (((3 : Int32) * x1) + (1 : Int32)).toNatClampNeg) ≤ ((V.1 5) ((((27 : Int32) * x0) + (6 : Int32)) + (nI iL2)).toNatClampNeg) then (0 : Int32) else (if (f_X8_has x2 (nI iL2)) = 0 then (if (f_X8_isSheltered V x0 (nI iL2) ((V.1 4) ((3 : Int32) * x1).toNatClampNeg)) = 0 then (1 : Int32) else (0 : Int32)) else (0 : Int32))) : Int32) (fun v8 => (¬ (v8 = 0) → vp_in ((3 : Int32) * x1) 12))))))
def f_X8_pointsBy (V : OV) (x0 : Int32) (x1 : Int32) (x2 : Int32) : (Int32) := (kAp (lpu (f_X8_pointsBy_L2 V x0 x1 x2) (cN (V.2.1 0)) 0 ((V.1 5) (((27 : Int32) * x0) + (23 : Int32)).toNatClampNeg)) (fun z17 => z17))
def d_X8_pointsBy (V : OV) (x0 : Int32) (x1 : Int32) (x2 : Int32) : Prop := (vp_in (((27 : Int32) * x0) + (23 : Int32)) 54 ∧ (lpuD (f_X8_pointsBy_L2 V x0 x1 x2) (d_X8_pointsBy_L2 V x0 x1 x2) (cN (V.2.1 0)) 0 ((V.1 5) (((27 : Int32) * x0) + (23 : Int32)).toNatClampNeg)))
set_option maxHeartbeats 4000000 in
set_option maxRecDepth 100000 in
theorem c_X8_pointsBy (l : Launch) (G : Ge) (g : Nat → Nat) (V : OV) (x0 : Int32) (x1 : Int32) (x2 : Int32) (hD : d_X8_pointsBy V x0 x1 x2) {F : (Int32)} (hF : f_X8_pointsBy V x0 x1 x2 = F) : CI l yX8_pointsBy wsX8_pointsBy { frames := 2, cells := 0, slots := 0, locals := 49 } [.ref (g 0), .int x0, .int x1, .int x2] G (w_O8 G g V) (w_O8 G g V) F := by
  intro sz
  refine Met.ofW (cc := cX8_pointsBy) (maxL := 7) (ret := (some .int)) (by decide) rfl ?_
  intro p e s m args below meth c s₁ B hml hv
  obtain ⟨rfl, hpre⟩ := hv
  obtain ⟨hsz, hH, hK, hN, hA⟩ := kb_start hpre
  subst hsz
  have hx := B.exec
  have hb := B.bytes
  have hr := B.returns
  have hts := atoms_spec (ws := wsX8_pointsBy) B.pre
  have hown : s.vm.findClass RX8 = some m.cls := findClass_of_methodNamed B.named
  have hlocks := B.notSynchronized
  generalize hAe : va_A (List.flatten (w_O8 G g V)) s.heap.size = A at hH hA ⊢
  have hl := lv_entry ([.ref (g 0), .int x0, .int x1, .int x2]) (n := 7) (Nat.le_of_ble_eq_true rfl)
  rw [lg_entry_eq]
  generalize (lg_sl ([.ref (g 0), .int x0, .int x1, .int x2]) ++ List.replicate (7 - (lg_sl ([.ref (g 0), .int x0, .int x1, .int x2])).length) Slot.unset).toArray = ls at hl ⊢
  have hl : lv_has ls 7 [(0, .ref (g 0)), (1, .int x0), (2, .int x1), (3, .int x2)] := hl
  have hH : HP G A s.heap (w_O8 G g V) s.heap [] := hH
  have hin8 : ∀ w ∈ u_ws RX8 TX8 31, w ∈ wsX8_pointsBy := fun w h => List.mem_cons_of_mem _ (List.mem_append_right _ h)
  have hF : (kAp (lpu (f_X8_pointsBy_L2 V x0 x1 x2) (cN (V.2.1 0)) 0 ((V.1 5) (((27 : Int32) * x0) + (23 : Int32)).toNatClampNeg)) (fun z17 => z17)) = F := hF
  have hD : (vp_in (((27 : Int32) * x0) + (23 : Int32)) 54 ∧ (lpuD (f_X8_pointsBy_L2 V x0 x1 x2) (d_X8_pointsBy_L2 V x0 x1 x2) (cN (V.2.1 0)) 0 ((V.1 5) (((27 : Int32) * x0) + (23 : Int32)).toNatClampNeg))) := hD
  refine lv_aload_n hx hb dX8_pointsBy_0 rfl (lv_at hl 0 rfl) ?_
  refine kb_get (v := .ref (g 6)) hx hb hts hin8 hown hK hH 0 rfl rfl rfl 5 (by decide) (hts (.fieldLink RX8 19 "CockWarModel" "now" "[I") (List.mem_of_getElem? (i := 1) rfl)) (fun _ h9 => h9) rfl dX8_pointsBy_1 ?_
  refine lv_bipush (v := 27) hx hb dX8_pointsBy_4 (by decide) ?_
  refine lv_iload_n hx hb dX8_pointsBy_6 rfl (lv_at hl 1 rfl) ?_
  refine lv_imul hx hb dX8_pointsBy_7 ?_
  refine lv_bipush (v := 23) hx hb dX8_pointsBy_8 (by decide) ?_
  refine lv_iadd hx hb dX8_pointsBy_10 ?_
  obtain ⟨hz1, hD⟩ := hD
  refine kb_iald hx hb hK hH 4 rfl hz1 dX8_pointsBy_11 ?_
  refine lv_istore (lv' := [(4, .int ((V.1 5) (((27 : Int32) * x0) + (23 : Int32)).toNatClampNeg)), (0, .ref (g 0)), (1, .int x0), (2, .int x1), (3, .int x2)]) hx hb dX8_pointsBy_12 hl (by decide) rfl (fun ls hl => ?_)
  refine lv_iconst (v := 0) hx hb dX8_pointsBy_14 (by decide) ?_
  refine lv_istore (lv' := [(5, .int (0 : Int32)), (4, .int ((V.1 5) (((27 : Int32) * x0) + (23 : Int32)).toNatClampNeg)), (0, .ref (g 0)), (1, .int x0), (2, .int x1), (3, .int x2)]) hx hb dX8_pointsBy_15 hl (by decide) rfl (fun ls hl => ?_)
  have hDlL2 := hD
  obtain ⟨SFL2, hSFL2⟩ : ∃ z, z = (lpu (f_X8_pointsBy_L2 V x0 x1 x2) (cN (V.2.1 0)) 0 ((V.1 5) (((27 : Int32) * x0) + (23 : Int32)).toNatClampNeg)) := ⟨_, rfl⟩
  have hF := kAp_eq hF hSFL2
  refine kb_cut (fun H locs ls => HP G A s.heap (w_O8 G g V) H locs ∧ lv_has ls 7 [(4, .int SFL2)]) 137 [] (fun EXL2 => ?_) (fun H locs ls hX => ?_)
  · refine kb_loop (σ := (Int32)) (fun n i x => n + i = (cN (V.2.1 0)) ∧ lpu (f_X8_pointsBy_L2 V x0 x1 x2) n i x = SFL2 ∧ lpuD (f_X8_pointsBy_L2 V x0 x1 x2) (d_X8_pointsBy_L2 V x0 x1 x2) n i x) (fun iL2 x H locs ls => HP G A s.heap (w_O8 G g V) H locs ∧ lv_has ls 7 [(5, .int (nI iL2)), (4, .int x), (0, .ref (g 0)), (1, .int x0), (2, .int x1), (3, .int x2)]) (fun iL2 x H locs ls hI hX => ?_) (fun n iL2 x hI ihL2 H locs ls hX => ?_) (cN (V.2.1 0)) 0 ((V.1 5) (((27 : Int32) * x0) + (23 : Int32)).toNatClampNeg) _ _ _ ⟨Nat.add_zero _, hSFL2.symm, hDlL2⟩ ⟨hH, lv_sub hl [0, 1, 2, 3, 4, 5] rfl⟩
    · obtain ⟨L2a, exL2a⟩ : ∃ z, z = x := ⟨_, rfl⟩
      subst exL2a
      have hH : HP G A s.heap (w_O8 G g V) H locs := hX.1
      have hl : lv_has ls 7 [(5, .int (nI iL2)), (4, .int L2a), (0, .ref (g 0)), (1, .int x0), (2, .int x1), (3, .int x2)] := hX.2
      obtain ⟨hiL2, hs, _⟩ := hI
      have hiL2 : iL2 = (cN (V.2.1 0)) := by omega
      refine lv_iload hx hb dX8_pointsBy_17 (lv_at hl 0 rfl) ?_
      refine lv_aload_n hx hb dX8_pointsBy_19 rfl (lv_at hl 2 rfl) ?_
      refine kb_get (v := .int (V.2.1 0)) hx hb hts hin8 hown hK hH 0 rfl rfl rfl 0 (by decide) (hts (.fieldLink RX8 53 "CockWarModel" "cocks" "I") (List.mem_of_getElem? (i := 2) rfl)) (fun _ h9 => h9) rfl dX8_pointsBy_20 ?_
      refine lv_icmp_ge (tgt := 137) hx hb dX8_pointsBy_23 (by decide) (fun _ => ?_) (fun c => absurd (cN_end hiL2) c)
      exact EXL2 _ _ _ ⟨by subst hs; exact hH, by subst hs; exact lv_sub hl [1] rfl⟩
    · obtain ⟨L2a, exL2a⟩ : ∃ z, z = x := ⟨_, rfl⟩
      subst exL2a
      have hH : HP G A s.heap (w_O8 G g V) H locs := hX.1
      have hl : lv_has ls 7 [(5, .int (nI iL2)), (4, .int L2a), (0, .ref (g 0)), (1, .int x0), (2, .int x1), (3, .int x2)] := hX.2
      obtain ⟨hiL2, hs, hDi⟩ := hI
      obtain ⟨hD, hDn⟩ := hDi
      have hD : (vp_in (((3 : Int32) * x1) + (1 : Int32)) 12 ∧ (vp_in ((((27 : Int32) * x0) + (6 : Int32)) + (nI iL2)) 54 ∧ ((¬ (((V.1 4) (((3 : Int32) * x1) + (1 : Int32)).toNatClampNeg) ≤ ((V.1 5) ((((27 : Int32) * x0) + (6 : Int32)) + (nI iL2)).toNatClampNeg)) → ((f_X8_has x2 (nI iL2)) = 0 → (vp_in ((3 : Int32) * x1) 12 ∧ (d_X8_isSheltered V x0 (nI iL2) ((V.1 4) ((3 : Int32) * x1).toNatClampNeg))))) ∧ (kAp ((if ((V.1 4) (((3 : Int32) * x1) + (1 : Int32)).toNatClampNeg) ≤ ((V.1 5) ((((27 : Int32) * x0) + (6 : Int32)) + (nI iL2)).toNatClampNeg) then (0 : Int32) else (if (f_X8_has x2 (nI iL2)) = 0 then (if (f_X8_isSheltered V x0 (nI iL2) ((V.1 4) ((3 : Int32) * x1).toNatClampNeg)) = 0 then (1 : Int32) else (0 : Int32)) else (0 : Int32))) : Int32) (fun v8 => (¬ (v8 = 0) → vp_in ((3 : Int32) * x1) 12)))))) := hD
      have hltL2 : iL2 < (cN (V.2.1 0)) := by omega
      obtain ⟨BVL2, hBd⟩ : ∃ z, (f_X8_pointsBy_L2 V x0 x1 x2) iL2 L2a = z := ⟨_, rfl⟩
      have hs : lpu (f_X8_pointsBy_L2 V x0 x1 x2) n (iL2 + 1) BVL2 = SFL2 := by rw [← hBd]; exact hs
      have hDn : lpuD (f_X8_pointsBy_L2 V x0 x1 x2) (d_X8_pointsBy_L2 V x0 x1 x2) n (iL2 + 1) BVL2 := by rw [← hBd]; exact hDn
      have hBL2 : (kAp ((if ((V.1 4) (((3 : Int32) * x1) + (1 : Int32)).toNatClampNeg) ≤ ((V.1 5) ((((27 : Int32) * x0) + (6 : Int32)) + (nI iL2)).toNatClampNeg) then (0 : Int32) else (if (f_X8_has x2 (nI iL2)) = 0 then (if (f_X8_isSheltered V x0 (nI iL2) ((V.1 4) ((3 : Int32) * x1).toNatClampNeg)) = 0 then (1 : Int32) else (0 : Int32)) else (0 : Int32))) : Int32) (fun v8 => (if v8 = 0 then L2a else (if ((V.1 4) ((3 : Int32) * x1).toNatClampNeg) = (1 : Int32) then (L2a ||| ((1 : Int32) <<< ((nI iL2) &&& 31))) else (L2a &&& (((1 : Int32) <<< ((nI iL2) &&& 31)) ^^^ (-1 : Int32))))))) = BVL2 := hBd
      refine lv_iload hx hb dX8_pointsBy_17 (lv_at hl 0 rfl) ?_
      refine lv_aload_n hx hb dX8_pointsBy_19 rfl (lv_at hl 2 rfl) ?_
      refine kb_get (v := .int (V.2.1 0)) hx hb hts hin8 hown hK hH 0 rfl rfl rfl 0 (by decide) (hts (.fieldLink RX8 53 "CockWarModel" "cocks" "I") (List.mem_of_getElem? (i := 2) rfl)) (fun _ h9 => h9) rfl dX8_pointsBy_20 ?_
      refine lv_icmp_ge (tgt := 137) hx hb dX8_pointsBy_23 (by decide) (fun c => absurd c (cN_ge hltL2)) (fun c3 => ?_)
      refine lv_aload_n hx hb dX8_pointsBy_26 rfl (lv_at hl 2 rfl) ?_
      refine kb_get (v := .ref (g 5)) hx hb hts hin8 hown hK hH 0 rfl rfl rfl 4 (by decide) (hts (.fieldLink RX8 16 "CockWarModel" "wind" "[I") (List.mem_of_getElem? (i := 3) rfl)) (fun _ h9 => h9) rfl dX8_pointsBy_27 ?_
      refine lv_iconst (v := 3) hx hb dX8_pointsBy_30 (by decide) ?_
      refine lv_iload_n hx hb dX8_pointsBy_31 rfl (lv_at hl 4 rfl) ?_
      refine lv_imul hx hb dX8_pointsBy_32 ?_
      refine lv_iconst (v := 1) hx hb dX8_pointsBy_33 (by decide) ?_
      refine lv_iadd hx hb dX8_pointsBy_34 ?_
      obtain ⟨hz4, hD⟩ := hD
      refine kb_iald hx hb hK hH 3 rfl hz4 dX8_pointsBy_35 ?_
      refine lv_aload_n hx hb dX8_pointsBy_36 rfl (lv_at hl 2 rfl) ?_
      refine kb_get (v := .ref (g 6)) hx hb hts hin8 hown hK hH 0 rfl rfl rfl 5 (by decide) (hts (.fieldLink RX8 19 "CockWarModel" "now" "[I") (List.mem_of_getElem? (i := 1) rfl)) (fun _ h9 => h9) rfl dX8_pointsBy_37 ?_
      refine lv_bipush (v := 27) hx hb dX8_pointsBy_40 (by decide) ?_
      refine lv_iload_n hx hb dX8_pointsBy_42 rfl (lv_at hl 3 rfl) ?_
      refine lv_imul hx hb dX8_pointsBy_43 ?_
      refine lv_bipush (v := 6) hx hb dX8_pointsBy_44 (by decide) ?_
      refine lv_iadd hx hb dX8_pointsBy_46 ?_
      refine lv_iload hx hb dX8_pointsBy_47 (lv_at hl 0 rfl) ?_
      refine lv_iadd hx hb dX8_pointsBy_49 ?_
      obtain ⟨hz5, hD⟩ := hD
      refine kb_iald hx hb hK hH 4 rfl hz5 dX8_pointsBy_50 ?_
      obtain ⟨v8, ev8⟩ : ∃ z : Int32, (if ((V.1 4) (((3 : Int32) * x1) + (1 : Int32)).toNatClampNeg) ≤ ((V.1 5) ((((27 : Int32) * x0) + (6 : Int32)) + (nI iL2)).toNatClampNeg) then (0 : Int32) else (if (f_X8_has x2 (nI iL2)) = 0 then (if (f_X8_isSheltered V x0 (nI iL2) ((V.1 4) ((3 : Int32) * x1).toNatClampNeg)) = 0 then (1 : Int32) else (0 : Int32)) else (0 : Int32))) = z := ⟨_, rfl⟩
      have hBL2 := kAp_eq hBL2 ev8.symm
      obtain ⟨hDr, hD⟩ := hD
      have hD := kAp_D hD ev8.symm
      refine kb_cut (fun H locs ls => HP G A s.heap (w_O8 G g V) H locs ∧ lv_has ls 7 [(5, .int (nI iL2)), (4, .int L2a), (0, .ref (g 0)), (1, .int x0), (2, .int x1), (3, .int x2)]) 86 [.int v8] (fun u6 => ?_) (fun H locs ls hX => ?_)
      · have hD := hDr
        refine lv_icmp_le (tgt := 85) hx hb dX8_pointsBy_51 (by decide) (fun c9 => ?_) (fun c9 => ?_)
        · rw [if_pos c9] at ev8
          refine lv_iconst (v := 0) hx hb dX8_pointsBy_85 (by decide) ?_
          subst ev8
          exact u6 _ _ _ ⟨hH, lv_sub hl [0, 1, 2, 3, 4, 5] rfl⟩
        · have hD := hD c9
          rw [if_neg c9] at ev8
          refine lv_iload_n hx hb dX8_pointsBy_54 rfl (lv_at hl 5 rfl) ?_
          refine lv_iload hx hb dX8_pointsBy_55 (lv_at hl 0 rfl) ?_
          refine kb_ci hH hA [] (Wc := ([] : List va_W)) (Wc' := ([] : List va_W)) (WS' := (w_O8 G g V)) rfl (by decide) rfl rfl (va_runS (As := [.int x2, .int (nI iL2)]) (rest := []) ⟨hx, hb, hml, hown, hts⟩ (c_X8_has l G x2 (nI iL2) rfl _) (va_cwS 2 hts gX8_pointsBy_X8_has rfl rfl rfl hd_X8_has ⟨Nat.le_of_ble_eq_true rfl, Nat.le_of_ble_eq_true rfl⟩) (kb_preS hH hK hN [] rfl (by decide)) rfl rfl hl.1 rfl (lv_room (Nat.le_of_ble_eq_true rfl)) dX8_pointsBy_57 ⟨Nat.le_of_ble_eq_true rfl, Nat.le_of_ble_eq_true rfl⟩) (fun H locs hH => ?_)
          refine lv_if_ne (tgt := 85) hx hb dX8_pointsBy_60 (by decide) (fun c10 => ?_) (fun c10 => ?_)
          · rw [if_neg c10] at ev8
            refine lv_iconst (v := 0) hx hb dX8_pointsBy_85 (by decide) ?_
            subst ev8
            exact u6 _ _ _ ⟨hH, lv_sub hl [0, 1, 2, 3, 4, 5] rfl⟩
          · have hD := hD c10
            rw [if_pos c10] at ev8
            refine lv_aload_n hx hb dX8_pointsBy_63 rfl (lv_at hl 2 rfl) ?_
            refine lv_iload_n hx hb dX8_pointsBy_64 rfl (lv_at hl 3 rfl) ?_
            refine lv_iload hx hb dX8_pointsBy_65 (lv_at hl 0 rfl) ?_
            refine lv_aload_n hx hb dX8_pointsBy_67 rfl (lv_at hl 2 rfl) ?_
            refine kb_get (v := .ref (g 5)) hx hb hts hin8 hown hK hH 0 rfl rfl rfl 4 (by decide) (hts (.fieldLink RX8 16 "CockWarModel" "wind" "[I") (List.mem_of_getElem? (i := 3) rfl)) (fun _ h9 => h9) rfl dX8_pointsBy_68 ?_
            refine lv_iconst (v := 3) hx hb dX8_pointsBy_71 (by decide) ?_
            refine lv_iload_n hx hb dX8_pointsBy_72 rfl (lv_at hl 4 rfl) ?_
            refine lv_imul hx hb dX8_pointsBy_73 ?_
            obtain ⟨hz11, hD⟩ := hD
            refine kb_iald hx hb hK hH 3 rfl hz11 dX8_pointsBy_74 ?_
            have hz12 := hD
            refine kb_ci hH hA [0, 1, 2, 3, 4, 5, 6, 7, 8, 9, 10, 11, 12, 13, 14] (Wc := (w_O8 G g V)) (Wc' := (w_O8 G g V)) (WS' := (w_O8 G g V)) rfl (by decide) rfl rfl (va_runV (As := [.int x0, .int (nI iL2), .int ((V.1 4) ((3 : Int32) * x1).toNatClampNeg)]) (rest := []) ⟨hx, hb, hml, hown, hts⟩ (c_X8_isSheltered l G g V x0 (nI iL2) ((V.1 4) ((3 : Int32) * x1).toNatClampNeg) hz12 rfl _) (cwV 3 hts gX8_pointsBy_X8_isSheltered rfl rfl rfl he_X8_isSheltered ⟨Nat.le_of_ble_eq_true rfl, Nat.le_of_ble_eq_true rfl⟩) (kb_preV hH hK hN [0, 1, 2, 3, 4, 5, 6, 7, 8, 9, 10, 11, 12, 13, 14] rfl (by decide) 0 rfl rfl rfl rfl) rfl rfl hl.1 rfl (lv_room (Nat.le_of_ble_eq_true rfl)) dX8_pointsBy_75 ⟨Nat.le_of_ble_eq_true rfl, Nat.le_of_ble_eq_true rfl⟩) (fun H locs hH => ?_)
            refine lv_if_ne (tgt := 85) hx hb dX8_pointsBy_78 (by decide) (fun c13 => ?_) (fun c13 => ?_)
            · rw [if_neg c13] at ev8
              refine lv_iconst (v := 0) hx hb dX8_pointsBy_85 (by decide) ?_
              subst ev8
              exact u6 _ _ _ ⟨hH, lv_sub hl [0, 1, 2, 3, 4, 5] rfl⟩
            · rw [if_pos c13] at ev8
              refine lv_iconst (v := 1) hx hb dX8_pointsBy_81 (by decide) ?_
              refine lv_goto (tgt := 86) hx hb dX8_pointsBy_82 (by decide) ?_
              subst ev8
              exact u6 _ _ _ ⟨hH, lv_sub hl [0, 1, 2, 3, 4, 5] rfl⟩
      · obtain ⟨hH, hl⟩ := hX
        refine lv_istore (lv' := [(6, .int v8), (5, .int (nI iL2)), (4, .int L2a), (0, .ref (g 0)), (1, .int x0), (2, .int x1), (3, .int x2)]) hx hb dX8_pointsBy_86 hl (by decide) rfl (fun ls hl => ?_)
        refine lv_iload hx hb dX8_pointsBy_88 (lv_at hl 0 rfl) ?_
        refine lv_if_ne (tgt := 98) hx hb dX8_pointsBy_90 (by decide) (fun c14 => ?_) (fun c14 => ?_)
        · have hD := hD c14
          rw [if_neg c14] at hBL2
          refine lv_aload_n hx hb dX8_pointsBy_98 rfl (lv_at hl 3 rfl) ?_
          refine kb_get (v := .ref (g 5)) hx hb hts hin8 hown hK hH 0 rfl rfl rfl 4 (by decide) (hts (.fieldLink RX8 16 "CockWarModel" "wind" "[I") (List.mem_of_getElem? (i := 3) rfl)) (fun _ h9 => h9) rfl dX8_pointsBy_99 ?_
          refine lv_iconst (v := 3) hx hb dX8_pointsBy_102 (by decide) ?_
          refine lv_iload_n hx hb dX8_pointsBy_103 rfl (lv_at hl 5 rfl) ?_
          refine lv_imul hx hb dX8_pointsBy_104 ?_
          have hz15 := hD
          refine kb_iald hx hb hK hH 3 rfl hz15 dX8_pointsBy_105 ?_
          refine lv_iconst (v := 1) hx hb dX8_pointsBy_106 (by decide) ?_
          refine lv_icmp_ne (tgt := 120) hx hb dX8_pointsBy_107 (by decide) (fun c16 => ?_) (fun c16 => ?_)
          · rw [if_neg c16] at hBL2
            refine lv_iload hx hb dX8_pointsBy_120 (lv_at hl 2 rfl) ?_
            refine lv_iconst (v := 1) hx hb dX8_pointsBy_122 (by decide) ?_
            refine lv_iload hx hb dX8_pointsBy_123 (lv_at hl 1 rfl) ?_
            refine lv_ishl hx hb dX8_pointsBy_125 ?_
            refine lv_iconst (v := -1) hx hb dX8_pointsBy_126 (by decide) ?_
            refine lv_ixor hx hb dX8_pointsBy_127 ?_
            refine lv_iand hx hb dX8_pointsBy_128 ?_
            refine lv_istore (lv' := [(4, .int (L2a &&& (((1 : Int32) <<< ((nI iL2) &&& 31)) ^^^ (-1 : Int32)))), (6, .int v8), (5, .int (nI iL2)), (0, .ref (g 0)), (1, .int x0), (2, .int x1), (3, .int x2)]) hx hb dX8_pointsBy_129 hl (by decide) rfl (fun ls hl => ?_)
            refine lv_iinc (v := (nI (iL2 + 1))) (lv' := [(5, .int (nI (iL2 + 1))), (4, .int (L2a &&& (((1 : Int32) <<< ((nI iL2) &&& 31)) ^^^ (-1 : Int32)))), (6, .int v8), (0, .ref (g 0)), (1, .int x0), (2, .int x1), (3, .int x2)]) hx hb dX8_pointsBy_131 hl (k := 2) rfl (nI_1 _) (by decide) rfl (fun ls hl => ?_)
            refine lv_goto (tgt := 17) hx hb dX8_pointsBy_134 (by decide) ?_
            subst hBL2
            exact ihL2 _ _ _ _ ⟨by omega, hs, hDn⟩ ⟨hH, lv_sub hl [0, 1, 3, 4, 5, 6] rfl⟩
          · rw [if_pos c16] at hBL2
            refine lv_iload hx hb dX8_pointsBy_110 (lv_at hl 2 rfl) ?_
            refine lv_iconst (v := 1) hx hb dX8_pointsBy_112 (by decide) ?_
            refine lv_iload hx hb dX8_pointsBy_113 (lv_at hl 1 rfl) ?_
            refine lv_ishl hx hb dX8_pointsBy_115 ?_
            refine lv_ior hx hb dX8_pointsBy_116 ?_
            refine lv_goto (tgt := 129) hx hb dX8_pointsBy_117 (by decide) ?_
            refine lv_istore (lv' := [(4, .int (L2a ||| ((1 : Int32) <<< ((nI iL2) &&& 31)))), (6, .int v8), (5, .int (nI iL2)), (0, .ref (g 0)), (1, .int x0), (2, .int x1), (3, .int x2)]) hx hb dX8_pointsBy_129 hl (by decide) rfl (fun ls hl => ?_)
            refine lv_iinc (v := (nI (iL2 + 1))) (lv' := [(5, .int (nI (iL2 + 1))), (4, .int (L2a ||| ((1 : Int32) <<< ((nI iL2) &&& 31)))), (6, .int v8), (0, .ref (g 0)), (1, .int x0), (2, .int x1), (3, .int x2)]) hx hb dX8_pointsBy_131 hl (k := 2) rfl (nI_1 _) (by decide) rfl (fun ls hl => ?_)
            refine lv_goto (tgt := 17) hx hb dX8_pointsBy_134 (by decide) ?_
            subst hBL2
            exact ihL2 _ _ _ _ ⟨by omega, hs, hDn⟩ ⟨hH, lv_sub hl [0, 1, 3, 4, 5, 6] rfl⟩
        · rw [if_pos c14] at hBL2
          refine lv_iload hx hb dX8_pointsBy_93 (lv_at hl 2 rfl) ?_
          refine lv_goto (tgt := 129) hx hb dX8_pointsBy_95 (by decide) ?_
          refine lv_istore (lv' := [(4, .int L2a), (6, .int v8), (5, .int (nI iL2)), (0, .ref (g 0)), (1, .int x0), (2, .int x1), (3, .int x2)]) hx hb dX8_pointsBy_129 hl (by decide) rfl (fun ls hl => ?_)
          refine lv_iinc (v := (nI (iL2 + 1))) (lv' := [(5, .int (nI (iL2 + 1))), (4, .int L2a), (6, .int v8), (0, .ref (g 0)), (1, .int x0), (2, .int x1), (3, .int x2)]) hx hb dX8_pointsBy_131 hl (k := 2) rfl (nI_1 _) (by decide) rfl (fun ls hl => ?_)
          refine lv_goto (tgt := 17) hx hb dX8_pointsBy_134 (by decide) ?_
          subst hBL2
          exact ihL2 _ _ _ _ ⟨by omega, hs, hDn⟩ ⟨hH, lv_sub hl [0, 1, 3, 4, 5, 6] rfl⟩
  · obtain ⟨hH, hl⟩ := hX
    refine lv_iload hx hb dX8_pointsBy_137 (lv_at hl 0 rfl) ?_
    subst hF
    exact kb_iret hx hb hr hH rfl rfl dX8_pointsBy_139 hlocks
def f_X8_weightOf_L1 (V : OV) (x0 : Int32) (x1 : Int32) (x2 : Int32) (iL1 : Nat) (s : (Int32)) : (Int32) := (kAp ((if ((((V.1 5) (((27 : Int32) * x0) + (22 : Int32)).toNatClampNeg) >>> ((nI iL1) &&& 31)) &&& (1 : Int32)) = x1 then (1 : Int32) else (0 : Int32)) : Int32) (fun v6 => (if v6 = 0 then (s + (0 : Int32)) else (kAp ((if x1 = 0 then (1 : Int32) else (0 : Int32)) : Int32) (fun v11 => (if (f_X8_has x2 (nI iL1)) = v11 then (s + ((V.1 3) (nI iL1).toNatClampNeg)) else (s + (0 : Int32))))))))
def d_X8_weightOf_L1 (V : OV) (x0 : Int32) (x1 : Int32) (x2 : Int32) (iL1 : Nat) (s : (Int32)) : Prop := (vp_in (((27 : Int32) * x0) + (22 : Int32)) 54 ∧ (kAp ((if ((((V.1 5) (((27 : Int32) * x0) + (22 : Int32)).toNatClampNeg) >>> ((nI iL1) &&& 31)) &&& (1 : Int32)) = x1 then (1 : Int32) else (0 : Int32)) : Int32) (fun v6 => (¬ (v6 = 0) → (kAp ((if x1 = 0 then (1 : Int32) else (0 : Int32)) : Int32) (fun v11 => ((f_X8_has x2 (nI iL1)) = v11 → vp_in (nI iL1) 6)))))))
def f_X8_weightOf (V : OV) (x0 : Int32) (x1 : Int32) (x2 : Int32) : (Int32) := (kAp (lpu (f_X8_weightOf_L1 V x0 x1 x2) (cN (V.2.1 0)) 0 (0 : Int32)) (fun z15 => z15))
def d_X8_weightOf (V : OV) (x0 : Int32) (x1 : Int32) (x2 : Int32) : Prop := (lpuD (f_X8_weightOf_L1 V x0 x1 x2) (d_X8_weightOf_L1 V x0 x1 x2) (cN (V.2.1 0)) 0 (0 : Int32))
set_option maxHeartbeats 4000000 in
set_option maxRecDepth 100000 in
theorem c_X8_weightOf (l : Launch) (G : Ge) (g : Nat → Nat) (V : OV) (x0 : Int32) (x1 : Int32) (x2 : Int32) (hD : d_X8_weightOf V x0 x1 x2) {F : (Int32)} (hF : f_X8_weightOf V x0 x1 x2 = F) : CI l yX8_weightOf wsX8_weightOf { frames := 1, cells := 0, slots := 0, locals := 21 } [.ref (g 0), .int x0, .int x1, .int x2] G (w_O8 G g V) (w_O8 G g V) F := by
  intro sz
  refine Met.ofW (cc := cX8_weightOf) (maxL := 7) (ret := (some .int)) (by decide) rfl ?_
  intro p e s m args below meth c s₁ B hml hv
  obtain ⟨rfl, hpre⟩ := hv
  obtain ⟨hsz, hH, hK, hN, hA⟩ := kb_start hpre
  subst hsz
  have hx := B.exec
  have hb := B.bytes
  have hr := B.returns
  have hts := atoms_spec (ws := wsX8_weightOf) B.pre
  have hown : s.vm.findClass RX8 = some m.cls := findClass_of_methodNamed B.named
  have hlocks := B.notSynchronized
  generalize hAe : va_A (List.flatten (w_O8 G g V)) s.heap.size = A at hH hA ⊢
  have hl := lv_entry ([.ref (g 0), .int x0, .int x1, .int x2]) (n := 7) (Nat.le_of_ble_eq_true rfl)
  rw [lg_entry_eq]
  generalize (lg_sl ([.ref (g 0), .int x0, .int x1, .int x2]) ++ List.replicate (7 - (lg_sl ([.ref (g 0), .int x0, .int x1, .int x2])).length) Slot.unset).toArray = ls at hl ⊢
  have hl : lv_has ls 7 [(0, .ref (g 0)), (1, .int x0), (2, .int x1), (3, .int x2)] := hl
  have hH : HP G A s.heap (w_O8 G g V) s.heap [] := hH
  have hin8 : ∀ w ∈ u_ws RX8 TX8 31, w ∈ wsX8_weightOf := fun w h => List.mem_cons_of_mem _ (List.mem_append_right _ h)
  have hF : (kAp (lpu (f_X8_weightOf_L1 V x0 x1 x2) (cN (V.2.1 0)) 0 (0 : Int32)) (fun z15 => z15)) = F := hF
  have hD : (lpuD (f_X8_weightOf_L1 V x0 x1 x2) (d_X8_weightOf_L1 V x0 x1 x2) (cN (V.2.1 0)) 0 (0 : Int32)) := hD
  refine lv_iconst (v := 0) hx hb dX8_weightOf_0 (by decide) ?_
  refine lv_istore (lv' := [(4, .int (0 : Int32)), (0, .ref (g 0)), (1, .int x0), (2, .int x1), (3, .int x2)]) hx hb dX8_weightOf_1 hl (by decide) rfl (fun ls hl => ?_)
  refine lv_iconst (v := 0) hx hb dX8_weightOf_3 (by decide) ?_
  refine lv_istore (lv' := [(5, .int (0 : Int32)), (4, .int (0 : Int32)), (0, .ref (g 0)), (1, .int x0), (2, .int x1), (3, .int x2)]) hx hb dX8_weightOf_4 hl (by decide) rfl (fun ls hl => ?_)
  have hDlL1 := hD
  obtain ⟨SFL1, hSFL1⟩ : ∃ z, z = (lpu (f_X8_weightOf_L1 V x0 x1 x2) (cN (V.2.1 0)) 0 (0 : Int32)) := ⟨_, rfl⟩
  have hF := kAp_eq hF hSFL1
  refine kb_cut (fun H locs ls => HP G A s.heap (w_O8 G g V) H locs ∧ lv_has ls 7 [(4, .int SFL1)]) 88 [] (fun EXL1 => ?_) (fun H locs ls hX => ?_)
  · refine kb_loop (σ := (Int32)) (fun n i x => n + i = (cN (V.2.1 0)) ∧ lpu (f_X8_weightOf_L1 V x0 x1 x2) n i x = SFL1 ∧ lpuD (f_X8_weightOf_L1 V x0 x1 x2) (d_X8_weightOf_L1 V x0 x1 x2) n i x) (fun iL1 x H locs ls => HP G A s.heap (w_O8 G g V) H locs ∧ lv_has ls 7 [(5, .int (nI iL1)), (4, .int x), (0, .ref (g 0)), (1, .int x0), (2, .int x1), (3, .int x2)]) (fun iL1 x H locs ls hI hX => ?_) (fun n iL1 x hI ihL1 H locs ls hX => ?_) (cN (V.2.1 0)) 0 (0 : Int32) _ _ _ ⟨Nat.add_zero _, hSFL1.symm, hDlL1⟩ ⟨hH, lv_sub hl [0, 1, 2, 3, 4, 5] rfl⟩
    · obtain ⟨L1a, exL1a⟩ : ∃ z, z = x := ⟨_, rfl⟩
      subst exL1a
      have hH : HP G A s.heap (w_O8 G g V) H locs := hX.1
      have hl : lv_has ls 7 [(5, .int (nI iL1)), (4, .int L1a), (0, .ref (g 0)), (1, .int x0), (2, .int x1), (3, .int x2)] := hX.2
      obtain ⟨hiL1, hs, _⟩ := hI
      have hiL1 : iL1 = (cN (V.2.1 0)) := by omega
      refine lv_iload hx hb dX8_weightOf_6 (lv_at hl 0 rfl) ?_
      refine lv_aload_n hx hb dX8_weightOf_8 rfl (lv_at hl 2 rfl) ?_
      refine kb_get (v := .int (V.2.1 0)) hx hb hts hin8 hown hK hH 0 rfl rfl rfl 0 (by decide) (hts (.fieldLink RX8 53 "CockWarModel" "cocks" "I") (List.mem_of_getElem? (i := 1) rfl)) (fun _ h9 => h9) rfl dX8_weightOf_9 ?_
      refine lv_icmp_ge (tgt := 88) hx hb dX8_weightOf_12 (by decide) (fun _ => ?_) (fun c => absurd (cN_end hiL1) c)
      exact EXL1 _ _ _ ⟨by subst hs; exact hH, by subst hs; exact lv_sub hl [1] rfl⟩
    · obtain ⟨L1a, exL1a⟩ : ∃ z, z = x := ⟨_, rfl⟩
      subst exL1a
      have hH : HP G A s.heap (w_O8 G g V) H locs := hX.1
      have hl : lv_has ls 7 [(5, .int (nI iL1)), (4, .int L1a), (0, .ref (g 0)), (1, .int x0), (2, .int x1), (3, .int x2)] := hX.2
      obtain ⟨hiL1, hs, hDi⟩ := hI
      obtain ⟨hD, hDn⟩ := hDi
      have hD : (vp_in (((27 : Int32) * x0) + (22 : Int32)) 54 ∧ (kAp ((if ((((V.1 5) (((27 : Int32) * x0) + (22 : Int32)).toNatClampNeg) >>> ((nI iL1) &&& 31)) &&& (1 : Int32)) = x1 then (1 : Int32) else (0 : Int32)) : Int32) (fun v6 => (¬ (v6 = 0) → (kAp ((if x1 = 0 then (1 : Int32) else (0 : Int32)) : Int32) (fun v11 => ((f_X8_has x2 (nI iL1)) = v11 → vp_in (nI iL1) 6))))))) := hD
      have hltL1 : iL1 < (cN (V.2.1 0)) := by omega
      obtain ⟨BVL1, hBd⟩ : ∃ z, (f_X8_weightOf_L1 V x0 x1 x2) iL1 L1a = z := ⟨_, rfl⟩
      have hs : lpu (f_X8_weightOf_L1 V x0 x1 x2) n (iL1 + 1) BVL1 = SFL1 := by rw [← hBd]; exact hs
      have hDn : lpuD (f_X8_weightOf_L1 V x0 x1 x2) (d_X8_weightOf_L1 V x0 x1 x2) n (iL1 + 1) BVL1 := by rw [← hBd]; exact hDn
      have hBL1 : (kAp ((if ((((V.1 5) (((27 : Int32) * x0) + (22 : Int32)).toNatClampNeg) >>> ((nI iL1) &&& 31)) &&& (1 : Int32)) = x1 then (1 : Int32) else (0 : Int32)) : Int32) (fun v6 => (if v6 = 0 then (L1a + (0 : Int32)) else (kAp ((if x1 = 0 then (1 : Int32) else (0 : Int32)) : Int32) (fun v11 => (if (f_X8_has x2 (nI iL1)) = v11 then (L1a + ((V.1 3) (nI iL1).toNatClampNeg)) else (L1a + (0 : Int32)))))))) = BVL1 := hBd
      refine lv_iload hx hb dX8_weightOf_6 (lv_at hl 0 rfl) ?_
      refine lv_aload_n hx hb dX8_weightOf_8 rfl (lv_at hl 2 rfl) ?_
      refine kb_get (v := .int (V.2.1 0)) hx hb hts hin8 hown hK hH 0 rfl rfl rfl 0 (by decide) (hts (.fieldLink RX8 53 "CockWarModel" "cocks" "I") (List.mem_of_getElem? (i := 1) rfl)) (fun _ h9 => h9) rfl dX8_weightOf_9 ?_
      refine lv_icmp_ge (tgt := 88) hx hb dX8_weightOf_12 (by decide) (fun c => absurd c (cN_ge hltL1)) (fun c2 => ?_)
      refine lv_aload_n hx hb dX8_weightOf_15 rfl (lv_at hl 2 rfl) ?_
      refine kb_get (v := .ref (g 6)) hx hb hts hin8 hown hK hH 0 rfl rfl rfl 5 (by decide) (hts (.fieldLink RX8 19 "CockWarModel" "now" "[I") (List.mem_of_getElem? (i := 2) rfl)) (fun _ h9 => h9) rfl dX8_weightOf_16 ?_
      refine lv_bipush (v := 27) hx hb dX8_weightOf_19 (by decide) ?_
      refine lv_iload_n hx hb dX8_weightOf_21 rfl (lv_at hl 3 rfl) ?_
      refine lv_imul hx hb dX8_weightOf_22 ?_
      refine lv_bipush (v := 22) hx hb dX8_weightOf_23 (by decide) ?_
      refine lv_iadd hx hb dX8_weightOf_25 ?_
      obtain ⟨hz3, hD⟩ := hD
      refine kb_iald hx hb hK hH 4 rfl hz3 dX8_weightOf_26 ?_
      refine lv_iload hx hb dX8_weightOf_27 (lv_at hl 0 rfl) ?_
      refine lv_ishr hx hb dX8_weightOf_29 ?_
      refine lv_iconst (v := 1) hx hb dX8_weightOf_30 (by decide) ?_
      refine lv_iand hx hb dX8_weightOf_31 ?_
      refine lv_iload_n hx hb dX8_weightOf_32 rfl (lv_at hl 4 rfl) ?_
      obtain ⟨v6, ev6⟩ : ∃ z : Int32, (if ((((V.1 5) (((27 : Int32) * x0) + (22 : Int32)).toNatClampNeg) >>> ((nI iL1) &&& 31)) &&& (1 : Int32)) = x1 then (1 : Int32) else (0 : Int32)) = z := ⟨_, rfl⟩
      have hBL1 := kAp_eq hBL1 ev6.symm
      have hD := kAp_D hD ev6.symm
      refine kb_cut (fun H locs ls => HP G A s.heap (w_O8 G g V) H locs ∧ lv_has ls 7 [(5, .int (nI iL1)), (4, .int L1a), (0, .ref (g 0)), (1, .int x0), (2, .int x1), (3, .int x2)]) 41 [.int v6] (fun u4 => ?_) (fun H locs ls hX => ?_)
      · refine lv_icmp_ne (tgt := 40) hx hb dX8_weightOf_33 (by decide) (fun c7 => ?_) (fun c7 => ?_)
        · rw [if_neg c7] at ev6
          refine lv_iconst (v := 0) hx hb dX8_weightOf_40 (by decide) ?_
          subst ev6
          exact u4 _ _ _ ⟨hH, lv_sub hl [0, 1, 2, 3, 4, 5] rfl⟩
        · rw [if_pos c7] at ev6
          refine lv_iconst (v := 1) hx hb dX8_weightOf_36 (by decide) ?_
          refine lv_goto (tgt := 41) hx hb dX8_weightOf_37 (by decide) ?_
          subst ev6
          exact u4 _ _ _ ⟨hH, lv_sub hl [0, 1, 2, 3, 4, 5] rfl⟩
      · obtain ⟨hH, hl⟩ := hX
        refine lv_istore (lv' := [(6, .int v6), (5, .int (nI iL1)), (4, .int L1a), (0, .ref (g 0)), (1, .int x0), (2, .int x1), (3, .int x2)]) hx hb dX8_weightOf_41 hl (by decide) rfl (fun ls hl => ?_)
        refine lv_iload hx hb dX8_weightOf_43 (lv_at hl 2 rfl) ?_
        refine lv_iload hx hb dX8_weightOf_45 (lv_at hl 0 rfl) ?_
        refine lv_if_eq (tgt := 78) hx hb dX8_weightOf_47 (by decide) (fun c8 => ?_) (fun c8 => ?_)
        · rw [if_pos c8] at hBL1
          refine lv_iconst (v := 0) hx hb dX8_weightOf_78 (by decide) ?_
          refine lv_iadd hx hb dX8_weightOf_79 ?_
          refine lv_istore (lv' := [(4, .int (L1a + (0 : Int32))), (6, .int v6), (5, .int (nI iL1)), (0, .ref (g 0)), (1, .int x0), (2, .int x1), (3, .int x2)]) hx hb dX8_weightOf_80 hl (by decide) rfl (fun ls hl => ?_)
          refine lv_iinc (v := (nI (iL1 + 1))) (lv' := [(5, .int (nI (iL1 + 1))), (4, .int (L1a + (0 : Int32))), (6, .int v6), (0, .ref (g 0)), (1, .int x0), (2, .int x1), (3, .int x2)]) hx hb dX8_weightOf_82 hl (k := 2) rfl (nI_1 _) (by decide) rfl (fun ls hl => ?_)
          refine lv_goto (tgt := 6) hx hb dX8_weightOf_85 (by decide) ?_
          subst hBL1
          exact ihL1 _ _ _ _ ⟨by omega, hs, hDn⟩ ⟨hH, lv_sub hl [0, 1, 3, 4, 5, 6] rfl⟩
        · have hD := hD c8
          rw [if_neg c8] at hBL1
          refine lv_iload_n hx hb dX8_weightOf_50 rfl (lv_at hl 6 rfl) ?_
          refine lv_iload hx hb dX8_weightOf_51 (lv_at hl 1 rfl) ?_
          refine kb_ci hH hA [] (Wc := ([] : List va_W)) (Wc' := ([] : List va_W)) (WS' := (w_O8 G g V)) rfl (by decide) rfl rfl (va_runS (As := [.int x2, .int (nI iL1)]) (rest := [.int L1a]) ⟨hx, hb, hml, hown, hts⟩ (c_X8_has l G x2 (nI iL1) rfl _) (va_cwS 2 hts gX8_weightOf_X8_has rfl rfl rfl hd_X8_has ⟨Nat.le_of_ble_eq_true rfl, Nat.le_of_ble_eq_true rfl⟩) (kb_preS hH hK hN [] rfl (by decide)) rfl rfl hl.1 rfl (lv_room (Nat.le_of_ble_eq_true rfl)) dX8_weightOf_53 ⟨Nat.le_of_ble_eq_true rfl, Nat.le_of_ble_eq_true rfl⟩) (fun H locs hH => ?_)
          refine lv_iload_n hx hb dX8_weightOf_56 rfl (lv_at hl 5 rfl) ?_
          obtain ⟨v11, ev11⟩ : ∃ z : Int32, (if x1 = 0 then (1 : Int32) else (0 : Int32)) = z := ⟨_, rfl⟩
          have hBL1 := kAp_eq hBL1 ev11.symm
          have hD := kAp_D hD ev11.symm
          refine kb_cut (fun H locs ls => HP G A s.heap (w_O8 G g V) H locs ∧ lv_has ls 7 [(5, .int (nI iL1)), (0, .ref (g 0)), (1, .int x0), (2, .int x1), (3, .int x2)]) 65 [.int v11, .int (f_X8_has x2 (nI iL1)), .int L1a] (fun u9 => ?_) (fun H locs ls hX => ?_)
          · refine lv_if_ne (tgt := 64) hx hb dX8_weightOf_57 (by decide) (fun c12 => ?_) (fun c12 => ?_)
            · rw [if_neg c12] at ev11
              refine lv_iconst (v := 0) hx hb dX8_weightOf_64 (by decide) ?_
              subst ev11
              exact u9 _ _ _ ⟨hH, lv_sub hl [1, 3, 4, 5, 6] rfl⟩
            · rw [if_pos c12] at ev11
              refine lv_iconst (v := 1) hx hb dX8_weightOf_60 (by decide) ?_
              refine lv_goto (tgt := 65) hx hb dX8_weightOf_61 (by decide) ?_
              subst ev11
              exact u9 _ _ _ ⟨hH, lv_sub hl [1, 3, 4, 5, 6] rfl⟩
          · obtain ⟨hH, hl⟩ := hX
            refine lv_icmp_ne (tgt := 78) hx hb dX8_weightOf_65 (by decide) (fun c13 => ?_) (fun c13 => ?_)
            · rw [if_neg c13] at hBL1
              refine lv_iconst (v := 0) hx hb dX8_weightOf_78 (by decide) ?_
              refine lv_iadd hx hb dX8_weightOf_79 ?_
              refine lv_istore (lv' := [(4, .int (L1a + (0 : Int32))), (5, .int (nI iL1)), (0, .ref (g 0)), (1, .int x0), (2, .int x1), (3, .int x2)]) hx hb dX8_weightOf_80 hl (by decide) rfl (fun ls hl => ?_)
              refine lv_iinc (v := (nI (iL1 + 1))) (lv' := [(5, .int (nI (iL1 + 1))), (4, .int (L1a + (0 : Int32))), (0, .ref (g 0)), (1, .int x0), (2, .int x1), (3, .int x2)]) hx hb dX8_weightOf_82 hl (k := 1) rfl (nI_1 _) (by decide) rfl (fun ls hl => ?_)
              refine lv_goto (tgt := 6) hx hb dX8_weightOf_85 (by decide) ?_
              subst hBL1
              exact ihL1 _ _ _ _ ⟨by omega, hs, hDn⟩ ⟨hH, lv_sub hl [0, 1, 2, 3, 4, 5] rfl⟩
            · have hD := hD c13
              rw [if_pos c13] at hBL1
              refine lv_aload_n hx hb dX8_weightOf_68 rfl (lv_at hl 1 rfl) ?_
              refine kb_get (v := .ref (g 4)) hx hb hts hin8 hown hK hH 0 rfl rfl rfl 3 (by decide) (hts (.fieldLink RX8 13 "CockWarModel" "weight" "[I") (List.mem_of_getElem? (i := 3) rfl)) (fun _ h9 => h9) rfl dX8_weightOf_69 ?_
              refine lv_iload hx hb dX8_weightOf_72 (lv_at hl 0 rfl) ?_
              have hz14 := hD
              refine kb_iald hx hb hK hH 2 rfl hz14 dX8_weightOf_74 ?_
              refine lv_goto (tgt := 79) hx hb dX8_weightOf_75 (by decide) ?_
              refine lv_iadd hx hb dX8_weightOf_79 ?_
              refine lv_istore (lv' := [(4, .int (L1a + ((V.1 3) (nI iL1).toNatClampNeg))), (5, .int (nI iL1)), (0, .ref (g 0)), (1, .int x0), (2, .int x1), (3, .int x2)]) hx hb dX8_weightOf_80 hl (by decide) rfl (fun ls hl => ?_)
              refine lv_iinc (v := (nI (iL1 + 1))) (lv' := [(5, .int (nI (iL1 + 1))), (4, .int (L1a + ((V.1 3) (nI iL1).toNatClampNeg))), (0, .ref (g 0)), (1, .int x0), (2, .int x1), (3, .int x2)]) hx hb dX8_weightOf_82 hl (k := 1) rfl (nI_1 _) (by decide) rfl (fun ls hl => ?_)
              refine lv_goto (tgt := 6) hx hb dX8_weightOf_85 (by decide) ?_
              subst hBL1
              exact ihL1 _ _ _ _ ⟨by omega, hs, hDn⟩ ⟨hH, lv_sub hl [0, 1, 2, 3, 4, 5] rfl⟩
  · obtain ⟨hH, hl⟩ := hX
    refine lv_iload hx hb dX8_weightOf_88 (lv_at hl 0 rfl) ?_
    subst hF
    exact kb_iret hx hb hr hH rfl rfl dX8_weightOf_90 hlocks
def f_X8_brookBy (V : OV) (x0 : Int32) (x1 : Int32) : (Int32) := (if ((f_X8_weightOf V x0 (0 : Int32) x1) - (f_X8_weightOf V x0 (1 : Int32) x1)) ≤ 0 then (if 0 ≤ ((f_X8_weightOf V x0 (0 : Int32) x1) - (f_X8_weightOf V x0 (1 : Int32) x1)) then ((V.1 5) (((27 : Int32) * x0) + (25 : Int32)).toNatClampNeg) else (1 : Int32)) else (0 : Int32))
def d_X8_brookBy (V : OV) (x0 : Int32) (x1 : Int32) : Prop := ((d_X8_weightOf V x0 (0 : Int32) x1) ∧ ((d_X8_weightOf V x0 (1 : Int32) x1) ∧ (((f_X8_weightOf V x0 (0 : Int32) x1) - (f_X8_weightOf V x0 (1 : Int32) x1)) ≤ 0 → (0 ≤ ((f_X8_weightOf V x0 (0 : Int32) x1) - (f_X8_weightOf V x0 (1 : Int32) x1)) → vp_in (((27 : Int32) * x0) + (25 : Int32)) 54))))
set_option maxHeartbeats 4000000 in
set_option maxRecDepth 100000 in
theorem c_X8_brookBy (l : Launch) (G : Ge) (g : Nat → Nat) (V : OV) (x0 : Int32) (x1 : Int32) (hD : d_X8_brookBy V x0 x1) {F : (Int32)} (hF : f_X8_brookBy V x0 x1 = F) : CI l yX8_brookBy wsX8_brookBy { frames := 2, cells := 0, slots := 0, locals := 47 } [.ref (g 0), .int x0, .int x1] G (w_O8 G g V) (w_O8 G g V) F := by
  intro sz
  refine Met.ofW (cc := cX8_brookBy) (maxL := 4) (ret := (some .int)) (by decide) rfl ?_
  intro p e s m args below meth c s₁ B hml hv
  obtain ⟨rfl, hpre⟩ := hv
  obtain ⟨hsz, hH, hK, hN, hA⟩ := kb_start hpre
  subst hsz
  have hx := B.exec
  have hb := B.bytes
  have hr := B.returns
  have hts := atoms_spec (ws := wsX8_brookBy) B.pre
  have hown : s.vm.findClass RX8 = some m.cls := findClass_of_methodNamed B.named
  have hlocks := B.notSynchronized
  generalize hAe : va_A (List.flatten (w_O8 G g V)) s.heap.size = A at hH hA ⊢
  have hl := lv_entry ([.ref (g 0), .int x0, .int x1]) (n := 4) (Nat.le_of_ble_eq_true rfl)
  rw [lg_entry_eq]
  generalize (lg_sl ([.ref (g 0), .int x0, .int x1]) ++ List.replicate (4 - (lg_sl ([.ref (g 0), .int x0, .int x1])).length) Slot.unset).toArray = ls at hl ⊢
  have hl : lv_has ls 4 [(0, .ref (g 0)), (1, .int x0), (2, .int x1)] := hl
  have hH : HP G A s.heap (w_O8 G g V) s.heap [] := hH
  have hin8 : ∀ w ∈ u_ws RX8 TX8 31, w ∈ wsX8_brookBy := fun w h => List.mem_cons_of_mem _ (List.mem_append_right _ h)
  have hF : (if ((f_X8_weightOf V x0 (0 : Int32) x1) - (f_X8_weightOf V x0 (1 : Int32) x1)) ≤ 0 then (if 0 ≤ ((f_X8_weightOf V x0 (0 : Int32) x1) - (f_X8_weightOf V x0 (1 : Int32) x1)) then ((V.1 5) (((27 : Int32) * x0) + (25 : Int32)).toNatClampNeg) else (1 : Int32)) else (0 : Int32)) = F := hF
  have hD : ((d_X8_weightOf V x0 (0 : Int32) x1) ∧ ((d_X8_weightOf V x0 (1 : Int32) x1) ∧ (((f_X8_weightOf V x0 (0 : Int32) x1) - (f_X8_weightOf V x0 (1 : Int32) x1)) ≤ 0 → (0 ≤ ((f_X8_weightOf V x0 (0 : Int32) x1) - (f_X8_weightOf V x0 (1 : Int32) x1)) → vp_in (((27 : Int32) * x0) + (25 : Int32)) 54)))) := hD
  refine lv_aload_n hx hb dX8_brookBy_0 rfl (lv_at hl 0 rfl) ?_
  refine lv_iload_n hx hb dX8_brookBy_1 rfl (lv_at hl 1 rfl) ?_
  refine lv_iconst (v := 0) hx hb dX8_brookBy_2 (by decide) ?_
  refine lv_iload_n hx hb dX8_brookBy_3 rfl (lv_at hl 2 rfl) ?_
  obtain ⟨hz1, hD⟩ := hD
  refine kb_ci hH hA [0, 1, 2, 3, 4, 5, 6, 7, 8, 9, 10, 11, 12, 13, 14] (Wc := (w_O8 G g V)) (Wc' := (w_O8 G g V)) (WS' := (w_O8 G g V)) rfl (by decide) rfl rfl (va_runV (As := [.int x0, .int (0 : Int32), .int x1]) (rest := []) ⟨hx, hb, hml, hown, hts⟩ (c_X8_weightOf l G g V x0 (0 : Int32) x1 hz1 rfl _) (cwV 3 hts gX8_brookBy_X8_weightOf rfl rfl rfl he_X8_weightOf ⟨Nat.le_of_ble_eq_true rfl, Nat.le_of_ble_eq_true rfl⟩) (kb_preV hH hK hN [0, 1, 2, 3, 4, 5, 6, 7, 8, 9, 10, 11, 12, 13, 14] rfl (by decide) 0 rfl rfl rfl rfl) rfl rfl hl.1 rfl (lv_room (Nat.le_of_ble_eq_true rfl)) dX8_brookBy_4 ⟨Nat.le_of_ble_eq_true rfl, Nat.le_of_ble_eq_true rfl⟩) (fun H locs hH => ?_)
  refine lv_aload_n hx hb dX8_brookBy_7 rfl (lv_at hl 0 rfl) ?_
  refine lv_iload_n hx hb dX8_brookBy_8 rfl (lv_at hl 1 rfl) ?_
  refine lv_iconst (v := 1) hx hb dX8_brookBy_9 (by decide) ?_
  refine lv_iload_n hx hb dX8_brookBy_10 rfl (lv_at hl 2 rfl) ?_
  obtain ⟨hz2, hD⟩ := hD
  refine kb_ci hH hA [0, 1, 2, 3, 4, 5, 6, 7, 8, 9, 10, 11, 12, 13, 14] (Wc := (w_O8 G g V)) (Wc' := (w_O8 G g V)) (WS' := (w_O8 G g V)) rfl (by decide) rfl rfl (va_runV (As := [.int x0, .int (1 : Int32), .int x1]) (rest := [.int (f_X8_weightOf V x0 (0 : Int32) x1)]) ⟨hx, hb, hml, hown, hts⟩ (c_X8_weightOf l G g V x0 (1 : Int32) x1 hz2 rfl _) (cwV 3 hts gX8_brookBy_X8_weightOf rfl rfl rfl he_X8_weightOf ⟨Nat.le_of_ble_eq_true rfl, Nat.le_of_ble_eq_true rfl⟩) (kb_preV hH hK hN [0, 1, 2, 3, 4, 5, 6, 7, 8, 9, 10, 11, 12, 13, 14] rfl (by decide) 0 rfl rfl rfl rfl) rfl rfl hl.1 rfl (lv_room (Nat.le_of_ble_eq_true rfl)) dX8_brookBy_11 ⟨Nat.le_of_ble_eq_true rfl, Nat.le_of_ble_eq_true rfl⟩) (fun H locs hH => ?_)
  refine lv_isub hx hb dX8_brookBy_14 ?_
  refine lv_istore_n (lv' := [(3, .int ((f_X8_weightOf V x0 (0 : Int32) x1) - (f_X8_weightOf V x0 (1 : Int32) x1))), (0, .ref (g 0)), (1, .int x0), (2, .int x1)]) hx hb dX8_brookBy_15 rfl hl (by decide) rfl (fun ls hl => ?_)
  refine lv_iload_n hx hb dX8_brookBy_16 rfl (lv_at hl 0 rfl) ?_
  refine lv_if_le (tgt := 24) hx hb dX8_brookBy_17 (by decide) (fun c3 => ?_) (fun c3 => ?_)
  · have hD := hD c3
    rw [if_pos c3] at hF
    refine lv_iload_n hx hb dX8_brookBy_24 rfl (lv_at hl 0 rfl) ?_
    refine lv_if_ge (tgt := 32) hx hb dX8_brookBy_25 (by decide) (fun c4 => ?_) (fun c4 => ?_)
    · have hD := hD c4
      rw [if_pos c4] at hF
      refine lv_aload_n hx hb dX8_brookBy_32 rfl (lv_at hl 1 rfl) ?_
      refine kb_get (v := .ref (g 6)) hx hb hts hin8 hown hK hH 0 rfl rfl rfl 5 (by decide) (hts (.fieldLink RX8 19 "CockWarModel" "now" "[I") (List.mem_of_getElem? (i := 1) rfl)) (fun _ h9 => h9) rfl dX8_brookBy_33 ?_
      refine lv_bipush (v := 27) hx hb dX8_brookBy_36 (by decide) ?_
      refine lv_iload_n hx hb dX8_brookBy_38 rfl (lv_at hl 2 rfl) ?_
      refine lv_imul hx hb dX8_brookBy_39 ?_
      refine lv_bipush (v := 25) hx hb dX8_brookBy_40 (by decide) ?_
      refine lv_iadd hx hb dX8_brookBy_42 ?_
      have hz5 := hD
      refine kb_iald hx hb hK hH 4 rfl hz5 dX8_brookBy_43 ?_
      subst hF
      exact kb_iret hx hb hr hH rfl rfl dX8_brookBy_44 hlocks
    · rw [if_neg c4] at hF
      refine lv_iconst (v := 1) hx hb dX8_brookBy_28 (by decide) ?_
      refine lv_goto (tgt := 44) hx hb dX8_brookBy_29 (by decide) ?_
      subst hF
      exact kb_iret hx hb hr hH rfl rfl dX8_brookBy_44 hlocks
  · rw [if_neg c3] at hF
    refine lv_iconst (v := 0) hx hb dX8_brookBy_20 (by decide) ?_
    refine lv_goto (tgt := 44) hx hb dX8_brookBy_21 (by decide) ?_
    subst hF
    exact kb_iret hx hb hr hH rfl rfl dX8_brookBy_44 hlocks
def f_X8_blowOn (V : OV) (x0 : Int32) (x1 : Int32) : (OV) := (kAp (oA V 5 (upd (V.1 5) (((27 : Int32) * x0) + (25 : Int32)).toNatClampNeg (f_X8_brookBy V x0 (f_X8_pointsBy V x0 x1 ((V.1 5) (((27 : Int32) * x0) + (24 : Int32)).toNatClampNeg))))) (fun w5 => (kAp (oA w5 5 (upd (w5.1 5) (((27 : Int32) * x0) + (23 : Int32)).toNatClampNeg (f_X8_pointsBy V x0 x1 ((V.1 5) (((27 : Int32) * x0) + (24 : Int32)).toNatClampNeg)))) (fun w7 => (kAp (oA w7 5 (upd (w7.1 5) (((27 : Int32) * x0) + (24 : Int32)).toNatClampNeg (0 : Int32))) (fun w9 => (kAp (oA w9 5 (upd (w9.1 5) (((27 : Int32) * x0) + (26 : Int32)).toNatClampNeg (((w9.1 5) (((27 : Int32) * x0) + (26 : Int32)).toNatClampNeg) + (1 : Int32)))) (fun w12 => w12))))))))
def d_X8_blowOn (V : OV) (x0 : Int32) (x1 : Int32) : Prop := (vp_in (((27 : Int32) * x0) + (24 : Int32)) 54 ∧ ((d_X8_pointsBy V x0 x1 ((V.1 5) (((27 : Int32) * x0) + (24 : Int32)).toNatClampNeg)) ∧ ((d_X8_brookBy V x0 (f_X8_pointsBy V x0 x1 ((V.1 5) (((27 : Int32) * x0) + (24 : Int32)).toNatClampNeg))) ∧ (vp_in (((27 : Int32) * x0) + (25 : Int32)) 54 ∧ (kAp (oA V 5 (upd (V.1 5) (((27 : Int32) * x0) + (25 : Int32)).toNatClampNeg (f_X8_brookBy V x0 (f_X8_pointsBy V x0 x1 ((V.1 5) (((27 : Int32) * x0) + (24 : Int32)).toNatClampNeg))))) (fun w5 => (vp_in (((27 : Int32) * x0) + (23 : Int32)) 54 ∧ (kAp (oA w5 5 (upd (w5.1 5) (((27 : Int32) * x0) + (23 : Int32)).toNatClampNeg (f_X8_pointsBy V x0 x1 ((V.1 5) (((27 : Int32) * x0) + (24 : Int32)).toNatClampNeg)))) (fun w7 => (vp_in (((27 : Int32) * x0) + (24 : Int32)) 54 ∧ (kAp (oA w7 5 (upd (w7.1 5) (((27 : Int32) * x0) + (24 : Int32)).toNatClampNeg (0 : Int32))) (fun w9 => (vp_in (((27 : Int32) * x0) + (26 : Int32)) 54 ∧ vp_in (((27 : Int32) * x0) + (26 : Int32)) 54)))))))))))))
set_option maxHeartbeats 4000000 in
set_option maxRecDepth 100000 in
theorem c_X8_blowOn (l : Launch) (G : Ge) (g : Nat → Nat) (V : OV) (x0 : Int32) (x1 : Int32) (hD : d_X8_blowOn V x0 x1) {F : (OV)} (hF : f_X8_blowOn V x0 x1 = F) : CV l yX8_blowOn wsX8_blowOn { frames := 3, cells := 0, slots := 0, locals := 75 } [.ref (g 0), .int x0, .int x1] G (w_O8 G g V) (w_O8 G g F) := by
  intro sz
  refine Met.ofW (cc := cX8_blowOn) (maxL := 5) (ret := none) (by decide) rfl ?_
  intro p e s m args below meth c s₁ B hml hv
  obtain ⟨rfl, hpre⟩ := hv
  obtain ⟨hsz, hH, hK, hN, hA⟩ := kb_start hpre
  subst hsz
  have hx := B.exec
  have hb := B.bytes
  have hr := B.returns
  have hts := atoms_spec (ws := wsX8_blowOn) B.pre
  have hown : s.vm.findClass RX8 = some m.cls := findClass_of_methodNamed B.named
  have hlocks := B.notSynchronized
  generalize hAe : va_A (List.flatten (w_O8 G g V)) s.heap.size = A at hH hA ⊢
  have hl := lv_entry ([.ref (g 0), .int x0, .int x1]) (n := 5) (Nat.le_of_ble_eq_true rfl)
  rw [lg_entry_eq]
  generalize (lg_sl ([.ref (g 0), .int x0, .int x1]) ++ List.replicate (5 - (lg_sl ([.ref (g 0), .int x0, .int x1])).length) Slot.unset).toArray = ls at hl ⊢
  have hl : lv_has ls 5 [(0, .ref (g 0)), (1, .int x0), (2, .int x1)] := hl
  have hH : HP G A s.heap (w_O8 G g V) s.heap [] := hH
  have hin8 : ∀ w ∈ u_ws RX8 TX8 31, w ∈ wsX8_blowOn := fun w h => List.mem_cons_of_mem _ (List.mem_append_right _ h)
  have hF : (kAp (oA V 5 (upd (V.1 5) (((27 : Int32) * x0) + (25 : Int32)).toNatClampNeg (f_X8_brookBy V x0 (f_X8_pointsBy V x0 x1 ((V.1 5) (((27 : Int32) * x0) + (24 : Int32)).toNatClampNeg))))) (fun w5 => (kAp (oA w5 5 (upd (w5.1 5) (((27 : Int32) * x0) + (23 : Int32)).toNatClampNeg (f_X8_pointsBy V x0 x1 ((V.1 5) (((27 : Int32) * x0) + (24 : Int32)).toNatClampNeg)))) (fun w7 => (kAp (oA w7 5 (upd (w7.1 5) (((27 : Int32) * x0) + (24 : Int32)).toNatClampNeg (0 : Int32))) (fun w9 => (kAp (oA w9 5 (upd (w9.1 5) (((27 : Int32) * x0) + (26 : Int32)).toNatClampNeg (((w9.1 5) (((27 : Int32) * x0) + (26 : Int32)).toNatClampNeg) + (1 : Int32)))) (fun w12 => w12)))))))) = F := hF
  have hD : (vp_in (((27 : Int32) * x0) + (24 : Int32)) 54 ∧ ((d_X8_pointsBy V x0 x1 ((V.1 5) (((27 : Int32) * x0) + (24 : Int32)).toNatClampNeg)) ∧ ((d_X8_brookBy V x0 (f_X8_pointsBy V x0 x1 ((V.1 5) (((27 : Int32) * x0) + (24 : Int32)).toNatClampNeg))) ∧ (vp_in (((27 : Int32) * x0) + (25 : Int32)) 54 ∧ (kAp (oA V 5 (upd (V.1 5) (((27 : Int32) * x0) + (25 : Int32)).toNatClampNeg (f_X8_brookBy V x0 (f_X8_pointsBy V x0 x1 ((V.1 5) (((27 : Int32) * x0) + (24 : Int32)).toNatClampNeg))))) (fun w5 => (vp_in (((27 : Int32) * x0) + (23 : Int32)) 54 ∧ (kAp (oA w5 5 (upd (w5.1 5) (((27 : Int32) * x0) + (23 : Int32)).toNatClampNeg (f_X8_pointsBy V x0 x1 ((V.1 5) (((27 : Int32) * x0) + (24 : Int32)).toNatClampNeg)))) (fun w7 => (vp_in (((27 : Int32) * x0) + (24 : Int32)) 54 ∧ (kAp (oA w7 5 (upd (w7.1 5) (((27 : Int32) * x0) + (24 : Int32)).toNatClampNeg (0 : Int32))) (fun w9 => (vp_in (((27 : Int32) * x0) + (26 : Int32)) 54 ∧ vp_in (((27 : Int32) * x0) + (26 : Int32)) 54))))))))))))) := hD
  refine lv_bipush (v := 27) hx hb dX8_blowOn_0 (by decide) ?_
  refine lv_iload_n hx hb dX8_blowOn_2 rfl (lv_at hl 1 rfl) ?_
  refine lv_imul hx hb dX8_blowOn_3 ?_
  refine lv_istore_n (lv' := [(3, .int ((27 : Int32) * x0)), (0, .ref (g 0)), (1, .int x0), (2, .int x1)]) hx hb dX8_blowOn_4 rfl hl (by decide) rfl (fun ls hl => ?_)
  refine lv_aload_n hx hb dX8_blowOn_5 rfl (lv_at hl 1 rfl) ?_
  refine lv_iload_n hx hb dX8_blowOn_6 rfl (lv_at hl 2 rfl) ?_
  refine lv_iload_n hx hb dX8_blowOn_7 rfl (lv_at hl 3 rfl) ?_
  refine lv_aload_n hx hb dX8_blowOn_8 rfl (lv_at hl 1 rfl) ?_
  refine kb_get (v := .ref (g 6)) hx hb hts hin8 hown hK hH 0 rfl rfl rfl 5 (by decide) (hts (.fieldLink RX8 19 "CockWarModel" "now" "[I") (List.mem_of_getElem? (i := 1) rfl)) (fun _ h9 => h9) rfl dX8_blowOn_9 ?_
  refine lv_iload_n hx hb dX8_blowOn_12 rfl (lv_at hl 0 rfl) ?_
  refine lv_bipush (v := 24) hx hb dX8_blowOn_13 (by decide) ?_
  refine lv_iadd hx hb dX8_blowOn_15 ?_
  obtain ⟨hz1, hD⟩ := hD
  refine kb_iald hx hb hK hH 4 rfl hz1 dX8_blowOn_16 ?_
  obtain ⟨hz2, hD⟩ := hD
  refine kb_ci hH hA [0, 1, 2, 3, 4, 5, 6, 7, 8, 9, 10, 11, 12, 13, 14] (Wc := (w_O8 G g V)) (Wc' := (w_O8 G g V)) (WS' := (w_O8 G g V)) rfl (by decide) rfl rfl (va_runV (As := [.int x0, .int x1, .int ((V.1 5) (((27 : Int32) * x0) + (24 : Int32)).toNatClampNeg)]) (rest := []) ⟨hx, hb, hml, hown, hts⟩ (c_X8_pointsBy l G g V x0 x1 ((V.1 5) (((27 : Int32) * x0) + (24 : Int32)).toNatClampNeg) hz2 rfl _) (cwV 3 hts gX8_blowOn_X8_pointsBy rfl rfl rfl he_X8_pointsBy ⟨Nat.le_of_ble_eq_true rfl, Nat.le_of_ble_eq_true rfl⟩) (kb_preV hH hK hN [0, 1, 2, 3, 4, 5, 6, 7, 8, 9, 10, 11, 12, 13, 14] rfl (by decide) 0 rfl rfl rfl rfl) rfl rfl hl.1 rfl (lv_room (Nat.le_of_ble_eq_true rfl)) dX8_blowOn_17 ⟨Nat.le_of_ble_eq_true rfl, Nat.le_of_ble_eq_true rfl⟩) (fun H locs hH => ?_)
  refine lv_istore (lv' := [(4, .int (f_X8_pointsBy V x0 x1 ((V.1 5) (((27 : Int32) * x0) + (24 : Int32)).toNatClampNeg))), (3, .int ((27 : Int32) * x0)), (0, .ref (g 0)), (1, .int x0), (2, .int x1)]) hx hb dX8_blowOn_20 hl (by decide) rfl (fun ls hl => ?_)
  refine lv_aload_n hx hb dX8_blowOn_22 rfl (lv_at hl 2 rfl) ?_
  refine kb_get (v := .ref (g 6)) hx hb hts hin8 hown hK hH 0 rfl rfl rfl 5 (by decide) (hts (.fieldLink RX8 19 "CockWarModel" "now" "[I") (List.mem_of_getElem? (i := 1) rfl)) (fun _ h9 => h9) rfl dX8_blowOn_23 ?_
  refine lv_iload_n hx hb dX8_blowOn_26 rfl (lv_at hl 1 rfl) ?_
  refine lv_bipush (v := 25) hx hb dX8_blowOn_27 (by decide) ?_
  refine lv_iadd hx hb dX8_blowOn_29 ?_
  refine lv_aload_n hx hb dX8_blowOn_30 rfl (lv_at hl 2 rfl) ?_
  refine lv_iload_n hx hb dX8_blowOn_31 rfl (lv_at hl 3 rfl) ?_
  refine lv_iload hx hb dX8_blowOn_32 (lv_at hl 0 rfl) ?_
  obtain ⟨hz3, hD⟩ := hD
  refine kb_ci hH hA [0, 1, 2, 3, 4, 5, 6, 7, 8, 9, 10, 11, 12, 13, 14] (Wc := (w_O8 G g V)) (Wc' := (w_O8 G g V)) (WS' := (w_O8 G g V)) rfl (by decide) rfl rfl (va_runV (As := [.int x0, .int (f_X8_pointsBy V x0 x1 ((V.1 5) (((27 : Int32) * x0) + (24 : Int32)).toNatClampNeg))]) (rest := [.int (((27 : Int32) * x0) + (25 : Int32)), .ref (g 6)]) ⟨hx, hb, hml, hown, hts⟩ (c_X8_brookBy l G g V x0 (f_X8_pointsBy V x0 x1 ((V.1 5) (((27 : Int32) * x0) + (24 : Int32)).toNatClampNeg)) hz3 rfl _) (cwV 2 hts gX8_blowOn_X8_brookBy rfl rfl rfl he_X8_brookBy ⟨Nat.le_of_ble_eq_true rfl, Nat.le_of_ble_eq_true rfl⟩) (kb_preV hH hK hN [0, 1, 2, 3, 4, 5, 6, 7, 8, 9, 10, 11, 12, 13, 14] rfl (by decide) 0 rfl rfl rfl rfl) rfl rfl hl.1 rfl (lv_room (Nat.le_of_ble_eq_true rfl)) dX8_blowOn_34 ⟨Nat.le_of_ble_eq_true rfl, Nat.le_of_ble_eq_true rfl⟩) (fun H locs hH => ?_)
  obtain ⟨hz4, hD⟩ := hD
  refine kb_iast (WS' := (w_O8 G g (oA V 5 (upd (V.1 5) (((27 : Int32) * x0) + (25 : Int32)).toNatClampNeg (f_X8_brookBy V x0 (f_X8_pointsBy V x0 x1 ((V.1 5) (((27 : Int32) * x0) + (24 : Int32)).toNatClampNeg))))))) hx hb hK hH 4 rfl hz4 rfl dX8_blowOn_37 (fun H locs hH => ?_)
  obtain ⟨w5, hw5⟩ : ∃ z, z = (oA V 5 (upd (V.1 5) (((27 : Int32) * x0) + (25 : Int32)).toNatClampNeg (f_X8_brookBy V x0 (f_X8_pointsBy V x0 x1 ((V.1 5) (((27 : Int32) * x0) + (24 : Int32)).toNatClampNeg))))) := ⟨_, rfl⟩
  rw [← hw5] at hH
  have hF := kAp_eq hF hw5
  have hD := kAp_D hD hw5
  refine lv_aload_n hx hb dX8_blowOn_38 rfl (lv_at hl 2 rfl) ?_
  refine kb_get (v := .ref (g 6)) hx hb hts hin8 hown hK hH 0 rfl rfl rfl 5 (by decide) (hts (.fieldLink RX8 19 "CockWarModel" "now" "[I") (List.mem_of_getElem? (i := 1) rfl)) (fun _ h9 => h9) rfl dX8_blowOn_39 ?_
  refine lv_iload_n hx hb dX8_blowOn_42 rfl (lv_at hl 1 rfl) ?_
  refine lv_bipush (v := 23) hx hb dX8_blowOn_43 (by decide) ?_
  refine lv_iadd hx hb dX8_blowOn_45 ?_
  refine lv_iload hx hb dX8_blowOn_46 (lv_at hl 0 rfl) ?_
  obtain ⟨hz6, hD⟩ := hD
  refine kb_iast (WS' := (w_O8 G g (oA w5 5 (upd (w5.1 5) (((27 : Int32) * x0) + (23 : Int32)).toNatClampNeg (f_X8_pointsBy V x0 x1 ((V.1 5) (((27 : Int32) * x0) + (24 : Int32)).toNatClampNeg)))))) hx hb hK hH 4 rfl hz6 rfl dX8_blowOn_48 (fun H locs hH => ?_)
  obtain ⟨w7, hw7⟩ : ∃ z, z = (oA w5 5 (upd (w5.1 5) (((27 : Int32) * x0) + (23 : Int32)).toNatClampNeg (f_X8_pointsBy V x0 x1 ((V.1 5) (((27 : Int32) * x0) + (24 : Int32)).toNatClampNeg)))) := ⟨_, rfl⟩
  rw [← hw7] at hH
  have hF := kAp_eq hF hw7
  have hD := kAp_D hD hw7
  refine lv_aload_n hx hb dX8_blowOn_49 rfl (lv_at hl 2 rfl) ?_
  refine kb_get (v := .ref (g 6)) hx hb hts hin8 hown hK hH 0 rfl rfl rfl 5 (by decide) (hts (.fieldLink RX8 19 "CockWarModel" "now" "[I") (List.mem_of_getElem? (i := 1) rfl)) (fun _ h9 => h9) rfl dX8_blowOn_50 ?_
  refine lv_iload_n hx hb dX8_blowOn_53 rfl (lv_at hl 1 rfl) ?_
  refine lv_bipush (v := 24) hx hb dX8_blowOn_54 (by decide) ?_
  refine lv_iadd hx hb dX8_blowOn_56 ?_
  refine lv_iconst (v := 0) hx hb dX8_blowOn_57 (by decide) ?_
  obtain ⟨hz8, hD⟩ := hD
  refine kb_iast (WS' := (w_O8 G g (oA w7 5 (upd (w7.1 5) (((27 : Int32) * x0) + (24 : Int32)).toNatClampNeg (0 : Int32))))) hx hb hK hH 4 rfl hz8 rfl dX8_blowOn_58 (fun H locs hH => ?_)
  obtain ⟨w9, hw9⟩ : ∃ z, z = (oA w7 5 (upd (w7.1 5) (((27 : Int32) * x0) + (24 : Int32)).toNatClampNeg (0 : Int32))) := ⟨_, rfl⟩
  rw [← hw9] at hH
  have hF := kAp_eq hF hw9
  have hD := kAp_D hD hw9
  refine lv_aload_n hx hb dX8_blowOn_59 rfl (lv_at hl 2 rfl) ?_
  refine kb_get (v := .ref (g 6)) hx hb hts hin8 hown hK hH 0 rfl rfl rfl 5 (by decide) (hts (.fieldLink RX8 19 "CockWarModel" "now" "[I") (List.mem_of_getElem? (i := 1) rfl)) (fun _ h9 => h9) rfl dX8_blowOn_60 ?_
  refine lv_iload_n hx hb dX8_blowOn_63 rfl (lv_at hl 1 rfl) ?_
  refine lv_bipush (v := 26) hx hb dX8_blowOn_64 (by decide) ?_
  refine lv_iadd hx hb dX8_blowOn_66 ?_
  refine lv_dup2_11 hx hb dX8_blowOn_67 rfl rfl ?_
  obtain ⟨hz10, hD⟩ := hD
  refine kb_iald hx hb hK hH 4 rfl hz10 dX8_blowOn_68 ?_
  refine lv_iconst (v := 1) hx hb dX8_blowOn_69 (by decide) ?_
  refine lv_iadd hx hb dX8_blowOn_70 ?_
  have hz11 := hD
  refine kb_iast (WS' := (w_O8 G g (oA w9 5 (upd (w9.1 5) (((27 : Int32) * x0) + (26 : Int32)).toNatClampNeg (((w9.1 5) (((27 : Int32) * x0) + (26 : Int32)).toNatClampNeg) + (1 : Int32)))))) hx hb hK hH 4 rfl hz11 rfl dX8_blowOn_71 (fun H locs hH => ?_)
  obtain ⟨w12, hw12⟩ : ∃ z, z = (oA w9 5 (upd (w9.1 5) (((27 : Int32) * x0) + (26 : Int32)).toNatClampNeg (((w9.1 5) (((27 : Int32) * x0) + (26 : Int32)).toNatClampNeg) + (1 : Int32)))) := ⟨_, rfl⟩
  rw [← hw12] at hH
  have hF := kAp_eq hF hw12
  subst hF
  exact kb_vret hx hb hr hH rfl dX8_blowOn_72 hlocks
def f_X8_wind (V : OV) (x0 : Int32) (x1 : Int32) : (Int32) := (if (f_X8_isWind V x0) = 0 then (-1 : Int32) else (if (f_X8_in (x1.toInt64) (0 : Int64) (2 : Int64)) = 0 then (if x1 = (3 : Int32) then ((f_X8_pointsBy V (0 : Int32) x0 ((V.1 5) (24 : Int32).toNatClampNeg)) ^^^ ((V.1 5) (23 : Int32).toNatClampNeg)) else (-2 : Int32)) else ((V.1 4) (((3 : Int32) * x0) + x1).toNatClampNeg)))
def d_X8_wind (V : OV) (x0 : Int32) (x1 : Int32) : Prop := (¬ ((f_X8_isWind V x0) = 0) → (((f_X8_in (x1.toInt64) (0 : Int64) (2 : Int64)) = 0 → (x1 = (3 : Int32) → (d_X8_pointsBy V (0 : Int32) x0 ((V.1 5) (24 : Int32).toNatClampNeg)))) ∧ (¬ ((f_X8_in (x1.toInt64) (0 : Int64) (2 : Int64)) = 0) → vp_in (((3 : Int32) * x0) + x1) 12)))
set_option maxHeartbeats 4000000 in
set_option maxRecDepth 100000 in
theorem c_X8_wind (l : Launch) (G : Ge) (g : Nat → Nat) (V : OV) (x0 : Int32) (x1 : Int32) (hD : d_X8_wind V x0 x1) {F : (Int32)} (hF : f_X8_wind V x0 x1 = F) : CI l yX8_wind wsX8_wind { frames := 3, cells := 0, slots := 0, locals := 75 } [.ref (g 0), .int x0, .int x1] G (w_O8 G g V) (w_O8 G g V) F := by
  intro sz
  refine Met.ofW (cc := cX8_wind) (maxL := 3) (ret := (some .int)) (by decide) rfl ?_
  intro p e s m args below meth c s₁ B hml hv
  obtain ⟨rfl, hpre⟩ := hv
  obtain ⟨hsz, hH, hK, hN, hA⟩ := kb_start hpre
  subst hsz
  have hx := B.exec
  have hb := B.bytes
  have hr := B.returns
  have hts := atoms_spec (ws := wsX8_wind) B.pre
  have hown : s.vm.findClass RX8 = some m.cls := findClass_of_methodNamed B.named
  have hlocks := B.notSynchronized
  generalize hAe : va_A (List.flatten (w_O8 G g V)) s.heap.size = A at hH hA ⊢
  have hl := lv_entry ([.ref (g 0), .int x0, .int x1]) (n := 3) (Nat.le_of_ble_eq_true rfl)
  rw [lg_entry_eq]
  generalize (lg_sl ([.ref (g 0), .int x0, .int x1]) ++ List.replicate (3 - (lg_sl ([.ref (g 0), .int x0, .int x1])).length) Slot.unset).toArray = ls at hl ⊢
  have hl : lv_has ls 3 [(0, .ref (g 0)), (1, .int x0), (2, .int x1)] := hl
  have hH : HP G A s.heap (w_O8 G g V) s.heap [] := hH
  have hin8 : ∀ w ∈ u_ws RX8 TX8 31, w ∈ wsX8_wind := fun w h => List.mem_cons_of_mem _ (List.mem_append_right _ h)
  have hF : (if (f_X8_isWind V x0) = 0 then (-1 : Int32) else (if (f_X8_in (x1.toInt64) (0 : Int64) (2 : Int64)) = 0 then (if x1 = (3 : Int32) then ((f_X8_pointsBy V (0 : Int32) x0 ((V.1 5) (24 : Int32).toNatClampNeg)) ^^^ ((V.1 5) (23 : Int32).toNatClampNeg)) else (-2 : Int32)) else ((V.1 4) (((3 : Int32) * x0) + x1).toNatClampNeg))) = F := hF
  have hD : (¬ ((f_X8_isWind V x0) = 0) → (((f_X8_in (x1.toInt64) (0 : Int64) (2 : Int64)) = 0 → (x1 = (3 : Int32) → (d_X8_pointsBy V (0 : Int32) x0 ((V.1 5) (24 : Int32).toNatClampNeg)))) ∧ (¬ ((f_X8_in (x1.toInt64) (0 : Int64) (2 : Int64)) = 0) → vp_in (((3 : Int32) * x0) + x1) 12))) := hD
  refine lv_aload_n hx hb dX8_wind_0 rfl (lv_at hl 0 rfl) ?_
  refine lv_iload_n hx hb dX8_wind_1 rfl (lv_at hl 1 rfl) ?_
  refine kb_ci hH hA [0, 1, 2, 3, 4, 5, 6, 7, 8, 9, 10, 11, 12, 13, 14] (Wc := (w_O8 G g V)) (Wc' := (w_O8 G g V)) (WS' := (w_O8 G g V)) rfl (by decide) rfl rfl (va_runV (As := [.int x0]) (rest := []) ⟨hx, hb, hml, hown, hts⟩ (c_X8_isWind l G g V x0 rfl _) (cwV 1 hts gX8_wind_X8_isWind rfl rfl rfl he_X8_isWind ⟨Nat.le_of_ble_eq_true rfl, Nat.le_of_ble_eq_true rfl⟩) (kb_preV hH hK hN [0, 1, 2, 3, 4, 5, 6, 7, 8, 9, 10, 11, 12, 13, 14] rfl (by decide) 0 rfl rfl rfl rfl) rfl rfl hl.1 rfl (lv_room (Nat.le_of_ble_eq_true rfl)) dX8_wind_2 ⟨Nat.le_of_ble_eq_true rfl, Nat.le_of_ble_eq_true rfl⟩) (fun H locs hH => ?_)
  refine lv_if_ne (tgt := 10) hx hb dX8_wind_5 (by decide) (fun c1 => ?_) (fun c1 => ?_)
  · have hD := hD c1
    rw [if_neg c1] at hF
    refine lv_iload_n hx hb dX8_wind_10 rfl (lv_at hl 2 rfl) ?_
    refine lv_i2l (v := (x1.toInt64)) hx hb dX8_wind_11 rfl ?_
    refine lv_lconst (v := 0) hx hb dX8_wind_12 (by decide) ?_
    refine lv_ldc2 (v := 2) hx hb hown (hts (.constantLong RX8 136 (2)) (List.mem_of_getElem? (i := 1) rfl)) dX8_wind_13 ?_
    refine kb_ci hH hA [] (Wc := ([] : List va_W)) (Wc' := ([] : List va_W)) (WS' := (w_O8 G g V)) rfl (by decide) rfl rfl (va_runS (As := [.long (x1.toInt64), .long (0 : Int64), .long (2 : Int64)]) (rest := []) ⟨hx, hb, hml, hown, hts⟩ (c_X8_in l G (x1.toInt64) (0 : Int64) (2 : Int64) rfl _) (va_cwS 3 hts gX8_wind_X8_in rfl rfl rfl hd_X8_in ⟨Nat.le_of_ble_eq_true rfl, Nat.le_of_ble_eq_true rfl⟩) (kb_preS hH hK hN [] rfl (by decide)) rfl rfl hl.1 rfl (lv_room (Nat.le_of_ble_eq_true rfl)) dX8_wind_16 ⟨Nat.le_of_ble_eq_true rfl, Nat.le_of_ble_eq_true rfl⟩) (fun H locs hH => ?_)
    refine lv_if_eq (tgt := 33) hx hb dX8_wind_19 (by decide) (fun c2 => ?_) (fun c2 => ?_)
    · have hD := hD.1 c2
      rw [if_pos c2] at hF
      refine lv_iload_n hx hb dX8_wind_33 rfl (lv_at hl 2 rfl) ?_
      refine lv_iconst (v := 3) hx hb dX8_wind_34 (by decide) ?_
      refine lv_icmp_ne (tgt := 62) hx hb dX8_wind_35 (by decide) (fun c3 => ?_) (fun c3 => ?_)
      · rw [if_neg c3] at hF
        refine lv_bipush (v := -2) hx hb dX8_wind_62 (by decide) ?_
        subst hF
        exact kb_iret hx hb hr hH rfl rfl dX8_wind_64 hlocks
      · have hD := hD c3
        rw [if_pos c3] at hF
        refine lv_aload_n hx hb dX8_wind_38 rfl (lv_at hl 0 rfl) ?_
        refine lv_iconst (v := 0) hx hb dX8_wind_39 (by decide) ?_
        refine lv_iload_n hx hb dX8_wind_40 rfl (lv_at hl 1 rfl) ?_
        refine lv_aload_n hx hb dX8_wind_41 rfl (lv_at hl 0 rfl) ?_
        refine kb_get (v := .ref (g 6)) hx hb hts hin8 hown hK hH 0 rfl rfl rfl 5 (by decide) (hts (.fieldLink RX8 19 "CockWarModel" "now" "[I") (List.mem_of_getElem? (i := 3) rfl)) (fun _ h9 => h9) rfl dX8_wind_42 ?_
        refine lv_bipush (v := 24) hx hb dX8_wind_45 (by decide) ?_
        refine kb_iald hx hb hK hH 4 rfl (show ¬ ((24 : Int32) < 0 ∨ 54 ≤ (24 : Int32).toNatClampNeg) by decide) dX8_wind_47 ?_
        have hz4 := hD
        refine kb_ci hH hA [0, 1, 2, 3, 4, 5, 6, 7, 8, 9, 10, 11, 12, 13, 14] (Wc := (w_O8 G g V)) (Wc' := (w_O8 G g V)) (WS' := (w_O8 G g V)) rfl (by decide) rfl rfl (va_runV (As := [.int (0 : Int32), .int x0, .int ((V.1 5) (24 : Int32).toNatClampNeg)]) (rest := []) ⟨hx, hb, hml, hown, hts⟩ (c_X8_pointsBy l G g V (0 : Int32) x0 ((V.1 5) (24 : Int32).toNatClampNeg) hz4 rfl _) (cwV 3 hts gX8_wind_X8_pointsBy rfl rfl rfl he_X8_pointsBy ⟨Nat.le_of_ble_eq_true rfl, Nat.le_of_ble_eq_true rfl⟩) (kb_preV hH hK hN [0, 1, 2, 3, 4, 5, 6, 7, 8, 9, 10, 11, 12, 13, 14] rfl (by decide) 0 rfl rfl rfl rfl) rfl rfl hl.1 rfl (lv_room (Nat.le_of_ble_eq_true rfl)) dX8_wind_48 ⟨Nat.le_of_ble_eq_true rfl, Nat.le_of_ble_eq_true rfl⟩) (fun H locs hH => ?_)
        refine lv_aload_n hx hb dX8_wind_51 rfl (lv_at hl 0 rfl) ?_
        refine kb_get (v := .ref (g 6)) hx hb hts hin8 hown hK hH 0 rfl rfl rfl 5 (by decide) (hts (.fieldLink RX8 19 "CockWarModel" "now" "[I") (List.mem_of_getElem? (i := 3) rfl)) (fun _ h9 => h9) rfl dX8_wind_52 ?_
        refine lv_bipush (v := 23) hx hb dX8_wind_55 (by decide) ?_
        refine kb_iald hx hb hK hH 4 rfl (show ¬ ((23 : Int32) < 0 ∨ 54 ≤ (23 : Int32).toNatClampNeg) by decide) dX8_wind_57 ?_
        refine lv_ixor hx hb dX8_wind_58 ?_
        refine lv_goto (tgt := 64) hx hb dX8_wind_59 (by decide) ?_
        subst hF
        exact kb_iret hx hb hr hH rfl rfl dX8_wind_64 hlocks
    · have hD := hD.2 c2
      rw [if_neg c2] at hF
      refine lv_aload_n hx hb dX8_wind_22 rfl (lv_at hl 0 rfl) ?_
      refine kb_get (v := .ref (g 5)) hx hb hts hin8 hown hK hH 0 rfl rfl rfl 4 (by decide) (hts (.fieldLink RX8 16 "CockWarModel" "wind" "[I") (List.mem_of_getElem? (i := 2) rfl)) (fun _ h9 => h9) rfl dX8_wind_23 ?_
      refine lv_iconst (v := 3) hx hb dX8_wind_26 (by decide) ?_
      refine lv_iload_n hx hb dX8_wind_27 rfl (lv_at hl 1 rfl) ?_
      refine lv_imul hx hb dX8_wind_28 ?_
      refine lv_iload_n hx hb dX8_wind_29 rfl (lv_at hl 2 rfl) ?_
      refine lv_iadd hx hb dX8_wind_30 ?_
      have hz5 := hD
      refine kb_iald hx hb hK hH 3 rfl hz5 dX8_wind_31 ?_
      subst hF
      exact kb_iret hx hb hr hH rfl rfl dX8_wind_32 hlocks
  · rw [if_pos c1] at hF
    refine lv_iconst (v := -1) hx hb dX8_wind_8 (by decide) ?_
    subst hF
    exact kb_iret hx hb hr hH rfl rfl dX8_wind_9 hlocks
def f_X8_keepAct_L1 (iL1 : Nat) (s : (OV)) : (OV) := (oA s 20 (upd (s.1 20) (((27 : Int32) * (s.2.1 19)) + (nI iL1)).toNatClampNeg ((s.1 5) (nI iL1).toNatClampNeg)))
def d_X8_keepAct_L1 (iL1 : Nat) (s : (OV)) : Prop := vp_in (((27 : Int32) * (s.2.1 19)) + (nI iL1)) 378
def f_X8_keepAct (V : OV) : (OV) := (kAp (lpu (f_X8_keepAct_L1) (cN (27 : Int32)) 0 V) (fun z4 => (if (14 : Int32) ≤ (z4.2.1 18) then (oI (oI z4 18 (14 : Int32)) 19 (((z4.2.1 19) + (1 : Int32)) - ((z4.2.1 19) + (1 : Int32)) / (14 : Int32) * (14 : Int32))) else (oI (oI z4 18 ((z4.2.1 18) + (1 : Int32))) 19 (((z4.2.1 19) + (1 : Int32)) - ((z4.2.1 19) + (1 : Int32)) / (14 : Int32) * (14 : Int32))))))
def d_X8_keepAct (V : OV) : Prop := (lpuD (f_X8_keepAct_L1) (d_X8_keepAct_L1) (cN (27 : Int32)) 0 V)
set_option maxHeartbeats 4000000 in
set_option maxRecDepth 100000 in
theorem c_X8_keepAct (l : Launch) (G : Ge) (g : Nat → Nat) (V : OV) (hD : d_X8_keepAct V) {F : (OV)} (hF : f_X8_keepAct V = F) : CV l yX8_keepAct wsX8_keepAct { frames := 0, cells := 0, slots := 0, locals := 0 } [.ref (g 0)] G (w_O8 G g V) (w_O8 G g F) := by
  intro sz
  refine Met.ofW (cc := cX8_keepAct) (maxL := 2) (ret := none) (by decide) rfl ?_
  intro p e s m args below meth c s₁ B hml hv
  obtain ⟨rfl, hpre⟩ := hv
  obtain ⟨hsz, hH, hK, hN, hA⟩ := kb_start hpre
  subst hsz
  have hx := B.exec
  have hb := B.bytes
  have hr := B.returns
  have hts := atoms_spec (ws := wsX8_keepAct) B.pre
  have hown : s.vm.findClass RX8 = some m.cls := findClass_of_methodNamed B.named
  have hlocks := B.notSynchronized
  generalize hAe : va_A (List.flatten (w_O8 G g V)) s.heap.size = A at hH hA ⊢
  have hl := lv_entry ([.ref (g 0)]) (n := 2) (Nat.le_of_ble_eq_true rfl)
  rw [lg_entry_eq]
  generalize (lg_sl ([.ref (g 0)]) ++ List.replicate (2 - (lg_sl ([.ref (g 0)])).length) Slot.unset).toArray = ls at hl ⊢
  have hl : lv_has ls 2 [(0, .ref (g 0))] := hl
  have hH : HP G A s.heap (w_O8 G g V) s.heap [] := hH
  have hin8 : ∀ w ∈ u_ws RX8 TX8 31, w ∈ wsX8_keepAct := fun w h => List.mem_cons_of_mem _ (List.mem_append_right _ h)
  have hF : (kAp (lpu (f_X8_keepAct_L1) (cN (27 : Int32)) 0 V) (fun z4 => (if (14 : Int32) ≤ (z4.2.1 18) then (oI (oI z4 18 (14 : Int32)) 19 (((z4.2.1 19) + (1 : Int32)) - ((z4.2.1 19) + (1 : Int32)) / (14 : Int32) * (14 : Int32))) else (oI (oI z4 18 ((z4.2.1 18) + (1 : Int32))) 19 (((z4.2.1 19) + (1 : Int32)) - ((z4.2.1 19) + (1 : Int32)) / (14 : Int32) * (14 : Int32)))))) = F := hF
  have hD : (lpuD (f_X8_keepAct_L1) (d_X8_keepAct_L1) (cN (27 : Int32)) 0 V) := hD
  refine lv_iconst (v := 0) hx hb dX8_keepAct_0 (by decide) ?_
  refine lv_istore_n (lv' := [(1, .int (0 : Int32)), (0, .ref (g 0))]) hx hb dX8_keepAct_1 rfl hl (by decide) rfl (fun ls hl => ?_)
  have hDlL1 := hD
  obtain ⟨SFL1, hSFL1⟩ : ∃ z, z = (lpu (f_X8_keepAct_L1) (cN (27 : Int32)) 0 V) := ⟨_, rfl⟩
  have hF := kAp_eq hF hSFL1
  refine kb_cut (fun H locs ls => HP G A s.heap (w_O8 G g SFL1) H locs ∧ lv_has ls 2 [(0, .ref (g 0))]) 34 [] (fun EXL1 => ?_) (fun H locs ls hX => ?_)
  · refine kb_loop (σ := (OV)) (fun n i x => n + i = (cN (27 : Int32)) ∧ lpu (f_X8_keepAct_L1) n i x = SFL1 ∧ lpuD (f_X8_keepAct_L1) (d_X8_keepAct_L1) n i x) (fun iL1 x H locs ls => HP G A s.heap (w_O8 G g x) H locs ∧ lv_has ls 2 [(1, .int (nI iL1)), (0, .ref (g 0))]) (fun iL1 x H locs ls hI hX => ?_) (fun n iL1 x hI ihL1 H locs ls hX => ?_) (cN (27 : Int32)) 0 V _ _ _ ⟨Nat.add_zero _, hSFL1.symm, hDlL1⟩ ⟨hH, lv_sub hl [0, 1] rfl⟩
    · obtain ⟨L1a, exL1a⟩ : ∃ z, z = x := ⟨_, rfl⟩
      subst exL1a
      have hH : HP G A s.heap (w_O8 G g L1a) H locs := hX.1
      have hl : lv_has ls 2 [(1, .int (nI iL1)), (0, .ref (g 0))] := hX.2
      obtain ⟨hiL1, hs, _⟩ := hI
      have hiL1 : iL1 = (cN (27 : Int32)) := by omega
      refine lv_iload_n hx hb dX8_keepAct_2 rfl (lv_at hl 0 rfl) ?_
      refine lv_bipush (v := 27) hx hb dX8_keepAct_3 (by decide) ?_
      refine lv_icmp_ge (tgt := 34) hx hb dX8_keepAct_5 (by decide) (fun _ => ?_) (fun c => absurd (cN_end hiL1) c)
      exact EXL1 _ _ _ ⟨by subst hs; exact hH, by subst hs; exact lv_sub hl [1] rfl⟩
    · obtain ⟨L1a, exL1a⟩ : ∃ z, z = x := ⟨_, rfl⟩
      subst exL1a
      have hH : HP G A s.heap (w_O8 G g L1a) H locs := hX.1
      have hl : lv_has ls 2 [(1, .int (nI iL1)), (0, .ref (g 0))] := hX.2
      obtain ⟨hiL1, hs, hDi⟩ := hI
      obtain ⟨hD, hDn⟩ := hDi
      have hD : vp_in (((27 : Int32) * (L1a.2.1 19)) + (nI iL1)) 378 := hD
      have hltL1 : iL1 < (cN (27 : Int32)) := by omega
      obtain ⟨BVL1, hBd⟩ : ∃ z, (f_X8_keepAct_L1) iL1 L1a = z := ⟨_, rfl⟩
      have hs : lpu (f_X8_keepAct_L1) n (iL1 + 1) BVL1 = SFL1 := by rw [← hBd]; exact hs
      have hDn : lpuD (f_X8_keepAct_L1) (d_X8_keepAct_L1) n (iL1 + 1) BVL1 := by rw [← hBd]; exact hDn
      have hBL1 : (oA L1a 20 (upd (L1a.1 20) (((27 : Int32) * (L1a.2.1 19)) + (nI iL1)).toNatClampNeg ((L1a.1 5) (nI iL1).toNatClampNeg))) = BVL1 := hBd
      refine lv_iload_n hx hb dX8_keepAct_2 rfl (lv_at hl 0 rfl) ?_
      refine lv_bipush (v := 27) hx hb dX8_keepAct_3 (by decide) ?_
      refine lv_icmp_ge (tgt := 34) hx hb dX8_keepAct_5 (by decide) (fun c => absurd c (cN_ge hltL1)) (fun c2 => ?_)
      refine lv_aload_n hx hb dX8_keepAct_8 rfl (lv_at hl 1 rfl) ?_
      refine kb_get (v := .ref (g 21)) hx hb hts hin8 hown hK hH 0 rfl rfl rfl 20 (by decide) (hts (.fieldLink RX8 37 "CockWarModel" "row" "[I") (List.mem_of_getElem? (i := 1) rfl)) (fun _ h9 => h9) rfl dX8_keepAct_9 ?_
      refine lv_bipush (v := 27) hx hb dX8_keepAct_12 (by decide) ?_
      refine lv_aload_n hx hb dX8_keepAct_14 rfl (lv_at hl 1 rfl) ?_
      refine kb_get (v := .int (L1a.2.1 19)) hx hb hts hin8 hown hK hH 0 rfl rfl rfl 19 (by decide) (hts (.fieldLink RX8 138 "CockWarModel" "next" "I") (List.mem_of_getElem? (i := 2) rfl)) (fun _ h9 => h9) rfl dX8_keepAct_15 ?_
      refine lv_imul hx hb dX8_keepAct_18 ?_
      refine lv_iload_n hx hb dX8_keepAct_19 rfl (lv_at hl 0 rfl) ?_
      refine lv_iadd hx hb dX8_keepAct_20 ?_
      refine lv_aload_n hx hb dX8_keepAct_21 rfl (lv_at hl 1 rfl) ?_
      refine kb_get (v := .ref (g 6)) hx hb hts hin8 hown hK hH 0 rfl rfl rfl 5 (by decide) (hts (.fieldLink RX8 19 "CockWarModel" "now" "[I") (List.mem_of_getElem? (i := 3) rfl)) (fun _ h9 => h9) rfl dX8_keepAct_22 ?_
      refine lv_iload_n hx hb dX8_keepAct_25 rfl (lv_at hl 0 rfl) ?_
      refine kb_iald hx hb hK hH 4 rfl (vp_in_nI (Nat.lt_of_lt_of_le hltL1 (by decide)) (by decide)) dX8_keepAct_26 ?_
      have hz3 := hD
      refine kb_iast (WS' := (w_O8 G g (oA L1a 20 (upd (L1a.1 20) (((27 : Int32) * (L1a.2.1 19)) + (nI iL1)).toNatClampNeg ((L1a.1 5) (nI iL1).toNatClampNeg))))) hx hb hK hH 10 rfl hz3 rfl dX8_keepAct_27 (fun H locs hH => ?_)
      refine lv_iinc (v := (nI (iL1 + 1))) (lv' := [(1, .int (nI (iL1 + 1))), (0, .ref (g 0))]) hx hb dX8_keepAct_28 hl (k := 0) rfl (nI_1 _) (by decide) rfl (fun ls hl => ?_)
      refine lv_goto (tgt := 2) hx hb dX8_keepAct_31 (by decide) ?_
      subst hBL1
      exact ihL1 _ _ _ _ ⟨by omega, hs, hDn⟩ ⟨hH, lv_sub hl [0, 1] rfl⟩
  · obtain ⟨hH, hl⟩ := hX
    refine lv_aload_n hx hb dX8_keepAct_34 rfl (lv_at hl 0 rfl) ?_
    refine lv_aload_n hx hb dX8_keepAct_35 rfl (lv_at hl 0 rfl) ?_
    refine kb_get (v := .int (SFL1.2.1 19)) hx hb hts hin8 hown hK hH 0 rfl rfl rfl 19 (by decide) (hts (.fieldLink RX8 138 "CockWarModel" "next" "I") (List.mem_of_getElem? (i := 2) rfl)) (fun _ h9 => h9) rfl dX8_keepAct_36 ?_
    refine lv_iconst (v := 1) hx hb dX8_keepAct_39 (by decide) ?_
    refine lv_iadd hx hb dX8_keepAct_40 ?_
    refine lv_bipush (v := 14) hx hb dX8_keepAct_41 (by decide) ?_
    refine lv_irem hx hb dX8_keepAct_43 (by decide) ?_
    refine kb_put (ty := .int) (v := .int (((SFL1.2.1 19) + (1 : Int32)) - ((SFL1.2.1 19) + (1 : Int32)) / (14 : Int32) * (14 : Int32))) (WS' := (w_O8 G g (oI SFL1 19 (((SFL1.2.1 19) + (1 : Int32)) - ((SFL1.2.1 19) + (1 : Int32)) / (14 : Int32) * (14 : Int32))))) hx hb hts hin8 tyX8 tyX8_ok nmX8 hown hK hH 0 rfl rfl 19 (by decide) (hts (.fieldLink RX8 138 "CockWarModel" "next" "I") (List.mem_of_getElem? (i := 2) rfl)) (fun _ h9 => h9) rfl (by decide +kernel) rfl rfl (Nat.le_of_ble_eq_true rfl) rfl dX8_keepAct_44 (fun H locs hH => ?_)
    refine lv_aload_n hx hb dX8_keepAct_47 rfl (lv_at hl 0 rfl) ?_
    refine lv_aload_n hx hb dX8_keepAct_48 rfl (lv_at hl 0 rfl) ?_
    refine kb_get (v := .int (SFL1.2.1 18)) hx hb hts hin8 hown hK hH 0 rfl rfl rfl 18 (by decide) (hts (.fieldLink RX8 112 "CockWarModel" "acts" "I") (List.mem_of_getElem? (i := 4) rfl)) (fun _ h9 => h9) rfl dX8_keepAct_49 ?_
    refine lv_bipush (v := 14) hx hb dX8_keepAct_52 (by decide) ?_
    refine lv_icmp_ge (tgt := 66) hx hb dX8_keepAct_54 (by decide) (fun c5 => ?_) (fun c5 => ?_)
    · rw [if_pos c5] at hF
      refine lv_bipush (v := 14) hx hb dX8_keepAct_66 (by decide) ?_
      refine kb_put (ty := .int) (v := .int (14 : Int32)) (WS' := (w_O8 G g (oI (oI SFL1 18 (14 : Int32)) 19 (((SFL1.2.1 19) + (1 : Int32)) - ((SFL1.2.1 19) + (1 : Int32)) / (14 : Int32) * (14 : Int32))))) hx hb hts hin8 tyX8 tyX8_ok nmX8 hown hK hH 0 rfl rfl 18 (by decide) (hts (.fieldLink RX8 112 "CockWarModel" "acts" "I") (List.mem_of_getElem? (i := 4) rfl)) (fun _ h9 => h9) rfl (by decide +kernel) rfl rfl (Nat.le_of_ble_eq_true rfl) rfl dX8_keepAct_68 (fun H locs hH => ?_)
      subst hF
      exact kb_vret hx hb hr hH rfl dX8_keepAct_71 hlocks
    · rw [if_neg c5] at hF
      refine lv_aload_n hx hb dX8_keepAct_57 rfl (lv_at hl 0 rfl) ?_
      refine kb_get (v := .int (SFL1.2.1 18)) hx hb hts hin8 hown hK hH 0 rfl rfl rfl 18 (by decide) (hts (.fieldLink RX8 112 "CockWarModel" "acts" "I") (List.mem_of_getElem? (i := 4) rfl)) (fun _ h9 => h9) rfl dX8_keepAct_58 ?_
      refine lv_iconst (v := 1) hx hb dX8_keepAct_61 (by decide) ?_
      refine lv_iadd hx hb dX8_keepAct_62 ?_
      refine lv_goto (tgt := 68) hx hb dX8_keepAct_63 (by decide) ?_
      refine kb_put (ty := .int) (v := .int ((SFL1.2.1 18) + (1 : Int32))) (WS' := (w_O8 G g (oI (oI SFL1 18 ((SFL1.2.1 18) + (1 : Int32))) 19 (((SFL1.2.1 19) + (1 : Int32)) - ((SFL1.2.1 19) + (1 : Int32)) / (14 : Int32) * (14 : Int32))))) hx hb hts hin8 tyX8 tyX8_ok nmX8 hown hK hH 0 rfl rfl 18 (by decide) (hts (.fieldLink RX8 112 "CockWarModel" "acts" "I") (List.mem_of_getElem? (i := 4) rfl)) (fun _ h9 => h9) rfl (by decide +kernel) rfl rfl (Nat.le_of_ble_eq_true rfl) rfl dX8_keepAct_68 (fun H locs hH => ?_)
      subst hF
      exact kb_vret hx hb hr hH rfl dX8_keepAct_71 hlocks
def f_X8_blow (V : OV) (x0 : Int32) : (Int32 × OV) := (if (f_X8_isWind V x0) = 0 then ((-1 : Int32), V) else (kAp (f_X8_keepAct V) (fun q2 => (kAp (f_X8_blowOn q2 (0 : Int32) x0) (fun q4 => (((q4.1 5) (25 : Int32).toNatClampNeg), q4))))))
def d_X8_blow (V : OV) (x0 : Int32) : Prop := (¬ ((f_X8_isWind V x0) = 0) → ((d_X8_keepAct V) ∧ (kAp (f_X8_keepAct V) (fun q2 => (d_X8_blowOn q2 (0 : Int32) x0)))))
set_option maxHeartbeats 4000000 in
set_option maxRecDepth 100000 in
theorem c_X8_blow (l : Launch) (G : Ge) (g : Nat → Nat) (V : OV) (x0 : Int32) (hD : d_X8_blow V x0) {F : (Int32 × OV)} (hF : f_X8_blow V x0 = F) : CI l yX8_blow wsX8_blow { frames := 4, cells := 0, slots := 0, locals := 99 } [.ref (g 0), .int x0] G (w_O8 G g V) (w_O8 G g F.2) F.1 := by
  intro sz
  refine Met.ofW (cc := cX8_blow) (maxL := 2) (ret := (some .int)) (by decide) rfl ?_
  intro p e s m args below meth c s₁ B hml hv
  obtain ⟨rfl, hpre⟩ := hv
  obtain ⟨hsz, hH, hK, hN, hA⟩ := kb_start hpre
  subst hsz
  have hx := B.exec
  have hb := B.bytes
  have hr := B.returns
  have hts := atoms_spec (ws := wsX8_blow) B.pre
  have hown : s.vm.findClass RX8 = some m.cls := findClass_of_methodNamed B.named
  have hlocks := B.notSynchronized
  generalize hAe : va_A (List.flatten (w_O8 G g V)) s.heap.size = A at hH hA ⊢
  have hl := lv_entry ([.ref (g 0), .int x0]) (n := 2) (Nat.le_of_ble_eq_true rfl)
  rw [lg_entry_eq]
  generalize (lg_sl ([.ref (g 0), .int x0]) ++ List.replicate (2 - (lg_sl ([.ref (g 0), .int x0])).length) Slot.unset).toArray = ls at hl ⊢
  have hl : lv_has ls 2 [(0, .ref (g 0)), (1, .int x0)] := hl
  have hH : HP G A s.heap (w_O8 G g V) s.heap [] := hH
  have hin8 : ∀ w ∈ u_ws RX8 TX8 31, w ∈ wsX8_blow := fun w h => List.mem_cons_of_mem _ (List.mem_append_right _ h)
  have hF : (if (f_X8_isWind V x0) = 0 then ((-1 : Int32), V) else (kAp (f_X8_keepAct V) (fun q2 => (kAp (f_X8_blowOn q2 (0 : Int32) x0) (fun q4 => (((q4.1 5) (25 : Int32).toNatClampNeg), q4)))))) = F := hF
  have hD : (¬ ((f_X8_isWind V x0) = 0) → ((d_X8_keepAct V) ∧ (kAp (f_X8_keepAct V) (fun q2 => (d_X8_blowOn q2 (0 : Int32) x0))))) := hD
  refine lv_aload_n hx hb dX8_blow_0 rfl (lv_at hl 0 rfl) ?_
  refine lv_iload_n hx hb dX8_blow_1 rfl (lv_at hl 1 rfl) ?_
  refine kb_ci hH hA [0, 1, 2, 3, 4, 5, 6, 7, 8, 9, 10, 11, 12, 13, 14] (Wc := (w_O8 G g V)) (Wc' := (w_O8 G g V)) (WS' := (w_O8 G g V)) rfl (by decide) rfl rfl (va_runV (As := [.int x0]) (rest := []) ⟨hx, hb, hml, hown, hts⟩ (c_X8_isWind l G g V x0 rfl _) (cwV 1 hts gX8_blow_X8_isWind rfl rfl rfl he_X8_isWind ⟨Nat.le_of_ble_eq_true rfl, Nat.le_of_ble_eq_true rfl⟩) (kb_preV hH hK hN [0, 1, 2, 3, 4, 5, 6, 7, 8, 9, 10, 11, 12, 13, 14] rfl (by decide) 0 rfl rfl rfl rfl) rfl rfl hl.1 rfl (lv_room (Nat.le_of_ble_eq_true rfl)) dX8_blow_2 ⟨Nat.le_of_ble_eq_true rfl, Nat.le_of_ble_eq_true rfl⟩) (fun H locs hH => ?_)
  refine lv_if_ne (tgt := 10) hx hb dX8_blow_5 (by decide) (fun c1 => ?_) (fun c1 => ?_)
  · have hD := hD c1
    rw [if_neg c1] at hF
    refine lv_aload_n hx hb dX8_blow_10 rfl (lv_at hl 0 rfl) ?_
    obtain ⟨hz3, hD⟩ := hD
    obtain ⟨q2, hq2⟩ : ∃ z, z = (f_X8_keepAct V) := ⟨_, rfl⟩
    have hF := kAp_eq hF hq2
    have hD := kAp_D hD hq2
    refine kb_cv hH hA [0, 1, 2, 3, 4, 5, 6, 7, 8, 9, 10, 11, 12, 13, 14] (Wc := (w_O8 G g V)) (Wc' := (w_O8 G g q2)) (WS' := (w_O8 G g q2)) rfl (by decide) rfl rfl (va_runV (As := []) (rest := []) ⟨hx, hb, hml, hown, hts⟩ (c_X8_keepAct l G g V hz3 hq2.symm _) (cwV 0 hts gX8_blow_X8_keepAct rfl rfl rfl he_X8_keepAct ⟨Nat.le_of_ble_eq_true rfl, Nat.le_of_ble_eq_true rfl⟩) (kb_preV hH hK hN [0, 1, 2, 3, 4, 5, 6, 7, 8, 9, 10, 11, 12, 13, 14] rfl (by decide) 0 rfl rfl rfl rfl) rfl rfl hl.1 rfl (lv_room (Nat.le_of_ble_eq_true rfl)) dX8_blow_11 ⟨Nat.le_of_ble_eq_true rfl, Nat.le_of_ble_eq_true rfl⟩) (fun H locs hH => ?_)
    refine lv_aload_n hx hb dX8_blow_14 rfl (lv_at hl 0 rfl) ?_
    refine lv_iconst (v := 0) hx hb dX8_blow_15 (by decide) ?_
    refine lv_iload_n hx hb dX8_blow_16 rfl (lv_at hl 1 rfl) ?_
    have hz5 := hD
    obtain ⟨q4, hq4⟩ : ∃ z, z = (f_X8_blowOn q2 (0 : Int32) x0) := ⟨_, rfl⟩
    have hF := kAp_eq hF hq4
    refine kb_cv hH hA [0, 1, 2, 3, 4, 5, 6, 7, 8, 9, 10, 11, 12, 13, 14] (Wc := (w_O8 G g q2)) (Wc' := (w_O8 G g q4)) (WS' := (w_O8 G g q4)) rfl (by decide) rfl rfl (va_runV (As := [.int (0 : Int32), .int x0]) (rest := []) ⟨hx, hb, hml, hown, hts⟩ (c_X8_blowOn l G g q2 (0 : Int32) x0 hz5 hq4.symm _) (cwV 2 hts gX8_blow_X8_blowOn rfl rfl rfl he_X8_blowOn ⟨Nat.le_of_ble_eq_true rfl, Nat.le_of_ble_eq_true rfl⟩) (kb_preV hH hK hN [0, 1, 2, 3, 4, 5, 6, 7, 8, 9, 10, 11, 12, 13, 14] rfl (by decide) 0 rfl rfl rfl rfl) rfl rfl hl.1 rfl (lv_room (Nat.le_of_ble_eq_true rfl)) dX8_blow_17 ⟨Nat.le_of_ble_eq_true rfl, Nat.le_of_ble_eq_true rfl⟩) (fun H locs hH => ?_)
    refine lv_aload_n hx hb dX8_blow_20 rfl (lv_at hl 0 rfl) ?_
    refine kb_get (v := .ref (g 6)) hx hb hts hin8 hown hK hH 0 rfl rfl rfl 5 (by decide) (hts (.fieldLink RX8 19 "CockWarModel" "now" "[I") (List.mem_of_getElem? (i := 1) rfl)) (fun _ h9 => h9) rfl dX8_blow_21 ?_
    refine lv_bipush (v := 25) hx hb dX8_blow_24 (by decide) ?_
    refine kb_iald hx hb hK hH 4 rfl (show ¬ ((25 : Int32) < 0 ∨ 54 ≤ (25 : Int32).toNatClampNeg) by decide) dX8_blow_26 ?_
    subst hF
    exact kb_iret hx hb hr hH rfl rfl dX8_blow_27 hlocks
  · rw [if_pos c1] at hF
    refine lv_iconst (v := -1) hx hb dX8_blow_8 (by decide) ?_
    subst hF
    exact kb_iret hx hb hr hH rfl rfl dX8_blow_9 hlocks
def f_X8_fell (V : OV) (x0 : Int32) : (Int32 × OV) := (if (f_X8_in (x0.toInt64) (0 : Int64) (9 : Int64)) = 0 then ((-2 : Int32), V) else (if ((V.1 5) ((12 : Int32) + x0).toNatClampNeg) = 0 then ((-3 : Int32), V) else (kAp (f_X8_keepAct V) (fun q4 => (((q4.1 5) ((12 : Int32) + x0).toNatClampNeg), (oA q4 5 (upd (q4.1 5) ((12 : Int32) + x0).toNatClampNeg (0 : Int32))))))))
def d_X8_fell (V : OV) (x0 : Int32) : Prop := (¬ ((f_X8_in (x0.toInt64) (0 : Int64) (9 : Int64)) = 0) → (vp_in ((12 : Int32) + x0) 54 ∧ (¬ (((V.1 5) ((12 : Int32) + x0).toNatClampNeg) = 0) → ((d_X8_keepAct V) ∧ (kAp (f_X8_keepAct V) (fun q4 => (vp_in ((12 : Int32) + x0) 54 ∧ vp_in ((12 : Int32) + x0) 54)))))))
set_option maxHeartbeats 4000000 in
set_option maxRecDepth 100000 in
theorem c_X8_fell (l : Launch) (G : Ge) (g : Nat → Nat) (V : OV) (x0 : Int32) (hD : d_X8_fell V x0) {F : (Int32 × OV)} (hF : f_X8_fell V x0 = F) : CI l yX8_fell wsX8_fell { frames := 1, cells := 0, slots := 0, locals := 25 } [.ref (g 0), .int x0] G (w_O8 G g V) (w_O8 G g F.2) F.1 := by
  intro sz
  refine Met.ofW (cc := cX8_fell) (maxL := 3) (ret := (some .int)) (by decide) rfl ?_
  intro p e s m args below meth c s₁ B hml hv
  obtain ⟨rfl, hpre⟩ := hv
  obtain ⟨hsz, hH, hK, hN, hA⟩ := kb_start hpre
  subst hsz
  have hx := B.exec
  have hb := B.bytes
  have hr := B.returns
  have hts := atoms_spec (ws := wsX8_fell) B.pre
  have hown : s.vm.findClass RX8 = some m.cls := findClass_of_methodNamed B.named
  have hlocks := B.notSynchronized
  generalize hAe : va_A (List.flatten (w_O8 G g V)) s.heap.size = A at hH hA ⊢
  have hl := lv_entry ([.ref (g 0), .int x0]) (n := 3) (Nat.le_of_ble_eq_true rfl)
  rw [lg_entry_eq]
  generalize (lg_sl ([.ref (g 0), .int x0]) ++ List.replicate (3 - (lg_sl ([.ref (g 0), .int x0])).length) Slot.unset).toArray = ls at hl ⊢
  have hl : lv_has ls 3 [(0, .ref (g 0)), (1, .int x0)] := hl
  have hH : HP G A s.heap (w_O8 G g V) s.heap [] := hH
  have hin8 : ∀ w ∈ u_ws RX8 TX8 31, w ∈ wsX8_fell := fun w h => List.mem_cons_of_mem _ (List.mem_append_right _ h)
  have hF : (if (f_X8_in (x0.toInt64) (0 : Int64) (9 : Int64)) = 0 then ((-2 : Int32), V) else (if ((V.1 5) ((12 : Int32) + x0).toNatClampNeg) = 0 then ((-3 : Int32), V) else (kAp (f_X8_keepAct V) (fun q4 => (((q4.1 5) ((12 : Int32) + x0).toNatClampNeg), (oA q4 5 (upd (q4.1 5) ((12 : Int32) + x0).toNatClampNeg (0 : Int32)))))))) = F := hF
  have hD : (¬ ((f_X8_in (x0.toInt64) (0 : Int64) (9 : Int64)) = 0) → (vp_in ((12 : Int32) + x0) 54 ∧ (¬ (((V.1 5) ((12 : Int32) + x0).toNatClampNeg) = 0) → ((d_X8_keepAct V) ∧ (kAp (f_X8_keepAct V) (fun q4 => (vp_in ((12 : Int32) + x0) 54 ∧ vp_in ((12 : Int32) + x0) 54))))))) := hD
  refine lv_iload_n hx hb dX8_fell_0 rfl (lv_at hl 1 rfl) ?_
  refine lv_i2l (v := (x0.toInt64)) hx hb dX8_fell_1 rfl ?_
  refine lv_lconst (v := 0) hx hb dX8_fell_2 (by decide) ?_
  refine lv_ldc2 (v := 9) hx hb hown (hts (.constantLong RX8 72 (9)) (List.mem_of_getElem? (i := 1) rfl)) dX8_fell_3 ?_
  refine kb_ci hH hA [] (Wc := ([] : List va_W)) (Wc' := ([] : List va_W)) (WS' := (w_O8 G g V)) rfl (by decide) rfl rfl (va_runS (As := [.long (x0.toInt64), .long (0 : Int64), .long (9 : Int64)]) (rest := []) ⟨hx, hb, hml, hown, hts⟩ (c_X8_in l G (x0.toInt64) (0 : Int64) (9 : Int64) rfl _) (va_cwS 3 hts gX8_fell_X8_in rfl rfl rfl hd_X8_in ⟨Nat.le_of_ble_eq_true rfl, Nat.le_of_ble_eq_true rfl⟩) (kb_preS hH hK hN [] rfl (by decide)) rfl rfl hl.1 rfl (lv_room (Nat.le_of_ble_eq_true rfl)) dX8_fell_6 ⟨Nat.le_of_ble_eq_true rfl, Nat.le_of_ble_eq_true rfl⟩) (fun H locs hH => ?_)
  refine lv_if_ne (tgt := 15) hx hb dX8_fell_9 (by decide) (fun c1 => ?_) (fun c1 => ?_)
  · have hD := hD c1
    rw [if_neg c1] at hF
    refine lv_aload_n hx hb dX8_fell_15 rfl (lv_at hl 0 rfl) ?_
    refine kb_get (v := .ref (g 6)) hx hb hts hin8 hown hK hH 0 rfl rfl rfl 5 (by decide) (hts (.fieldLink RX8 19 "CockWarModel" "now" "[I") (List.mem_of_getElem? (i := 2) rfl)) (fun _ h9 => h9) rfl dX8_fell_16 ?_
    refine lv_bipush (v := 12) hx hb dX8_fell_19 (by decide) ?_
    refine lv_iload_n hx hb dX8_fell_21 rfl (lv_at hl 1 rfl) ?_
    refine lv_iadd hx hb dX8_fell_22 ?_
    obtain ⟨hz2, hD⟩ := hD
    refine kb_iald hx hb hK hH 4 rfl hz2 dX8_fell_23 ?_
    refine lv_if_ne (tgt := 30) hx hb dX8_fell_24 (by decide) (fun c3 => ?_) (fun c3 => ?_)
    · have hD := hD c3
      rw [if_neg c3] at hF
      refine lv_aload_n hx hb dX8_fell_30 rfl (lv_at hl 0 rfl) ?_
      obtain ⟨hz5, hD⟩ := hD
      obtain ⟨q4, hq4⟩ : ∃ z, z = (f_X8_keepAct V) := ⟨_, rfl⟩
      have hF := kAp_eq hF hq4
      have hD := kAp_D hD hq4
      refine kb_cv hH hA [0, 1, 2, 3, 4, 5, 6, 7, 8, 9, 10, 11, 12, 13, 14] (Wc := (w_O8 G g V)) (Wc' := (w_O8 G g q4)) (WS' := (w_O8 G g q4)) rfl (by decide) rfl rfl (va_runV (As := []) (rest := []) ⟨hx, hb, hml, hown, hts⟩ (c_X8_keepAct l G g V hz5 hq4.symm _) (cwV 0 hts gX8_fell_X8_keepAct rfl rfl rfl he_X8_keepAct ⟨Nat.le_of_ble_eq_true rfl, Nat.le_of_ble_eq_true rfl⟩) (kb_preV hH hK hN [0, 1, 2, 3, 4, 5, 6, 7, 8, 9, 10, 11, 12, 13, 14] rfl (by decide) 0 rfl rfl rfl rfl) rfl rfl hl.1 rfl (lv_room (Nat.le_of_ble_eq_true rfl)) dX8_fell_31 ⟨Nat.le_of_ble_eq_true rfl, Nat.le_of_ble_eq_true rfl⟩) (fun H locs hH => ?_)
      refine lv_aload_n hx hb dX8_fell_34 rfl (lv_at hl 0 rfl) ?_
      refine kb_get (v := .ref (g 6)) hx hb hts hin8 hown hK hH 0 rfl rfl rfl 5 (by decide) (hts (.fieldLink RX8 19 "CockWarModel" "now" "[I") (List.mem_of_getElem? (i := 2) rfl)) (fun _ h9 => h9) rfl dX8_fell_35 ?_
      refine lv_bipush (v := 12) hx hb dX8_fell_38 (by decide) ?_
      refine lv_iload_n hx hb dX8_fell_40 rfl (lv_at hl 1 rfl) ?_
      refine lv_iadd hx hb dX8_fell_41 ?_
      obtain ⟨hz6, hD⟩ := hD
      refine kb_iald hx hb hK hH 4 rfl hz6 dX8_fell_42 ?_
      refine lv_istore_n (lv' := [(2, .int ((q4.1 5) ((12 : Int32) + x0).toNatClampNeg)), (0, .ref (g 0)), (1, .int x0)]) hx hb dX8_fell_43 rfl hl (by decide) rfl (fun ls hl => ?_)
      refine lv_aload_n hx hb dX8_fell_44 rfl (lv_at hl 1 rfl) ?_
      refine kb_get (v := .ref (g 6)) hx hb hts hin8 hown hK hH 0 rfl rfl rfl 5 (by decide) (hts (.fieldLink RX8 19 "CockWarModel" "now" "[I") (List.mem_of_getElem? (i := 2) rfl)) (fun _ h9 => h9) rfl dX8_fell_45 ?_
      refine lv_bipush (v := 12) hx hb dX8_fell_48 (by decide) ?_
      refine lv_iload_n hx hb dX8_fell_50 rfl (lv_at hl 2 rfl) ?_
      refine lv_iadd hx hb dX8_fell_51 ?_
      refine lv_iconst (v := 0) hx hb dX8_fell_52 (by decide) ?_
      have hz7 := hD
      refine kb_iast (WS' := (w_O8 G g (oA q4 5 (upd (q4.1 5) ((12 : Int32) + x0).toNatClampNeg (0 : Int32))))) hx hb hK hH 4 rfl hz7 rfl dX8_fell_53 (fun H locs hH => ?_)
      refine lv_iload_n hx hb dX8_fell_54 rfl (lv_at hl 0 rfl) ?_
      subst hF
      exact kb_iret hx hb hr hH rfl rfl dX8_fell_55 hlocks
    · rw [if_pos c3] at hF
      refine lv_bipush (v := -3) hx hb dX8_fell_27 (by decide) ?_
      subst hF
      exact kb_iret hx hb hr hH rfl rfl dX8_fell_29 hlocks
  · rw [if_pos c1] at hF
    refine lv_bipush (v := -2) hx hb dX8_fell_12 (by decide) ?_
    subst hF
    exact kb_iret hx hb hr hH rfl rfl dX8_fell_14 hlocks
def f_X8_isCockOn_L1 (V : OV) (x0 : Int32) (iL1 : Nat) (s : (Int32)) : (Int32) := (if s = 0 then (if ((V.1 5) (nI iL1).toNatClampNeg) = x0 then (1 : Int32) else (0 : Int32)) else (1 : Int32))
def d_X8_isCockOn_L1 (V : OV) (x0 : Int32) (iL1 : Nat) (s : (Int32)) : Prop := (s = 0 → vp_in (nI iL1) 54)
def f_X8_isCockOn (V : OV) (x0 : Int32) : (Int32) := (kAp (lpu (f_X8_isCockOn_L1 V x0) (cN (V.2.1 0)) 0 (0 : Int32)) (fun z6 => z6))
def d_X8_isCockOn (V : OV) (x0 : Int32) : Prop := ((lpuD (f_X8_isCockOn_L1 V x0) (d_X8_isCockOn_L1 V x0) (cN (V.2.1 0)) 0 (0 : Int32)) ∧ (kAp (lpu (f_X8_isCockOn_L1 V x0) (cN (V.2.1 0)) 0 (0 : Int32)) (fun z6 => (z6 = 0 ∨ z6 = 1))))
set_option maxHeartbeats 4000000 in
set_option maxRecDepth 100000 in
theorem c_X8_isCockOn (l : Launch) (G : Ge) (g : Nat → Nat) (V : OV) (x0 : Int32) (hD : d_X8_isCockOn V x0) {F : (Int32)} (hF : f_X8_isCockOn V x0 = F) : CI l yX8_isCockOn wsX8_isCockOn { frames := 0, cells := 0, slots := 0, locals := 0 } [.ref (g 0), .int x0] G (w_O8 G g V) (w_O8 G g V) F := by
  intro sz
  refine Met.ofW (cc := cX8_isCockOn) (maxL := 4) (ret := (some .boolean)) (by decide) rfl ?_
  intro p e s m args below meth c s₁ B hml hv
  obtain ⟨rfl, hpre⟩ := hv
  obtain ⟨hsz, hH, hK, hN, hA⟩ := kb_start hpre
  subst hsz
  have hx := B.exec
  have hb := B.bytes
  have hr := B.returns
  have hts := atoms_spec (ws := wsX8_isCockOn) B.pre
  have hown : s.vm.findClass RX8 = some m.cls := findClass_of_methodNamed B.named
  have hlocks := B.notSynchronized
  generalize hAe : va_A (List.flatten (w_O8 G g V)) s.heap.size = A at hH hA ⊢
  have hl := lv_entry ([.ref (g 0), .int x0]) (n := 4) (Nat.le_of_ble_eq_true rfl)
  rw [lg_entry_eq]
  generalize (lg_sl ([.ref (g 0), .int x0]) ++ List.replicate (4 - (lg_sl ([.ref (g 0), .int x0])).length) Slot.unset).toArray = ls at hl ⊢
  have hl : lv_has ls 4 [(0, .ref (g 0)), (1, .int x0)] := hl
  have hH : HP G A s.heap (w_O8 G g V) s.heap [] := hH
  have hin8 : ∀ w ∈ u_ws RX8 TX8 31, w ∈ wsX8_isCockOn := fun w h => List.mem_cons_of_mem _ (List.mem_append_right _ h)
  have hF : (kAp (lpu (f_X8_isCockOn_L1 V x0) (cN (V.2.1 0)) 0 (0 : Int32)) (fun z6 => z6)) = F := hF
  have hD : ((lpuD (f_X8_isCockOn_L1 V x0) (d_X8_isCockOn_L1 V x0) (cN (V.2.1 0)) 0 (0 : Int32)) ∧ (kAp (lpu (f_X8_isCockOn_L1 V x0) (cN (V.2.1 0)) 0 (0 : Int32)) (fun z6 => (z6 = 0 ∨ z6 = 1)))) := hD
  refine lv_iconst (v := 0) hx hb dX8_isCockOn_0 (by decide) ?_
  refine lv_istore_n (lv' := [(2, .int (0 : Int32)), (0, .ref (g 0)), (1, .int x0)]) hx hb dX8_isCockOn_1 rfl hl (by decide) rfl (fun ls hl => ?_)
  refine lv_iconst (v := 0) hx hb dX8_isCockOn_2 (by decide) ?_
  refine lv_istore_n (lv' := [(3, .int (0 : Int32)), (2, .int (0 : Int32)), (0, .ref (g 0)), (1, .int x0)]) hx hb dX8_isCockOn_3 rfl hl (by decide) rfl (fun ls hl => ?_)
  obtain ⟨hDlL1, hD⟩ := hD
  obtain ⟨SFL1, hSFL1⟩ : ∃ z, z = (lpu (f_X8_isCockOn_L1 V x0) (cN (V.2.1 0)) 0 (0 : Int32)) := ⟨_, rfl⟩
  have hF := kAp_eq hF hSFL1
  have hD := kAp_D hD hSFL1
  refine kb_cut (fun H locs ls => HP G A s.heap (w_O8 G g V) H locs ∧ lv_has ls 4 [(2, .int SFL1)]) 38 [] (fun EXL1 => ?_) (fun H locs ls hX => ?_)
  · refine kb_loop (σ := (Int32)) (fun n i x => n + i = (cN (V.2.1 0)) ∧ lpu (f_X8_isCockOn_L1 V x0) n i x = SFL1 ∧ lpuD (f_X8_isCockOn_L1 V x0) (d_X8_isCockOn_L1 V x0) n i x) (fun iL1 x H locs ls => HP G A s.heap (w_O8 G g V) H locs ∧ lv_has ls 4 [(3, .int (nI iL1)), (2, .int x), (0, .ref (g 0)), (1, .int x0)]) (fun iL1 x H locs ls hI hX => ?_) (fun n iL1 x hI ihL1 H locs ls hX => ?_) (cN (V.2.1 0)) 0 (0 : Int32) _ _ _ ⟨Nat.add_zero _, hSFL1.symm, hDlL1⟩ ⟨hH, lv_sub hl [0, 1, 2, 3] rfl⟩
    · obtain ⟨L1a, exL1a⟩ : ∃ z, z = x := ⟨_, rfl⟩
      subst exL1a
      have hH : HP G A s.heap (w_O8 G g V) H locs := hX.1
      have hl : lv_has ls 4 [(3, .int (nI iL1)), (2, .int L1a), (0, .ref (g 0)), (1, .int x0)] := hX.2
      obtain ⟨hiL1, hs, _⟩ := hI
      have hiL1 : iL1 = (cN (V.2.1 0)) := by omega
      refine lv_iload_n hx hb dX8_isCockOn_4 rfl (lv_at hl 0 rfl) ?_
      refine lv_aload_n hx hb dX8_isCockOn_5 rfl (lv_at hl 2 rfl) ?_
      refine kb_get (v := .int (V.2.1 0)) hx hb hts hin8 hown hK hH 0 rfl rfl rfl 0 (by decide) (hts (.fieldLink RX8 53 "CockWarModel" "cocks" "I") (List.mem_of_getElem? (i := 1) rfl)) (fun _ h9 => h9) rfl dX8_isCockOn_6 ?_
      refine lv_icmp_ge (tgt := 38) hx hb dX8_isCockOn_9 (by decide) (fun _ => ?_) (fun c => absurd (cN_end hiL1) c)
      exact EXL1 _ _ _ ⟨by subst hs; exact hH, by subst hs; exact lv_sub hl [1] rfl⟩
    · obtain ⟨L1a, exL1a⟩ : ∃ z, z = x := ⟨_, rfl⟩
      subst exL1a
      have hH : HP G A s.heap (w_O8 G g V) H locs := hX.1
      have hl : lv_has ls 4 [(3, .int (nI iL1)), (2, .int L1a), (0, .ref (g 0)), (1, .int x0)] := hX.2
      obtain ⟨hiL1, hs, hDi⟩ := hI
      obtain ⟨hD, hDn⟩ := hDi
      have hD : (L1a = 0 → vp_in (nI iL1) 54) := hD
      have hltL1 : iL1 < (cN (V.2.1 0)) := by omega
      obtain ⟨BVL1, hBd⟩ : ∃ z, (f_X8_isCockOn_L1 V x0) iL1 L1a = z := ⟨_, rfl⟩
      have hs : lpu (f_X8_isCockOn_L1 V x0) n (iL1 + 1) BVL1 = SFL1 := by rw [← hBd]; exact hs
      have hDn : lpuD (f_X8_isCockOn_L1 V x0) (d_X8_isCockOn_L1 V x0) n (iL1 + 1) BVL1 := by rw [← hBd]; exact hDn
      have hBL1 : (if L1a = 0 then (if ((V.1 5) (nI iL1).toNatClampNeg) = x0 then (1 : Int32) else (0 : Int32)) else (1 : Int32)) = BVL1 := hBd
      refine lv_iload_n hx hb dX8_isCockOn_4 rfl (lv_at hl 0 rfl) ?_
      refine lv_aload_n hx hb dX8_isCockOn_5 rfl (lv_at hl 2 rfl) ?_
      refine kb_get (v := .int (V.2.1 0)) hx hb hts hin8 hown hK hH 0 rfl rfl rfl 0 (by decide) (hts (.fieldLink RX8 53 "CockWarModel" "cocks" "I") (List.mem_of_getElem? (i := 1) rfl)) (fun _ h9 => h9) rfl dX8_isCockOn_6 ?_
      refine lv_icmp_ge (tgt := 38) hx hb dX8_isCockOn_9 (by decide) (fun c => absurd c (cN_ge hltL1)) (fun c2 => ?_)
      refine lv_iload_n hx hb dX8_isCockOn_12 rfl (lv_at hl 1 rfl) ?_
      refine lv_if_ne (tgt := 26) hx hb dX8_isCockOn_13 (by decide) (fun c3 => ?_) (fun c3 => ?_)
      · rw [if_neg c3] at hBL1
        refine lv_iconst (v := 1) hx hb dX8_isCockOn_26 (by decide) ?_
        refine lv_goto (tgt := 31) hx hb dX8_isCockOn_27 (by decide) ?_
        refine lv_istore_n (lv' := [(2, .int (1 : Int32)), (3, .int (nI iL1)), (0, .ref (g 0)), (1, .int x0)]) hx hb dX8_isCockOn_31 rfl hl (by decide) rfl (fun ls hl => ?_)
        refine lv_iinc (v := (nI (iL1 + 1))) (lv' := [(3, .int (nI (iL1 + 1))), (2, .int (1 : Int32)), (0, .ref (g 0)), (1, .int x0)]) hx hb dX8_isCockOn_32 hl (k := 1) rfl (nI_1 _) (by decide) rfl (fun ls hl => ?_)
        refine lv_goto (tgt := 4) hx hb dX8_isCockOn_35 (by decide) ?_
        subst hBL1
        exact ihL1 _ _ _ _ ⟨by omega, hs, hDn⟩ ⟨hH, lv_sub hl [0, 1, 2, 3] rfl⟩
      · have hD := hD c3
        rw [if_pos c3] at hBL1
        refine lv_aload_n hx hb dX8_isCockOn_16 rfl (lv_at hl 2 rfl) ?_
        refine kb_get (v := .ref (g 6)) hx hb hts hin8 hown hK hH 0 rfl rfl rfl 5 (by decide) (hts (.fieldLink RX8 19 "CockWarModel" "now" "[I") (List.mem_of_getElem? (i := 2) rfl)) (fun _ h9 => h9) rfl dX8_isCockOn_17 ?_
        refine lv_iload_n hx hb dX8_isCockOn_20 rfl (lv_at hl 0 rfl) ?_
        have hz4 := hD
        refine kb_iald hx hb hK hH 4 rfl hz4 dX8_isCockOn_21 ?_
        refine lv_iload_n hx hb dX8_isCockOn_22 rfl (lv_at hl 3 rfl) ?_
        refine lv_icmp_ne (tgt := 30) hx hb dX8_isCockOn_23 (by decide) (fun c5 => ?_) (fun c5 => ?_)
        · rw [if_neg c5] at hBL1
          refine lv_iconst (v := 0) hx hb dX8_isCockOn_30 (by decide) ?_
          refine lv_istore_n (lv' := [(2, .int (0 : Int32)), (3, .int (nI iL1)), (0, .ref (g 0)), (1, .int x0)]) hx hb dX8_isCockOn_31 rfl hl (by decide) rfl (fun ls hl => ?_)
          refine lv_iinc (v := (nI (iL1 + 1))) (lv' := [(3, .int (nI (iL1 + 1))), (2, .int (0 : Int32)), (0, .ref (g 0)), (1, .int x0)]) hx hb dX8_isCockOn_32 hl (k := 1) rfl (nI_1 _) (by decide) rfl (fun ls hl => ?_)
          refine lv_goto (tgt := 4) hx hb dX8_isCockOn_35 (by decide) ?_
          subst hBL1
          exact ihL1 _ _ _ _ ⟨by omega, hs, hDn⟩ ⟨hH, lv_sub hl [0, 1, 2, 3] rfl⟩
        · rw [if_pos c5] at hBL1
          refine lv_iconst (v := 1) hx hb dX8_isCockOn_26 (by decide) ?_
          refine lv_goto (tgt := 31) hx hb dX8_isCockOn_27 (by decide) ?_
          refine lv_istore_n (lv' := [(2, .int (1 : Int32)), (3, .int (nI iL1)), (0, .ref (g 0)), (1, .int x0)]) hx hb dX8_isCockOn_31 rfl hl (by decide) rfl (fun ls hl => ?_)
          refine lv_iinc (v := (nI (iL1 + 1))) (lv' := [(3, .int (nI (iL1 + 1))), (2, .int (1 : Int32)), (0, .ref (g 0)), (1, .int x0)]) hx hb dX8_isCockOn_32 hl (k := 1) rfl (nI_1 _) (by decide) rfl (fun ls hl => ?_)
          refine lv_goto (tgt := 4) hx hb dX8_isCockOn_35 (by decide) ?_
          subst hBL1
          exact ihL1 _ _ _ _ ⟨by omega, hs, hDn⟩ ⟨hH, lv_sub hl [0, 1, 2, 3] rfl⟩
  · obtain ⟨hH, hl⟩ := hX
    refine lv_iload_n hx hb dX8_isCockOn_38 rfl (lv_at hl 0 rfl) ?_
    subst hF
    exact kb_zret hx hb hr hH rfl rfl (kb_nar _ hD) dX8_isCockOn_39 hlocks
def f_X8_move (V : OV) (x0 : Int32) (x1 : Int32) : (Int32 × OV) := (if (f_X8_isCock V x0) = 0 then ((-1 : Int32), V) else (if (f_X8_in (x1.toInt64) (0 : Int64) (9 : Int64)) = 0 then ((-2 : Int32), V) else (if (f_X8_isCockOn V x1) = 0 then (kAp (f_X8_keepAct V) (fun q5 => (((q5.1 5) (x0).toNatClampNeg), (oA q5 5 (upd (q5.1 5) (x0).toNatClampNeg x1))))) else ((-3 : Int32), V))))
def d_X8_move (V : OV) (x0 : Int32) (x1 : Int32) : Prop := (¬ ((f_X8_isCock V x0) = 0) → (¬ ((f_X8_in (x1.toInt64) (0 : Int64) (9 : Int64)) = 0) → ((d_X8_isCockOn V x1) ∧ ((f_X8_isCockOn V x1) = 0 → ((d_X8_keepAct V) ∧ (kAp (f_X8_keepAct V) (fun q5 => (vp_in x0 54 ∧ vp_in x0 54))))))))
set_option maxHeartbeats 4000000 in
set_option maxRecDepth 100000 in
theorem c_X8_move (l : Launch) (G : Ge) (g : Nat → Nat) (V : OV) (x0 : Int32) (x1 : Int32) (hD : d_X8_move V x0 x1) {F : (Int32 × OV)} (hF : f_X8_move V x0 x1 = F) : CI l yX8_move wsX8_move { frames := 2, cells := 0, slots := 0, locals := 46 } [.ref (g 0), .int x0, .int x1] G (w_O8 G g V) (w_O8 G g F.2) F.1 := by
  intro sz
  refine Met.ofW (cc := cX8_move) (maxL := 4) (ret := (some .int)) (by decide) rfl ?_
  intro p e s m args below meth c s₁ B hml hv
  obtain ⟨rfl, hpre⟩ := hv
  obtain ⟨hsz, hH, hK, hN, hA⟩ := kb_start hpre
  subst hsz
  have hx := B.exec
  have hb := B.bytes
  have hr := B.returns
  have hts := atoms_spec (ws := wsX8_move) B.pre
  have hown : s.vm.findClass RX8 = some m.cls := findClass_of_methodNamed B.named
  have hlocks := B.notSynchronized
  generalize hAe : va_A (List.flatten (w_O8 G g V)) s.heap.size = A at hH hA ⊢
  have hl := lv_entry ([.ref (g 0), .int x0, .int x1]) (n := 4) (Nat.le_of_ble_eq_true rfl)
  rw [lg_entry_eq]
  generalize (lg_sl ([.ref (g 0), .int x0, .int x1]) ++ List.replicate (4 - (lg_sl ([.ref (g 0), .int x0, .int x1])).length) Slot.unset).toArray = ls at hl ⊢
  have hl : lv_has ls 4 [(0, .ref (g 0)), (1, .int x0), (2, .int x1)] := hl
  have hH : HP G A s.heap (w_O8 G g V) s.heap [] := hH
  have hin8 : ∀ w ∈ u_ws RX8 TX8 31, w ∈ wsX8_move := fun w h => List.mem_cons_of_mem _ (List.mem_append_right _ h)
  have hF : (if (f_X8_isCock V x0) = 0 then ((-1 : Int32), V) else (if (f_X8_in (x1.toInt64) (0 : Int64) (9 : Int64)) = 0 then ((-2 : Int32), V) else (if (f_X8_isCockOn V x1) = 0 then (kAp (f_X8_keepAct V) (fun q5 => (((q5.1 5) (x0).toNatClampNeg), (oA q5 5 (upd (q5.1 5) (x0).toNatClampNeg x1))))) else ((-3 : Int32), V)))) = F := hF
  have hD : (¬ ((f_X8_isCock V x0) = 0) → (¬ ((f_X8_in (x1.toInt64) (0 : Int64) (9 : Int64)) = 0) → ((d_X8_isCockOn V x1) ∧ ((f_X8_isCockOn V x1) = 0 → ((d_X8_keepAct V) ∧ (kAp (f_X8_keepAct V) (fun q5 => (vp_in x0 54 ∧ vp_in x0 54)))))))) := hD
  refine lv_aload_n hx hb dX8_move_0 rfl (lv_at hl 0 rfl) ?_
  refine lv_iload_n hx hb dX8_move_1 rfl (lv_at hl 1 rfl) ?_
  refine kb_ci hH hA [0, 1, 2, 3, 4, 5, 6, 7, 8, 9, 10, 11, 12, 13, 14] (Wc := (w_O8 G g V)) (Wc' := (w_O8 G g V)) (WS' := (w_O8 G g V)) rfl (by decide) rfl rfl (va_runV (As := [.int x0]) (rest := []) ⟨hx, hb, hml, hown, hts⟩ (c_X8_isCock l G g V x0 rfl _) (cwV 1 hts gX8_move_X8_isCock rfl rfl rfl he_X8_isCock ⟨Nat.le_of_ble_eq_true rfl, Nat.le_of_ble_eq_true rfl⟩) (kb_preV hH hK hN [0, 1, 2, 3, 4, 5, 6, 7, 8, 9, 10, 11, 12, 13, 14] rfl (by decide) 0 rfl rfl rfl rfl) rfl rfl hl.1 rfl (lv_room (Nat.le_of_ble_eq_true rfl)) dX8_move_2 ⟨Nat.le_of_ble_eq_true rfl, Nat.le_of_ble_eq_true rfl⟩) (fun H locs hH => ?_)
  refine lv_if_ne (tgt := 10) hx hb dX8_move_5 (by decide) (fun c1 => ?_) (fun c1 => ?_)
  · have hD := hD c1
    rw [if_neg c1] at hF
    refine lv_iload_n hx hb dX8_move_10 rfl (lv_at hl 2 rfl) ?_
    refine lv_i2l (v := (x1.toInt64)) hx hb dX8_move_11 rfl ?_
    refine lv_lconst (v := 0) hx hb dX8_move_12 (by decide) ?_
    refine lv_ldc2 (v := 9) hx hb hown (hts (.constantLong RX8 72 (9)) (List.mem_of_getElem? (i := 1) rfl)) dX8_move_13 ?_
    refine kb_ci hH hA [] (Wc := ([] : List va_W)) (Wc' := ([] : List va_W)) (WS' := (w_O8 G g V)) rfl (by decide) rfl rfl (va_runS (As := [.long (x1.toInt64), .long (0 : Int64), .long (9 : Int64)]) (rest := []) ⟨hx, hb, hml, hown, hts⟩ (c_X8_in l G (x1.toInt64) (0 : Int64) (9 : Int64) rfl _) (va_cwS 3 hts gX8_move_X8_in rfl rfl rfl hd_X8_in ⟨Nat.le_of_ble_eq_true rfl, Nat.le_of_ble_eq_true rfl⟩) (kb_preS hH hK hN [] rfl (by decide)) rfl rfl hl.1 rfl (lv_room (Nat.le_of_ble_eq_true rfl)) dX8_move_16 ⟨Nat.le_of_ble_eq_true rfl, Nat.le_of_ble_eq_true rfl⟩) (fun H locs hH => ?_)
    refine lv_if_ne (tgt := 25) hx hb dX8_move_19 (by decide) (fun c2 => ?_) (fun c2 => ?_)
    · have hD := hD c2
      rw [if_neg c2] at hF
      refine lv_aload_n hx hb dX8_move_25 rfl (lv_at hl 0 rfl) ?_
      refine lv_iload_n hx hb dX8_move_26 rfl (lv_at hl 2 rfl) ?_
      obtain ⟨hz3, hD⟩ := hD
      refine kb_ci hH hA [0, 1, 2, 3, 4, 5, 6, 7, 8, 9, 10, 11, 12, 13, 14] (Wc := (w_O8 G g V)) (Wc' := (w_O8 G g V)) (WS' := (w_O8 G g V)) rfl (by decide) rfl rfl (va_runV (As := [.int x1]) (rest := []) ⟨hx, hb, hml, hown, hts⟩ (c_X8_isCockOn l G g V x1 hz3 rfl _) (cwV 1 hts gX8_move_X8_isCockOn rfl rfl rfl he_X8_isCockOn ⟨Nat.le_of_ble_eq_true rfl, Nat.le_of_ble_eq_true rfl⟩) (kb_preV hH hK hN [0, 1, 2, 3, 4, 5, 6, 7, 8, 9, 10, 11, 12, 13, 14] rfl (by decide) 0 rfl rfl rfl rfl) rfl rfl hl.1 rfl (lv_room (Nat.le_of_ble_eq_true rfl)) dX8_move_27 ⟨Nat.le_of_ble_eq_true rfl, Nat.le_of_ble_eq_true rfl⟩) (fun H locs hH => ?_)
      refine lv_if_eq (tgt := 36) hx hb dX8_move_30 (by decide) (fun c4 => ?_) (fun c4 => ?_)
      · have hD := hD c4
        rw [if_pos c4] at hF
        refine lv_aload_n hx hb dX8_move_36 rfl (lv_at hl 0 rfl) ?_
        obtain ⟨hz6, hD⟩ := hD
        obtain ⟨q5, hq5⟩ : ∃ z, z = (f_X8_keepAct V) := ⟨_, rfl⟩
        have hF := kAp_eq hF hq5
        have hD := kAp_D hD hq5
        refine kb_cv hH hA [0, 1, 2, 3, 4, 5, 6, 7, 8, 9, 10, 11, 12, 13, 14] (Wc := (w_O8 G g V)) (Wc' := (w_O8 G g q5)) (WS' := (w_O8 G g q5)) rfl (by decide) rfl rfl (va_runV (As := []) (rest := []) ⟨hx, hb, hml, hown, hts⟩ (c_X8_keepAct l G g V hz6 hq5.symm _) (cwV 0 hts gX8_move_X8_keepAct rfl rfl rfl he_X8_keepAct ⟨Nat.le_of_ble_eq_true rfl, Nat.le_of_ble_eq_true rfl⟩) (kb_preV hH hK hN [0, 1, 2, 3, 4, 5, 6, 7, 8, 9, 10, 11, 12, 13, 14] rfl (by decide) 0 rfl rfl rfl rfl) rfl rfl hl.1 rfl (lv_room (Nat.le_of_ble_eq_true rfl)) dX8_move_37 ⟨Nat.le_of_ble_eq_true rfl, Nat.le_of_ble_eq_true rfl⟩) (fun H locs hH => ?_)
        refine lv_aload_n hx hb dX8_move_40 rfl (lv_at hl 0 rfl) ?_
        refine kb_get (v := .ref (g 6)) hx hb hts hin8 hown hK hH 0 rfl rfl rfl 5 (by decide) (hts (.fieldLink RX8 19 "CockWarModel" "now" "[I") (List.mem_of_getElem? (i := 2) rfl)) (fun _ h9 => h9) rfl dX8_move_41 ?_
        refine lv_iload_n hx hb dX8_move_44 rfl (lv_at hl 1 rfl) ?_
        obtain ⟨hz7, hD⟩ := hD
        refine kb_iald hx hb hK hH 4 rfl hz7 dX8_move_45 ?_
        refine lv_istore_n (lv' := [(3, .int ((q5.1 5) (x0).toNatClampNeg)), (0, .ref (g 0)), (1, .int x0), (2, .int x1)]) hx hb dX8_move_46 rfl hl (by decide) rfl (fun ls hl => ?_)
        refine lv_aload_n hx hb dX8_move_47 rfl (lv_at hl 1 rfl) ?_
        refine kb_get (v := .ref (g 6)) hx hb hts hin8 hown hK hH 0 rfl rfl rfl 5 (by decide) (hts (.fieldLink RX8 19 "CockWarModel" "now" "[I") (List.mem_of_getElem? (i := 2) rfl)) (fun _ h9 => h9) rfl dX8_move_48 ?_
        refine lv_iload_n hx hb dX8_move_51 rfl (lv_at hl 2 rfl) ?_
        refine lv_iload_n hx hb dX8_move_52 rfl (lv_at hl 3 rfl) ?_
        have hz8 := hD
        refine kb_iast (WS' := (w_O8 G g (oA q5 5 (upd (q5.1 5) (x0).toNatClampNeg x1)))) hx hb hK hH 4 rfl hz8 rfl dX8_move_53 (fun H locs hH => ?_)
        refine lv_iload_n hx hb dX8_move_54 rfl (lv_at hl 0 rfl) ?_
        subst hF
        exact kb_iret hx hb hr hH rfl rfl dX8_move_55 hlocks
      · rw [if_neg c4] at hF
        refine lv_bipush (v := -3) hx hb dX8_move_33 (by decide) ?_
        subst hF
        exact kb_iret hx hb hr hH rfl rfl dX8_move_35 hlocks
    · rw [if_pos c2] at hF
      refine lv_bipush (v := -2) hx hb dX8_move_22 (by decide) ?_
      subst hF
      exact kb_iret hx hb hr hH rfl rfl dX8_move_24 hlocks
  · rw [if_pos c1] at hF
    refine lv_iconst (v := -1) hx hb dX8_move_8 (by decide) ?_
    subst hF
    exact kb_iret hx hb hr hH rfl rfl dX8_move_9 hlocks
def f_X8_grease (V : OV) (x0 : Int32) : (Int32 × OV) := (if (f_X8_isCock V x0) = 0 then ((-1 : Int32), V) else (if ((V.1 5) ((6 : Int32) + x0).toNatClampNeg) = 0 then ((-3 : Int32), V) else (kAp (f_X8_keepAct V) (fun q4 => (((q4.1 5) ((6 : Int32) + x0).toNatClampNeg), (oA q4 5 (upd (q4.1 5) ((6 : Int32) + x0).toNatClampNeg (0 : Int32))))))))
def d_X8_grease (V : OV) (x0 : Int32) : Prop := (¬ ((f_X8_isCock V x0) = 0) → (vp_in ((6 : Int32) + x0) 54 ∧ (¬ (((V.1 5) ((6 : Int32) + x0).toNatClampNeg) = 0) → ((d_X8_keepAct V) ∧ (kAp (f_X8_keepAct V) (fun q4 => (vp_in ((6 : Int32) + x0) 54 ∧ vp_in ((6 : Int32) + x0) 54)))))))
set_option maxHeartbeats 4000000 in
set_option maxRecDepth 100000 in
theorem c_X8_grease (l : Launch) (G : Ge) (g : Nat → Nat) (V : OV) (x0 : Int32) (hD : d_X8_grease V x0) {F : (Int32 × OV)} (hF : f_X8_grease V x0 = F) : CI l yX8_grease wsX8_grease { frames := 2, cells := 0, slots := 0, locals := 46 } [.ref (g 0), .int x0] G (w_O8 G g V) (w_O8 G g F.2) F.1 := by
  intro sz
  refine Met.ofW (cc := cX8_grease) (maxL := 3) (ret := (some .int)) (by decide) rfl ?_
  intro p e s m args below meth c s₁ B hml hv
  obtain ⟨rfl, hpre⟩ := hv
  obtain ⟨hsz, hH, hK, hN, hA⟩ := kb_start hpre
  subst hsz
  have hx := B.exec
  have hb := B.bytes
  have hr := B.returns
  have hts := atoms_spec (ws := wsX8_grease) B.pre
  have hown : s.vm.findClass RX8 = some m.cls := findClass_of_methodNamed B.named
  have hlocks := B.notSynchronized
  generalize hAe : va_A (List.flatten (w_O8 G g V)) s.heap.size = A at hH hA ⊢
  have hl := lv_entry ([.ref (g 0), .int x0]) (n := 3) (Nat.le_of_ble_eq_true rfl)
  rw [lg_entry_eq]
  generalize (lg_sl ([.ref (g 0), .int x0]) ++ List.replicate (3 - (lg_sl ([.ref (g 0), .int x0])).length) Slot.unset).toArray = ls at hl ⊢
  have hl : lv_has ls 3 [(0, .ref (g 0)), (1, .int x0)] := hl
  have hH : HP G A s.heap (w_O8 G g V) s.heap [] := hH
  have hin8 : ∀ w ∈ u_ws RX8 TX8 31, w ∈ wsX8_grease := fun w h => List.mem_cons_of_mem _ (List.mem_append_right _ h)
  have hF : (if (f_X8_isCock V x0) = 0 then ((-1 : Int32), V) else (if ((V.1 5) ((6 : Int32) + x0).toNatClampNeg) = 0 then ((-3 : Int32), V) else (kAp (f_X8_keepAct V) (fun q4 => (((q4.1 5) ((6 : Int32) + x0).toNatClampNeg), (oA q4 5 (upd (q4.1 5) ((6 : Int32) + x0).toNatClampNeg (0 : Int32)))))))) = F := hF
  have hD : (¬ ((f_X8_isCock V x0) = 0) → (vp_in ((6 : Int32) + x0) 54 ∧ (¬ (((V.1 5) ((6 : Int32) + x0).toNatClampNeg) = 0) → ((d_X8_keepAct V) ∧ (kAp (f_X8_keepAct V) (fun q4 => (vp_in ((6 : Int32) + x0) 54 ∧ vp_in ((6 : Int32) + x0) 54))))))) := hD
  refine lv_aload_n hx hb dX8_grease_0 rfl (lv_at hl 0 rfl) ?_
  refine lv_iload_n hx hb dX8_grease_1 rfl (lv_at hl 1 rfl) ?_
  refine kb_ci hH hA [0, 1, 2, 3, 4, 5, 6, 7, 8, 9, 10, 11, 12, 13, 14] (Wc := (w_O8 G g V)) (Wc' := (w_O8 G g V)) (WS' := (w_O8 G g V)) rfl (by decide) rfl rfl (va_runV (As := [.int x0]) (rest := []) ⟨hx, hb, hml, hown, hts⟩ (c_X8_isCock l G g V x0 rfl _) (cwV 1 hts gX8_grease_X8_isCock rfl rfl rfl he_X8_isCock ⟨Nat.le_of_ble_eq_true rfl, Nat.le_of_ble_eq_true rfl⟩) (kb_preV hH hK hN [0, 1, 2, 3, 4, 5, 6, 7, 8, 9, 10, 11, 12, 13, 14] rfl (by decide) 0 rfl rfl rfl rfl) rfl rfl hl.1 rfl (lv_room (Nat.le_of_ble_eq_true rfl)) dX8_grease_2 ⟨Nat.le_of_ble_eq_true rfl, Nat.le_of_ble_eq_true rfl⟩) (fun H locs hH => ?_)
  refine lv_if_ne (tgt := 10) hx hb dX8_grease_5 (by decide) (fun c1 => ?_) (fun c1 => ?_)
  · have hD := hD c1
    rw [if_neg c1] at hF
    refine lv_aload_n hx hb dX8_grease_10 rfl (lv_at hl 0 rfl) ?_
    refine kb_get (v := .ref (g 6)) hx hb hts hin8 hown hK hH 0 rfl rfl rfl 5 (by decide) (hts (.fieldLink RX8 19 "CockWarModel" "now" "[I") (List.mem_of_getElem? (i := 1) rfl)) (fun _ h9 => h9) rfl dX8_grease_11 ?_
    refine lv_bipush (v := 6) hx hb dX8_grease_14 (by decide) ?_
    refine lv_iload_n hx hb dX8_grease_16 rfl (lv_at hl 1 rfl) ?_
    refine lv_iadd hx hb dX8_grease_17 ?_
    obtain ⟨hz2, hD⟩ := hD
    refine kb_iald hx hb hK hH 4 rfl hz2 dX8_grease_18 ?_
    refine lv_if_ne (tgt := 25) hx hb dX8_grease_19 (by decide) (fun c3 => ?_) (fun c3 => ?_)
    · have hD := hD c3
      rw [if_neg c3] at hF
      refine lv_aload_n hx hb dX8_grease_25 rfl (lv_at hl 0 rfl) ?_
      obtain ⟨hz5, hD⟩ := hD
      obtain ⟨q4, hq4⟩ : ∃ z, z = (f_X8_keepAct V) := ⟨_, rfl⟩
      have hF := kAp_eq hF hq4
      have hD := kAp_D hD hq4
      refine kb_cv hH hA [0, 1, 2, 3, 4, 5, 6, 7, 8, 9, 10, 11, 12, 13, 14] (Wc := (w_O8 G g V)) (Wc' := (w_O8 G g q4)) (WS' := (w_O8 G g q4)) rfl (by decide) rfl rfl (va_runV (As := []) (rest := []) ⟨hx, hb, hml, hown, hts⟩ (c_X8_keepAct l G g V hz5 hq4.symm _) (cwV 0 hts gX8_grease_X8_keepAct rfl rfl rfl he_X8_keepAct ⟨Nat.le_of_ble_eq_true rfl, Nat.le_of_ble_eq_true rfl⟩) (kb_preV hH hK hN [0, 1, 2, 3, 4, 5, 6, 7, 8, 9, 10, 11, 12, 13, 14] rfl (by decide) 0 rfl rfl rfl rfl) rfl rfl hl.1 rfl (lv_room (Nat.le_of_ble_eq_true rfl)) dX8_grease_26 ⟨Nat.le_of_ble_eq_true rfl, Nat.le_of_ble_eq_true rfl⟩) (fun H locs hH => ?_)
      refine lv_aload_n hx hb dX8_grease_29 rfl (lv_at hl 0 rfl) ?_
      refine kb_get (v := .ref (g 6)) hx hb hts hin8 hown hK hH 0 rfl rfl rfl 5 (by decide) (hts (.fieldLink RX8 19 "CockWarModel" "now" "[I") (List.mem_of_getElem? (i := 1) rfl)) (fun _ h9 => h9) rfl dX8_grease_30 ?_
      refine lv_bipush (v := 6) hx hb dX8_grease_33 (by decide) ?_
      refine lv_iload_n hx hb dX8_grease_35 rfl (lv_at hl 1 rfl) ?_
      refine lv_iadd hx hb dX8_grease_36 ?_
      obtain ⟨hz6, hD⟩ := hD
      refine kb_iald hx hb hK hH 4 rfl hz6 dX8_grease_37 ?_
      refine lv_istore_n (lv' := [(2, .int ((q4.1 5) ((6 : Int32) + x0).toNatClampNeg)), (0, .ref (g 0)), (1, .int x0)]) hx hb dX8_grease_38 rfl hl (by decide) rfl (fun ls hl => ?_)
      refine lv_aload_n hx hb dX8_grease_39 rfl (lv_at hl 1 rfl) ?_
      refine kb_get (v := .ref (g 6)) hx hb hts hin8 hown hK hH 0 rfl rfl rfl 5 (by decide) (hts (.fieldLink RX8 19 "CockWarModel" "now" "[I") (List.mem_of_getElem? (i := 1) rfl)) (fun _ h9 => h9) rfl dX8_grease_40 ?_
      refine lv_bipush (v := 6) hx hb dX8_grease_43 (by decide) ?_
      refine lv_iload_n hx hb dX8_grease_45 rfl (lv_at hl 2 rfl) ?_
      refine lv_iadd hx hb dX8_grease_46 ?_
      refine lv_iconst (v := 0) hx hb dX8_grease_47 (by decide) ?_
      have hz7 := hD
      refine kb_iast (WS' := (w_O8 G g (oA q4 5 (upd (q4.1 5) ((6 : Int32) + x0).toNatClampNeg (0 : Int32))))) hx hb hK hH 4 rfl hz7 rfl dX8_grease_48 (fun H locs hH => ?_)
      refine lv_iload_n hx hb dX8_grease_49 rfl (lv_at hl 0 rfl) ?_
      subst hF
      exact kb_iret hx hb hr hH rfl rfl dX8_grease_50 hlocks
    · rw [if_pos c3] at hF
      refine lv_bipush (v := -3) hx hb dX8_grease_22 (by decide) ?_
      subst hF
      exact kb_iret hx hb hr hH rfl rfl dX8_grease_24 hlocks
  · rw [if_pos c1] at hF
    refine lv_iconst (v := -1) hx hb dX8_grease_8 (by decide) ?_
    subst hF
    exact kb_iret hx hb hr hH rfl rfl dX8_grease_9 hlocks
def f_X8_capture (V : OV) (x0 : Int32) : (Int32 × OV) := (if (f_X8_isCock V x0) = 0 then ((-1 : Int32), V) else (kAp (f_X8_keepAct V) (fun q2 => (((((upd (q2.1 5) (22 : Int32).toNatClampNeg (((q2.1 5) (22 : Int32).toNatClampNeg) ^^^ ((1 : Int32) <<< (x0 &&& 31)))) (22 : Int32).toNatClampNeg) >>> (x0 &&& 31)) &&& (1 : Int32)), (oA q2 5 (upd (q2.1 5) (22 : Int32).toNatClampNeg (((q2.1 5) (22 : Int32).toNatClampNeg) ^^^ ((1 : Int32) <<< (x0 &&& 31)))))))))
def d_X8_capture (V : OV) (x0 : Int32) : Prop := (¬ ((f_X8_isCock V x0) = 0) → (d_X8_keepAct V))
set_option maxHeartbeats 4000000 in
set_option maxRecDepth 100000 in
theorem c_X8_capture (l : Launch) (G : Ge) (g : Nat → Nat) (V : OV) (x0 : Int32) (hD : d_X8_capture V x0) {F : (Int32 × OV)} (hF : f_X8_capture V x0 = F) : CI l yX8_capture wsX8_capture { frames := 2, cells := 0, slots := 0, locals := 46 } [.ref (g 0), .int x0] G (w_O8 G g V) (w_O8 G g F.2) F.1 := by
  intro sz
  refine Met.ofW (cc := cX8_capture) (maxL := 2) (ret := (some .int)) (by decide) rfl ?_
  intro p e s m args below meth c s₁ B hml hv
  obtain ⟨rfl, hpre⟩ := hv
  obtain ⟨hsz, hH, hK, hN, hA⟩ := kb_start hpre
  subst hsz
  have hx := B.exec
  have hb := B.bytes
  have hr := B.returns
  have hts := atoms_spec (ws := wsX8_capture) B.pre
  have hown : s.vm.findClass RX8 = some m.cls := findClass_of_methodNamed B.named
  have hlocks := B.notSynchronized
  generalize hAe : va_A (List.flatten (w_O8 G g V)) s.heap.size = A at hH hA ⊢
  have hl := lv_entry ([.ref (g 0), .int x0]) (n := 2) (Nat.le_of_ble_eq_true rfl)
  rw [lg_entry_eq]
  generalize (lg_sl ([.ref (g 0), .int x0]) ++ List.replicate (2 - (lg_sl ([.ref (g 0), .int x0])).length) Slot.unset).toArray = ls at hl ⊢
  have hl : lv_has ls 2 [(0, .ref (g 0)), (1, .int x0)] := hl
  have hH : HP G A s.heap (w_O8 G g V) s.heap [] := hH
  have hin8 : ∀ w ∈ u_ws RX8 TX8 31, w ∈ wsX8_capture := fun w h => List.mem_cons_of_mem _ (List.mem_append_right _ h)
  have hF : (if (f_X8_isCock V x0) = 0 then ((-1 : Int32), V) else (kAp (f_X8_keepAct V) (fun q2 => (((((upd (q2.1 5) (22 : Int32).toNatClampNeg (((q2.1 5) (22 : Int32).toNatClampNeg) ^^^ ((1 : Int32) <<< (x0 &&& 31)))) (22 : Int32).toNatClampNeg) >>> (x0 &&& 31)) &&& (1 : Int32)), (oA q2 5 (upd (q2.1 5) (22 : Int32).toNatClampNeg (((q2.1 5) (22 : Int32).toNatClampNeg) ^^^ ((1 : Int32) <<< (x0 &&& 31))))))))) = F := hF
  have hD : (¬ ((f_X8_isCock V x0) = 0) → (d_X8_keepAct V)) := hD
  refine lv_aload_n hx hb dX8_capture_0 rfl (lv_at hl 0 rfl) ?_
  refine lv_iload_n hx hb dX8_capture_1 rfl (lv_at hl 1 rfl) ?_
  refine kb_ci hH hA [0, 1, 2, 3, 4, 5, 6, 7, 8, 9, 10, 11, 12, 13, 14] (Wc := (w_O8 G g V)) (Wc' := (w_O8 G g V)) (WS' := (w_O8 G g V)) rfl (by decide) rfl rfl (va_runV (As := [.int x0]) (rest := []) ⟨hx, hb, hml, hown, hts⟩ (c_X8_isCock l G g V x0 rfl _) (cwV 1 hts gX8_capture_X8_isCock rfl rfl rfl he_X8_isCock ⟨Nat.le_of_ble_eq_true rfl, Nat.le_of_ble_eq_true rfl⟩) (kb_preV hH hK hN [0, 1, 2, 3, 4, 5, 6, 7, 8, 9, 10, 11, 12, 13, 14] rfl (by decide) 0 rfl rfl rfl rfl) rfl rfl hl.1 rfl (lv_room (Nat.le_of_ble_eq_true rfl)) dX8_capture_2 ⟨Nat.le_of_ble_eq_true rfl, Nat.le_of_ble_eq_true rfl⟩) (fun H locs hH => ?_)
  refine lv_if_ne (tgt := 10) hx hb dX8_capture_5 (by decide) (fun c1 => ?_) (fun c1 => ?_)
  · have hD := hD c1
    rw [if_neg c1] at hF
    refine lv_aload_n hx hb dX8_capture_10 rfl (lv_at hl 0 rfl) ?_
    have hz3 := hD
    obtain ⟨q2, hq2⟩ : ∃ z, z = (f_X8_keepAct V) := ⟨_, rfl⟩
    have hF := kAp_eq hF hq2
    refine kb_cv hH hA [0, 1, 2, 3, 4, 5, 6, 7, 8, 9, 10, 11, 12, 13, 14] (Wc := (w_O8 G g V)) (Wc' := (w_O8 G g q2)) (WS' := (w_O8 G g q2)) rfl (by decide) rfl rfl (va_runV (As := []) (rest := []) ⟨hx, hb, hml, hown, hts⟩ (c_X8_keepAct l G g V hz3 hq2.symm _) (cwV 0 hts gX8_capture_X8_keepAct rfl rfl rfl he_X8_keepAct ⟨Nat.le_of_ble_eq_true rfl, Nat.le_of_ble_eq_true rfl⟩) (kb_preV hH hK hN [0, 1, 2, 3, 4, 5, 6, 7, 8, 9, 10, 11, 12, 13, 14] rfl (by decide) 0 rfl rfl rfl rfl) rfl rfl hl.1 rfl (lv_room (Nat.le_of_ble_eq_true rfl)) dX8_capture_11 ⟨Nat.le_of_ble_eq_true rfl, Nat.le_of_ble_eq_true rfl⟩) (fun H locs hH => ?_)
    refine lv_aload_n hx hb dX8_capture_14 rfl (lv_at hl 0 rfl) ?_
    refine kb_get (v := .ref (g 6)) hx hb hts hin8 hown hK hH 0 rfl rfl rfl 5 (by decide) (hts (.fieldLink RX8 19 "CockWarModel" "now" "[I") (List.mem_of_getElem? (i := 1) rfl)) (fun _ h9 => h9) rfl dX8_capture_15 ?_
    refine lv_bipush (v := 22) hx hb dX8_capture_18 (by decide) ?_
    refine lv_dup2_11 hx hb dX8_capture_20 rfl rfl ?_
    refine kb_iald hx hb hK hH 4 rfl (show ¬ ((22 : Int32) < 0 ∨ 54 ≤ (22 : Int32).toNatClampNeg) by decide) dX8_capture_21 ?_
    refine lv_iconst (v := 1) hx hb dX8_capture_22 (by decide) ?_
    refine lv_iload_n hx hb dX8_capture_23 rfl (lv_at hl 1 rfl) ?_
    refine lv_ishl hx hb dX8_capture_24 ?_
    refine lv_ixor hx hb dX8_capture_25 ?_
    refine kb_iast (WS' := (w_O8 G g (oA q2 5 (upd (q2.1 5) (22 : Int32).toNatClampNeg (((q2.1 5) (22 : Int32).toNatClampNeg) ^^^ ((1 : Int32) <<< (x0 &&& 31))))))) hx hb hK hH 4 rfl (show ¬ ((22 : Int32) < 0 ∨ 54 ≤ (22 : Int32).toNatClampNeg) by decide) rfl dX8_capture_26 (fun H locs hH => ?_)
    refine lv_aload_n hx hb dX8_capture_27 rfl (lv_at hl 0 rfl) ?_
    refine kb_get (v := .ref (g 6)) hx hb hts hin8 hown hK hH 0 rfl rfl rfl 5 (by decide) (hts (.fieldLink RX8 19 "CockWarModel" "now" "[I") (List.mem_of_getElem? (i := 1) rfl)) (fun _ h9 => h9) rfl dX8_capture_28 ?_
    refine lv_bipush (v := 22) hx hb dX8_capture_31 (by decide) ?_
    refine kb_iald hx hb hK hH 4 rfl (show ¬ ((22 : Int32) < 0 ∨ 54 ≤ (22 : Int32).toNatClampNeg) by decide) dX8_capture_33 ?_
    refine lv_iload_n hx hb dX8_capture_34 rfl (lv_at hl 1 rfl) ?_
    refine lv_ishr hx hb dX8_capture_35 ?_
    refine lv_iconst (v := 1) hx hb dX8_capture_36 (by decide) ?_
    refine lv_iand hx hb dX8_capture_37 ?_
    subst hF
    exact kb_iret hx hb hr hH rfl rfl dX8_capture_38 hlocks
  · rw [if_pos c1] at hF
    refine lv_iconst (v := -1) hx hb dX8_capture_8 (by decide) ?_
    subst hF
    exact kb_iret hx hb hr hH rfl rfl dX8_capture_9 hlocks
def f_X8_hold (V : OV) (x0 : Int32) : (Int32 × OV) := (if (f_X8_isCock V x0) = 0 then ((-1 : Int32), V) else (kAp (f_X8_keepAct V) (fun q2 => (((((upd (q2.1 5) (24 : Int32).toNatClampNeg (((q2.1 5) (24 : Int32).toNatClampNeg) ^^^ ((1 : Int32) <<< (x0 &&& 31)))) (24 : Int32).toNatClampNeg) >>> (x0 &&& 31)) &&& (1 : Int32)), (oA q2 5 (upd (q2.1 5) (24 : Int32).toNatClampNeg (((q2.1 5) (24 : Int32).toNatClampNeg) ^^^ ((1 : Int32) <<< (x0 &&& 31)))))))))
def d_X8_hold (V : OV) (x0 : Int32) : Prop := (¬ ((f_X8_isCock V x0) = 0) → (d_X8_keepAct V))
set_option maxHeartbeats 4000000 in
set_option maxRecDepth 100000 in
theorem c_X8_hold (l : Launch) (G : Ge) (g : Nat → Nat) (V : OV) (x0 : Int32) (hD : d_X8_hold V x0) {F : (Int32 × OV)} (hF : f_X8_hold V x0 = F) : CI l yX8_hold wsX8_hold { frames := 2, cells := 0, slots := 0, locals := 46 } [.ref (g 0), .int x0] G (w_O8 G g V) (w_O8 G g F.2) F.1 := by
  intro sz
  refine Met.ofW (cc := cX8_hold) (maxL := 2) (ret := (some .int)) (by decide) rfl ?_
  intro p e s m args below meth c s₁ B hml hv
  obtain ⟨rfl, hpre⟩ := hv
  obtain ⟨hsz, hH, hK, hN, hA⟩ := kb_start hpre
  subst hsz
  have hx := B.exec
  have hb := B.bytes
  have hr := B.returns
  have hts := atoms_spec (ws := wsX8_hold) B.pre
  have hown : s.vm.findClass RX8 = some m.cls := findClass_of_methodNamed B.named
  have hlocks := B.notSynchronized
  generalize hAe : va_A (List.flatten (w_O8 G g V)) s.heap.size = A at hH hA ⊢
  have hl := lv_entry ([.ref (g 0), .int x0]) (n := 2) (Nat.le_of_ble_eq_true rfl)
  rw [lg_entry_eq]
  generalize (lg_sl ([.ref (g 0), .int x0]) ++ List.replicate (2 - (lg_sl ([.ref (g 0), .int x0])).length) Slot.unset).toArray = ls at hl ⊢
  have hl : lv_has ls 2 [(0, .ref (g 0)), (1, .int x0)] := hl
  have hH : HP G A s.heap (w_O8 G g V) s.heap [] := hH
  have hin8 : ∀ w ∈ u_ws RX8 TX8 31, w ∈ wsX8_hold := fun w h => List.mem_cons_of_mem _ (List.mem_append_right _ h)
  have hF : (if (f_X8_isCock V x0) = 0 then ((-1 : Int32), V) else (kAp (f_X8_keepAct V) (fun q2 => (((((upd (q2.1 5) (24 : Int32).toNatClampNeg (((q2.1 5) (24 : Int32).toNatClampNeg) ^^^ ((1 : Int32) <<< (x0 &&& 31)))) (24 : Int32).toNatClampNeg) >>> (x0 &&& 31)) &&& (1 : Int32)), (oA q2 5 (upd (q2.1 5) (24 : Int32).toNatClampNeg (((q2.1 5) (24 : Int32).toNatClampNeg) ^^^ ((1 : Int32) <<< (x0 &&& 31))))))))) = F := hF
  have hD : (¬ ((f_X8_isCock V x0) = 0) → (d_X8_keepAct V)) := hD
  refine lv_aload_n hx hb dX8_hold_0 rfl (lv_at hl 0 rfl) ?_
  refine lv_iload_n hx hb dX8_hold_1 rfl (lv_at hl 1 rfl) ?_
  refine kb_ci hH hA [0, 1, 2, 3, 4, 5, 6, 7, 8, 9, 10, 11, 12, 13, 14] (Wc := (w_O8 G g V)) (Wc' := (w_O8 G g V)) (WS' := (w_O8 G g V)) rfl (by decide) rfl rfl (va_runV (As := [.int x0]) (rest := []) ⟨hx, hb, hml, hown, hts⟩ (c_X8_isCock l G g V x0 rfl _) (cwV 1 hts gX8_hold_X8_isCock rfl rfl rfl he_X8_isCock ⟨Nat.le_of_ble_eq_true rfl, Nat.le_of_ble_eq_true rfl⟩) (kb_preV hH hK hN [0, 1, 2, 3, 4, 5, 6, 7, 8, 9, 10, 11, 12, 13, 14] rfl (by decide) 0 rfl rfl rfl rfl) rfl rfl hl.1 rfl (lv_room (Nat.le_of_ble_eq_true rfl)) dX8_hold_2 ⟨Nat.le_of_ble_eq_true rfl, Nat.le_of_ble_eq_true rfl⟩) (fun H locs hH => ?_)
  refine lv_if_ne (tgt := 10) hx hb dX8_hold_5 (by decide) (fun c1 => ?_) (fun c1 => ?_)
  · have hD := hD c1
    rw [if_neg c1] at hF
    refine lv_aload_n hx hb dX8_hold_10 rfl (lv_at hl 0 rfl) ?_
    have hz3 := hD
    obtain ⟨q2, hq2⟩ : ∃ z, z = (f_X8_keepAct V) := ⟨_, rfl⟩
    have hF := kAp_eq hF hq2
    refine kb_cv hH hA [0, 1, 2, 3, 4, 5, 6, 7, 8, 9, 10, 11, 12, 13, 14] (Wc := (w_O8 G g V)) (Wc' := (w_O8 G g q2)) (WS' := (w_O8 G g q2)) rfl (by decide) rfl rfl (va_runV (As := []) (rest := []) ⟨hx, hb, hml, hown, hts⟩ (c_X8_keepAct l G g V hz3 hq2.symm _) (cwV 0 hts gX8_hold_X8_keepAct rfl rfl rfl he_X8_keepAct ⟨Nat.le_of_ble_eq_true rfl, Nat.le_of_ble_eq_true rfl⟩) (kb_preV hH hK hN [0, 1, 2, 3, 4, 5, 6, 7, 8, 9, 10, 11, 12, 13, 14] rfl (by decide) 0 rfl rfl rfl rfl) rfl rfl hl.1 rfl (lv_room (Nat.le_of_ble_eq_true rfl)) dX8_hold_11 ⟨Nat.le_of_ble_eq_true rfl, Nat.le_of_ble_eq_true rfl⟩) (fun H locs hH => ?_)
    refine lv_aload_n hx hb dX8_hold_14 rfl (lv_at hl 0 rfl) ?_
    refine kb_get (v := .ref (g 6)) hx hb hts hin8 hown hK hH 0 rfl rfl rfl 5 (by decide) (hts (.fieldLink RX8 19 "CockWarModel" "now" "[I") (List.mem_of_getElem? (i := 1) rfl)) (fun _ h9 => h9) rfl dX8_hold_15 ?_
    refine lv_bipush (v := 24) hx hb dX8_hold_18 (by decide) ?_
    refine lv_dup2_11 hx hb dX8_hold_20 rfl rfl ?_
    refine kb_iald hx hb hK hH 4 rfl (show ¬ ((24 : Int32) < 0 ∨ 54 ≤ (24 : Int32).toNatClampNeg) by decide) dX8_hold_21 ?_
    refine lv_iconst (v := 1) hx hb dX8_hold_22 (by decide) ?_
    refine lv_iload_n hx hb dX8_hold_23 rfl (lv_at hl 1 rfl) ?_
    refine lv_ishl hx hb dX8_hold_24 ?_
    refine lv_ixor hx hb dX8_hold_25 ?_
    refine kb_iast (WS' := (w_O8 G g (oA q2 5 (upd (q2.1 5) (24 : Int32).toNatClampNeg (((q2.1 5) (24 : Int32).toNatClampNeg) ^^^ ((1 : Int32) <<< (x0 &&& 31))))))) hx hb hK hH 4 rfl (show ¬ ((24 : Int32) < 0 ∨ 54 ≤ (24 : Int32).toNatClampNeg) by decide) rfl dX8_hold_26 (fun H locs hH => ?_)
    refine lv_aload_n hx hb dX8_hold_27 rfl (lv_at hl 0 rfl) ?_
    refine kb_get (v := .ref (g 6)) hx hb hts hin8 hown hK hH 0 rfl rfl rfl 5 (by decide) (hts (.fieldLink RX8 19 "CockWarModel" "now" "[I") (List.mem_of_getElem? (i := 1) rfl)) (fun _ h9 => h9) rfl dX8_hold_28 ?_
    refine lv_bipush (v := 24) hx hb dX8_hold_31 (by decide) ?_
    refine kb_iald hx hb hK hH 4 rfl (show ¬ ((24 : Int32) < 0 ∨ 54 ≤ (24 : Int32).toNatClampNeg) by decide) dX8_hold_33 ?_
    refine lv_iload_n hx hb dX8_hold_34 rfl (lv_at hl 1 rfl) ?_
    refine lv_ishr hx hb dX8_hold_35 ?_
    refine lv_iconst (v := 1) hx hb dX8_hold_36 (by decide) ?_
    refine lv_iand hx hb dX8_hold_37 ?_
    subst hF
    exact kb_iret hx hb hr hH rfl rfl dX8_hold_38 hlocks
  · rw [if_pos c1] at hF
    refine lv_iconst (v := -1) hx hb dX8_hold_8 (by decide) ?_
    subst hF
    exact kb_iret hx hb hr hH rfl rfl dX8_hold_9 hlocks
def f_X8_undo_L2 (iL2 : Nat) (s : (OV)) : (OV) := (oA s 5 (upd (s.1 5) (nI iL2).toNatClampNeg ((s.1 20) (((27 : Int32) * (s.2.1 19)) + (nI iL2)).toNatClampNeg)))
def d_X8_undo_L2 (iL2 : Nat) (s : (OV)) : Prop := vp_in (((27 : Int32) * (s.2.1 19)) + (nI iL2)) 378
def f_X8_undo (V : OV) : (Int32 × OV) := (if (V.2.1 18) = 0 then ((-3 : Int32), V) else (kAp (lpu (f_X8_undo_L2) (cN (27 : Int32)) 0 (oI (oI V 18 ((V.2.1 18) - (1 : Int32))) 19 (((V.2.1 19) + (13 : Int32)) - ((V.2.1 19) + (13 : Int32)) / (14 : Int32) * (14 : Int32)))) (fun z5 => ((z5.2.1 18), z5))))
def d_X8_undo (V : OV) : Prop := (¬ ((V.2.1 18) = 0) → (lpuD (f_X8_undo_L2) (d_X8_undo_L2) (cN (27 : Int32)) 0 (oI (oI V 18 ((V.2.1 18) - (1 : Int32))) 19 (((V.2.1 19) + (13 : Int32)) - ((V.2.1 19) + (13 : Int32)) / (14 : Int32) * (14 : Int32)))))
set_option maxHeartbeats 4000000 in
set_option maxRecDepth 100000 in
theorem c_X8_undo (l : Launch) (G : Ge) (g : Nat → Nat) (V : OV) (hD : d_X8_undo V) {F : (Int32 × OV)} (hF : f_X8_undo V = F) : CI l yX8_undo wsX8_undo { frames := 0, cells := 0, slots := 0, locals := 0 } [.ref (g 0)] G (w_O8 G g V) (w_O8 G g F.2) F.1 := by
  intro sz
  refine Met.ofW (cc := cX8_undo) (maxL := 2) (ret := (some .int)) (by decide) rfl ?_
  intro p e s m args below meth c s₁ B hml hv
  obtain ⟨rfl, hpre⟩ := hv
  obtain ⟨hsz, hH, hK, hN, hA⟩ := kb_start hpre
  subst hsz
  have hx := B.exec
  have hb := B.bytes
  have hr := B.returns
  have hts := atoms_spec (ws := wsX8_undo) B.pre
  have hown : s.vm.findClass RX8 = some m.cls := findClass_of_methodNamed B.named
  have hlocks := B.notSynchronized
  generalize hAe : va_A (List.flatten (w_O8 G g V)) s.heap.size = A at hH hA ⊢
  have hl := lv_entry ([.ref (g 0)]) (n := 2) (Nat.le_of_ble_eq_true rfl)
  rw [lg_entry_eq]
  generalize (lg_sl ([.ref (g 0)]) ++ List.replicate (2 - (lg_sl ([.ref (g 0)])).length) Slot.unset).toArray = ls at hl ⊢
  have hl : lv_has ls 2 [(0, .ref (g 0))] := hl
  have hH : HP G A s.heap (w_O8 G g V) s.heap [] := hH
  have hin8 : ∀ w ∈ u_ws RX8 TX8 31, w ∈ wsX8_undo := fun w h => List.mem_cons_of_mem _ (List.mem_append_right _ h)
  have hF : (if (V.2.1 18) = 0 then ((-3 : Int32), V) else (kAp (lpu (f_X8_undo_L2) (cN (27 : Int32)) 0 (oI (oI V 18 ((V.2.1 18) - (1 : Int32))) 19 (((V.2.1 19) + (13 : Int32)) - ((V.2.1 19) + (13 : Int32)) / (14 : Int32) * (14 : Int32)))) (fun z5 => ((z5.2.1 18), z5)))) = F := hF
  have hD : (¬ ((V.2.1 18) = 0) → (lpuD (f_X8_undo_L2) (d_X8_undo_L2) (cN (27 : Int32)) 0 (oI (oI V 18 ((V.2.1 18) - (1 : Int32))) 19 (((V.2.1 19) + (13 : Int32)) - ((V.2.1 19) + (13 : Int32)) / (14 : Int32) * (14 : Int32))))) := hD
  refine lv_aload_n hx hb dX8_undo_0 rfl (lv_at hl 0 rfl) ?_
  refine kb_get (v := .int (V.2.1 18)) hx hb hts hin8 hown hK hH 0 rfl rfl rfl 18 (by decide) (hts (.fieldLink RX8 112 "CockWarModel" "acts" "I") (List.mem_of_getElem? (i := 1) rfl)) (fun _ h9 => h9) rfl dX8_undo_1 ?_
  refine lv_if_ne (tgt := 10) hx hb dX8_undo_4 (by decide) (fun c1 => ?_) (fun c1 => ?_)
  · have hD := hD c1
    rw [if_neg c1] at hF
    refine lv_aload_n hx hb dX8_undo_10 rfl (lv_at hl 0 rfl) ?_
    refine lv_dup hx hb dX8_undo_11 rfl ?_
    refine kb_get (v := .int (V.2.1 18)) hx hb hts hin8 hown hK hH 0 rfl rfl rfl 18 (by decide) (hts (.fieldLink RX8 112 "CockWarModel" "acts" "I") (List.mem_of_getElem? (i := 1) rfl)) (fun _ h9 => h9) rfl dX8_undo_12 ?_
    refine lv_iconst (v := 1) hx hb dX8_undo_15 (by decide) ?_
    refine lv_isub hx hb dX8_undo_16 ?_
    refine kb_put (ty := .int) (v := .int ((V.2.1 18) - (1 : Int32))) (WS' := (w_O8 G g (oI V 18 ((V.2.1 18) - (1 : Int32))))) hx hb hts hin8 tyX8 tyX8_ok nmX8 hown hK hH 0 rfl rfl 18 (by decide) (hts (.fieldLink RX8 112 "CockWarModel" "acts" "I") (List.mem_of_getElem? (i := 1) rfl)) (fun _ h9 => h9) rfl (by decide +kernel) rfl rfl (Nat.le_of_ble_eq_true rfl) rfl dX8_undo_17 (fun H locs hH => ?_)
    refine lv_aload_n hx hb dX8_undo_20 rfl (lv_at hl 0 rfl) ?_
    refine lv_aload_n hx hb dX8_undo_21 rfl (lv_at hl 0 rfl) ?_
    refine kb_get (v := .int (V.2.1 19)) hx hb hts hin8 hown hK hH 0 rfl rfl rfl 19 (by decide) (hts (.fieldLink RX8 138 "CockWarModel" "next" "I") (List.mem_of_getElem? (i := 2) rfl)) (fun _ h9 => h9) rfl dX8_undo_22 ?_
    refine lv_bipush (v := 13) hx hb dX8_undo_25 (by decide) ?_
    refine lv_iadd hx hb dX8_undo_27 ?_
    refine lv_bipush (v := 14) hx hb dX8_undo_28 (by decide) ?_
    refine lv_irem hx hb dX8_undo_30 (by decide) ?_
    refine kb_put (ty := .int) (v := .int (((V.2.1 19) + (13 : Int32)) - ((V.2.1 19) + (13 : Int32)) / (14 : Int32) * (14 : Int32))) (WS' := (w_O8 G g (oI (oI V 18 ((V.2.1 18) - (1 : Int32))) 19 (((V.2.1 19) + (13 : Int32)) - ((V.2.1 19) + (13 : Int32)) / (14 : Int32) * (14 : Int32))))) hx hb hts hin8 tyX8 tyX8_ok nmX8 hown hK hH 0 rfl rfl 19 (by decide) (hts (.fieldLink RX8 138 "CockWarModel" "next" "I") (List.mem_of_getElem? (i := 2) rfl)) (fun _ h9 => h9) rfl (by decide +kernel) rfl rfl (Nat.le_of_ble_eq_true rfl) rfl dX8_undo_31 (fun H locs hH => ?_)
    refine lv_iconst (v := 0) hx hb dX8_undo_34 (by decide) ?_
    refine lv_istore_n (lv' := [(1, .int (0 : Int32)), (0, .ref (g 0))]) hx hb dX8_undo_35 rfl hl (by decide) rfl (fun ls hl => ?_)
    have hDlL2 := hD
    obtain ⟨SFL2, hSFL2⟩ : ∃ z, z = (lpu (f_X8_undo_L2) (cN (27 : Int32)) 0 (oI (oI V 18 ((V.2.1 18) - (1 : Int32))) 19 (((V.2.1 19) + (13 : Int32)) - ((V.2.1 19) + (13 : Int32)) / (14 : Int32) * (14 : Int32)))) := ⟨_, rfl⟩
    have hF := kAp_eq hF hSFL2
    refine kb_cut (fun H locs ls => HP G A s.heap (w_O8 G g SFL2) H locs ∧ lv_has ls 2 [(0, .ref (g 0))]) 68 [] (fun EXL2 => ?_) (fun H locs ls hX => ?_)
    · refine kb_loop (σ := (OV)) (fun n i x => n + i = (cN (27 : Int32)) ∧ lpu (f_X8_undo_L2) n i x = SFL2 ∧ lpuD (f_X8_undo_L2) (d_X8_undo_L2) n i x) (fun iL2 x H locs ls => HP G A s.heap (w_O8 G g x) H locs ∧ lv_has ls 2 [(1, .int (nI iL2)), (0, .ref (g 0))]) (fun iL2 x H locs ls hI hX => ?_) (fun n iL2 x hI ihL2 H locs ls hX => ?_) (cN (27 : Int32)) 0 (oI (oI V 18 ((V.2.1 18) - (1 : Int32))) 19 (((V.2.1 19) + (13 : Int32)) - ((V.2.1 19) + (13 : Int32)) / (14 : Int32) * (14 : Int32))) _ _ _ ⟨Nat.add_zero _, hSFL2.symm, hDlL2⟩ ⟨hH, lv_sub hl [0, 1] rfl⟩
      · obtain ⟨L2a, exL2a⟩ : ∃ z, z = x := ⟨_, rfl⟩
        subst exL2a
        have hH : HP G A s.heap (w_O8 G g L2a) H locs := hX.1
        have hl : lv_has ls 2 [(1, .int (nI iL2)), (0, .ref (g 0))] := hX.2
        obtain ⟨hiL2, hs, _⟩ := hI
        have hiL2 : iL2 = (cN (27 : Int32)) := by omega
        refine lv_iload_n hx hb dX8_undo_36 rfl (lv_at hl 0 rfl) ?_
        refine lv_bipush (v := 27) hx hb dX8_undo_37 (by decide) ?_
        refine lv_icmp_ge (tgt := 68) hx hb dX8_undo_39 (by decide) (fun _ => ?_) (fun c => absurd (cN_end hiL2) c)
        exact EXL2 _ _ _ ⟨by subst hs; exact hH, by subst hs; exact lv_sub hl [1] rfl⟩
      · obtain ⟨L2a, exL2a⟩ : ∃ z, z = x := ⟨_, rfl⟩
        subst exL2a
        have hH : HP G A s.heap (w_O8 G g L2a) H locs := hX.1
        have hl : lv_has ls 2 [(1, .int (nI iL2)), (0, .ref (g 0))] := hX.2
        obtain ⟨hiL2, hs, hDi⟩ := hI
        obtain ⟨hD, hDn⟩ := hDi
        have hD : vp_in (((27 : Int32) * (L2a.2.1 19)) + (nI iL2)) 378 := hD
        have hltL2 : iL2 < (cN (27 : Int32)) := by omega
        obtain ⟨BVL2, hBd⟩ : ∃ z, (f_X8_undo_L2) iL2 L2a = z := ⟨_, rfl⟩
        have hs : lpu (f_X8_undo_L2) n (iL2 + 1) BVL2 = SFL2 := by rw [← hBd]; exact hs
        have hDn : lpuD (f_X8_undo_L2) (d_X8_undo_L2) n (iL2 + 1) BVL2 := by rw [← hBd]; exact hDn
        have hBL2 : (oA L2a 5 (upd (L2a.1 5) (nI iL2).toNatClampNeg ((L2a.1 20) (((27 : Int32) * (L2a.2.1 19)) + (nI iL2)).toNatClampNeg))) = BVL2 := hBd
        refine lv_iload_n hx hb dX8_undo_36 rfl (lv_at hl 0 rfl) ?_
        refine lv_bipush (v := 27) hx hb dX8_undo_37 (by decide) ?_
        refine lv_icmp_ge (tgt := 68) hx hb dX8_undo_39 (by decide) (fun c => absurd c (cN_ge hltL2)) (fun c3 => ?_)
        refine lv_aload_n hx hb dX8_undo_42 rfl (lv_at hl 1 rfl) ?_
        refine kb_get (v := .ref (g 6)) hx hb hts hin8 hown hK hH 0 rfl rfl rfl 5 (by decide) (hts (.fieldLink RX8 19 "CockWarModel" "now" "[I") (List.mem_of_getElem? (i := 3) rfl)) (fun _ h9 => h9) rfl dX8_undo_43 ?_
        refine lv_iload_n hx hb dX8_undo_46 rfl (lv_at hl 0 rfl) ?_
        refine lv_aload_n hx hb dX8_undo_47 rfl (lv_at hl 1 rfl) ?_
        refine kb_get (v := .ref (g 21)) hx hb hts hin8 hown hK hH 0 rfl rfl rfl 20 (by decide) (hts (.fieldLink RX8 37 "CockWarModel" "row" "[I") (List.mem_of_getElem? (i := 4) rfl)) (fun _ h9 => h9) rfl dX8_undo_48 ?_
        refine lv_bipush (v := 27) hx hb dX8_undo_51 (by decide) ?_
        refine lv_aload_n hx hb dX8_undo_53 rfl (lv_at hl 1 rfl) ?_
        refine kb_get (v := .int (L2a.2.1 19)) hx hb hts hin8 hown hK hH 0 rfl rfl rfl 19 (by decide) (hts (.fieldLink RX8 138 "CockWarModel" "next" "I") (List.mem_of_getElem? (i := 2) rfl)) (fun _ h9 => h9) rfl dX8_undo_54 ?_
        refine lv_imul hx hb dX8_undo_57 ?_
        refine lv_iload_n hx hb dX8_undo_58 rfl (lv_at hl 0 rfl) ?_
        refine lv_iadd hx hb dX8_undo_59 ?_
        have hz4 := hD
        refine kb_iald hx hb hK hH 10 rfl hz4 dX8_undo_60 ?_
        refine kb_iast (WS' := (w_O8 G g (oA L2a 5 (upd (L2a.1 5) (nI iL2).toNatClampNeg ((L2a.1 20) (((27 : Int32) * (L2a.2.1 19)) + (nI iL2)).toNatClampNeg))))) hx hb hK hH 4 rfl (vp_in_nI (Nat.lt_of_lt_of_le hltL2 (by decide)) (by decide)) rfl dX8_undo_61 (fun H locs hH => ?_)
        refine lv_iinc (v := (nI (iL2 + 1))) (lv' := [(1, .int (nI (iL2 + 1))), (0, .ref (g 0))]) hx hb dX8_undo_62 hl (k := 0) rfl (nI_1 _) (by decide) rfl (fun ls hl => ?_)
        refine lv_goto (tgt := 36) hx hb dX8_undo_65 (by decide) ?_
        subst hBL2
        exact ihL2 _ _ _ _ ⟨by omega, hs, hDn⟩ ⟨hH, lv_sub hl [0, 1] rfl⟩
    · obtain ⟨hH, hl⟩ := hX
      refine lv_aload_n hx hb dX8_undo_68 rfl (lv_at hl 0 rfl) ?_
      refine kb_get (v := .int (SFL2.2.1 18)) hx hb hts hin8 hown hK hH 0 rfl rfl rfl 18 (by decide) (hts (.fieldLink RX8 112 "CockWarModel" "acts" "I") (List.mem_of_getElem? (i := 1) rfl)) (fun _ h9 => h9) rfl dX8_undo_69 ?_
      subst hF
      exact kb_iret hx hb hr hH rfl rfl dX8_undo_72 hlocks
  · rw [if_pos c1] at hF
    refine lv_bipush (v := -3) hx hb dX8_undo_7 (by decide) ?_
    subst hF
    exact kb_iret hx hb hr hH rfl rfl dX8_undo_9 hlocks
def f_X8_underOf (V : OV) (x0 : Int32) (x1 : Int32) (x2 : Int32) : (Int32) := (f_X8_brookBy V x0 (f_X8_pointsBy V x0 x1 x2))
def d_X8_underOf (V : OV) (x0 : Int32) (x1 : Int32) (x2 : Int32) : Prop := ((d_X8_pointsBy V x0 x1 x2) ∧ (d_X8_brookBy V x0 (f_X8_pointsBy V x0 x1 x2)))
set_option maxHeartbeats 4000000 in
set_option maxRecDepth 100000 in
theorem c_X8_underOf (l : Launch) (G : Ge) (g : Nat → Nat) (V : OV) (x0 : Int32) (x1 : Int32) (x2 : Int32) (hD : d_X8_underOf V x0 x1 x2) {F : (Int32)} (hF : f_X8_underOf V x0 x1 x2 = F) : CI l yX8_underOf wsX8_underOf { frames := 3, cells := 0, slots := 0, locals := 75 } [.ref (g 0), .int x0, .int x1, .int x2] G (w_O8 G g V) (w_O8 G g V) F := by
  intro sz
  refine Met.ofW (cc := cX8_underOf) (maxL := 4) (ret := (some .int)) (by decide) rfl ?_
  intro p e s m args below meth c s₁ B hml hv
  obtain ⟨rfl, hpre⟩ := hv
  obtain ⟨hsz, hH, hK, hN, hA⟩ := kb_start hpre
  subst hsz
  have hx := B.exec
  have hb := B.bytes
  have hr := B.returns
  have hts := atoms_spec (ws := wsX8_underOf) B.pre
  have hown : s.vm.findClass RX8 = some m.cls := findClass_of_methodNamed B.named
  have hlocks := B.notSynchronized
  generalize hAe : va_A (List.flatten (w_O8 G g V)) s.heap.size = A at hH hA ⊢
  have hl := lv_entry ([.ref (g 0), .int x0, .int x1, .int x2]) (n := 4) (Nat.le_of_ble_eq_true rfl)
  rw [lg_entry_eq]
  generalize (lg_sl ([.ref (g 0), .int x0, .int x1, .int x2]) ++ List.replicate (4 - (lg_sl ([.ref (g 0), .int x0, .int x1, .int x2])).length) Slot.unset).toArray = ls at hl ⊢
  have hl : lv_has ls 4 [(0, .ref (g 0)), (1, .int x0), (2, .int x1), (3, .int x2)] := hl
  have hH : HP G A s.heap (w_O8 G g V) s.heap [] := hH
  have hF : (f_X8_brookBy V x0 (f_X8_pointsBy V x0 x1 x2)) = F := hF
  have hD : ((d_X8_pointsBy V x0 x1 x2) ∧ (d_X8_brookBy V x0 (f_X8_pointsBy V x0 x1 x2))) := hD
  refine lv_aload_n hx hb dX8_underOf_0 rfl (lv_at hl 0 rfl) ?_
  refine lv_iload_n hx hb dX8_underOf_1 rfl (lv_at hl 1 rfl) ?_
  refine lv_aload_n hx hb dX8_underOf_2 rfl (lv_at hl 0 rfl) ?_
  refine lv_iload_n hx hb dX8_underOf_3 rfl (lv_at hl 1 rfl) ?_
  refine lv_iload_n hx hb dX8_underOf_4 rfl (lv_at hl 2 rfl) ?_
  refine lv_iload_n hx hb dX8_underOf_5 rfl (lv_at hl 3 rfl) ?_
  obtain ⟨hz1, hD⟩ := hD
  refine kb_ci hH hA [0, 1, 2, 3, 4, 5, 6, 7, 8, 9, 10, 11, 12, 13, 14] (Wc := (w_O8 G g V)) (Wc' := (w_O8 G g V)) (WS' := (w_O8 G g V)) rfl (by decide) rfl rfl (va_runV (As := [.int x0, .int x1, .int x2]) (rest := [.int x0, .ref (g 0)]) ⟨hx, hb, hml, hown, hts⟩ (c_X8_pointsBy l G g V x0 x1 x2 hz1 rfl _) (cwV 3 hts gX8_underOf_X8_pointsBy rfl rfl rfl he_X8_pointsBy ⟨Nat.le_of_ble_eq_true rfl, Nat.le_of_ble_eq_true rfl⟩) (kb_preV hH hK hN [0, 1, 2, 3, 4, 5, 6, 7, 8, 9, 10, 11, 12, 13, 14] rfl (by decide) 0 rfl rfl rfl rfl) rfl rfl hl.1 rfl (lv_room (Nat.le_of_ble_eq_true rfl)) dX8_underOf_6 ⟨Nat.le_of_ble_eq_true rfl, Nat.le_of_ble_eq_true rfl⟩) (fun H locs hH => ?_)
  have hz2 := hD
  refine kb_ci hH hA [0, 1, 2, 3, 4, 5, 6, 7, 8, 9, 10, 11, 12, 13, 14] (Wc := (w_O8 G g V)) (Wc' := (w_O8 G g V)) (WS' := (w_O8 G g V)) rfl (by decide) rfl rfl (va_runV (As := [.int x0, .int (f_X8_pointsBy V x0 x1 x2)]) (rest := []) ⟨hx, hb, hml, hown, hts⟩ (c_X8_brookBy l G g V x0 (f_X8_pointsBy V x0 x1 x2) hz2 rfl _) (cwV 2 hts gX8_underOf_X8_brookBy rfl rfl rfl he_X8_brookBy ⟨Nat.le_of_ble_eq_true rfl, Nat.le_of_ble_eq_true rfl⟩) (kb_preV hH hK hN [0, 1, 2, 3, 4, 5, 6, 7, 8, 9, 10, 11, 12, 13, 14] rfl (by decide) 0 rfl rfl rfl rfl) rfl rfl hl.1 rfl (lv_room (Nat.le_of_ble_eq_true rfl)) dX8_underOf_9 ⟨Nat.le_of_ble_eq_true rfl, Nat.le_of_ble_eq_true rfl⟩) (fun H locs hH => ?_)
  subst hF
  exact kb_iret hx hb hr hH rfl rfl dX8_underOf_12 hlocks
def f_X8_under (V : OV) (x0 : Int32) : (Int32) := (if (f_X8_isWind V x0) = 0 then (-1 : Int32) else (f_X8_underOf V (0 : Int32) x0 ((V.1 5) (24 : Int32).toNatClampNeg)))
def d_X8_under (V : OV) (x0 : Int32) : Prop := (¬ ((f_X8_isWind V x0) = 0) → (d_X8_underOf V (0 : Int32) x0 ((V.1 5) (24 : Int32).toNatClampNeg)))
set_option maxHeartbeats 4000000 in
set_option maxRecDepth 100000 in
theorem c_X8_under (l : Launch) (G : Ge) (g : Nat → Nat) (V : OV) (x0 : Int32) (hD : d_X8_under V x0) {F : (Int32)} (hF : f_X8_under V x0 = F) : CI l yX8_under wsX8_under { frames := 4, cells := 0, slots := 0, locals := 98 } [.ref (g 0), .int x0] G (w_O8 G g V) (w_O8 G g V) F := by
  intro sz
  refine Met.ofW (cc := cX8_under) (maxL := 2) (ret := (some .int)) (by decide) rfl ?_
  intro p e s m args below meth c s₁ B hml hv
  obtain ⟨rfl, hpre⟩ := hv
  obtain ⟨hsz, hH, hK, hN, hA⟩ := kb_start hpre
  subst hsz
  have hx := B.exec
  have hb := B.bytes
  have hr := B.returns
  have hts := atoms_spec (ws := wsX8_under) B.pre
  have hown : s.vm.findClass RX8 = some m.cls := findClass_of_methodNamed B.named
  have hlocks := B.notSynchronized
  generalize hAe : va_A (List.flatten (w_O8 G g V)) s.heap.size = A at hH hA ⊢
  have hl := lv_entry ([.ref (g 0), .int x0]) (n := 2) (Nat.le_of_ble_eq_true rfl)
  rw [lg_entry_eq]
  generalize (lg_sl ([.ref (g 0), .int x0]) ++ List.replicate (2 - (lg_sl ([.ref (g 0), .int x0])).length) Slot.unset).toArray = ls at hl ⊢
  have hl : lv_has ls 2 [(0, .ref (g 0)), (1, .int x0)] := hl
  have hH : HP G A s.heap (w_O8 G g V) s.heap [] := hH
  have hin8 : ∀ w ∈ u_ws RX8 TX8 31, w ∈ wsX8_under := fun w h => List.mem_cons_of_mem _ (List.mem_append_right _ h)
  have hF : (if (f_X8_isWind V x0) = 0 then (-1 : Int32) else (f_X8_underOf V (0 : Int32) x0 ((V.1 5) (24 : Int32).toNatClampNeg))) = F := hF
  have hD : (¬ ((f_X8_isWind V x0) = 0) → (d_X8_underOf V (0 : Int32) x0 ((V.1 5) (24 : Int32).toNatClampNeg))) := hD
  refine lv_aload_n hx hb dX8_under_0 rfl (lv_at hl 0 rfl) ?_
  refine lv_iload_n hx hb dX8_under_1 rfl (lv_at hl 1 rfl) ?_
  refine kb_ci hH hA [0, 1, 2, 3, 4, 5, 6, 7, 8, 9, 10, 11, 12, 13, 14] (Wc := (w_O8 G g V)) (Wc' := (w_O8 G g V)) (WS' := (w_O8 G g V)) rfl (by decide) rfl rfl (va_runV (As := [.int x0]) (rest := []) ⟨hx, hb, hml, hown, hts⟩ (c_X8_isWind l G g V x0 rfl _) (cwV 1 hts gX8_under_X8_isWind rfl rfl rfl he_X8_isWind ⟨Nat.le_of_ble_eq_true rfl, Nat.le_of_ble_eq_true rfl⟩) (kb_preV hH hK hN [0, 1, 2, 3, 4, 5, 6, 7, 8, 9, 10, 11, 12, 13, 14] rfl (by decide) 0 rfl rfl rfl rfl) rfl rfl hl.1 rfl (lv_room (Nat.le_of_ble_eq_true rfl)) dX8_under_2 ⟨Nat.le_of_ble_eq_true rfl, Nat.le_of_ble_eq_true rfl⟩) (fun H locs hH => ?_)
  refine lv_if_eq (tgt := 24) hx hb dX8_under_5 (by decide) (fun c1 => ?_) (fun c1 => ?_)
  · rw [if_pos c1] at hF
    refine lv_iconst (v := -1) hx hb dX8_under_24 (by decide) ?_
    subst hF
    exact kb_iret hx hb hr hH rfl rfl dX8_under_25 hlocks
  · have hD := hD c1
    rw [if_neg c1] at hF
    refine lv_aload_n hx hb dX8_under_8 rfl (lv_at hl 0 rfl) ?_
    refine lv_iconst (v := 0) hx hb dX8_under_9 (by decide) ?_
    refine lv_iload_n hx hb dX8_under_10 rfl (lv_at hl 1 rfl) ?_
    refine lv_aload_n hx hb dX8_under_11 rfl (lv_at hl 0 rfl) ?_
    refine kb_get (v := .ref (g 6)) hx hb hts hin8 hown hK hH 0 rfl rfl rfl 5 (by decide) (hts (.fieldLink RX8 19 "CockWarModel" "now" "[I") (List.mem_of_getElem? (i := 1) rfl)) (fun _ h9 => h9) rfl dX8_under_12 ?_
    refine lv_bipush (v := 24) hx hb dX8_under_15 (by decide) ?_
    refine kb_iald hx hb hK hH 4 rfl (show ¬ ((24 : Int32) < 0 ∨ 54 ≤ (24 : Int32).toNatClampNeg) by decide) dX8_under_17 ?_
    have hz2 := hD
    refine kb_ci hH hA [0, 1, 2, 3, 4, 5, 6, 7, 8, 9, 10, 11, 12, 13, 14] (Wc := (w_O8 G g V)) (Wc' := (w_O8 G g V)) (WS' := (w_O8 G g V)) rfl (by decide) rfl rfl (va_runV (As := [.int (0 : Int32), .int x0, .int ((V.1 5) (24 : Int32).toNatClampNeg)]) (rest := []) ⟨hx, hb, hml, hown, hts⟩ (c_X8_underOf l G g V (0 : Int32) x0 ((V.1 5) (24 : Int32).toNatClampNeg) hz2 rfl _) (cwV 3 hts gX8_under_X8_underOf rfl rfl rfl he_X8_underOf ⟨Nat.le_of_ble_eq_true rfl, Nat.le_of_ble_eq_true rfl⟩) (kb_preV hH hK hN [0, 1, 2, 3, 4, 5, 6, 7, 8, 9, 10, 11, 12, 13, 14] rfl (by decide) 0 rfl rfl rfl rfl) rfl rfl hl.1 rfl (lv_room (Nat.le_of_ble_eq_true rfl)) dX8_under_18 ⟨Nat.le_of_ble_eq_true rfl, Nat.le_of_ble_eq_true rfl⟩) (fun H locs hH => ?_)
    refine lv_goto (tgt := 25) hx hb dX8_under_21 (by decide) ?_
    subst hF
    exact kb_iret hx hb hr hH rfl rfl dX8_under_25 hlocks
def f_X8_yearOf_L1 (V : OV) (x0 : Int32) (iL1 : Nat) (s : (Int32)) : (Int32) := (if (f_X8_underOf V (0 : Int32) (nI iL1) ((V.1 5) (24 : Int32).toNatClampNeg)) = x0 then (s + ((V.1 4) (((3 : Int32) * (nI iL1)) + (2 : Int32)).toNatClampNeg)) else (s + (0 : Int32)))
def d_X8_yearOf_L1 (V : OV) (x0 : Int32) (iL1 : Nat) (s : (Int32)) : Prop := ((d_X8_underOf V (0 : Int32) (nI iL1) ((V.1 5) (24 : Int32).toNatClampNeg)) ∧ ((f_X8_underOf V (0 : Int32) (nI iL1) ((V.1 5) (24 : Int32).toNatClampNeg)) = x0 → vp_in (((3 : Int32) * (nI iL1)) + (2 : Int32)) 12))
def f_X8_yearOf (V : OV) (x0 : Int32) : (Int32) := (kAp (lpu (f_X8_yearOf_L1 V x0) (cN (V.2.1 1)) 0 (0 : Int32)) (fun z6 => z6))
def d_X8_yearOf (V : OV) (x0 : Int32) : Prop := (lpuD (f_X8_yearOf_L1 V x0) (d_X8_yearOf_L1 V x0) (cN (V.2.1 1)) 0 (0 : Int32))
set_option maxHeartbeats 4000000 in
set_option maxRecDepth 100000 in
theorem c_X8_yearOf (l : Launch) (G : Ge) (g : Nat → Nat) (V : OV) (x0 : Int32) (hD : d_X8_yearOf V x0) {F : (Int32)} (hF : f_X8_yearOf V x0 = F) : CI l yX8_yearOf wsX8_yearOf { frames := 4, cells := 0, slots := 0, locals := 98 } [.ref (g 0), .int x0] G (w_O8 G g V) (w_O8 G g V) F := by
  intro sz
  refine Met.ofW (cc := cX8_yearOf) (maxL := 4) (ret := (some .int)) (by decide) rfl ?_
  intro p e s m args below meth c s₁ B hml hv
  obtain ⟨rfl, hpre⟩ := hv
  obtain ⟨hsz, hH, hK, hN, hA⟩ := kb_start hpre
  subst hsz
  have hx := B.exec
  have hb := B.bytes
  have hr := B.returns
  have hts := atoms_spec (ws := wsX8_yearOf) B.pre
  have hown : s.vm.findClass RX8 = some m.cls := findClass_of_methodNamed B.named
  have hlocks := B.notSynchronized
  generalize hAe : va_A (List.flatten (w_O8 G g V)) s.heap.size = A at hH hA ⊢
  have hl := lv_entry ([.ref (g 0), .int x0]) (n := 4) (Nat.le_of_ble_eq_true rfl)
  rw [lg_entry_eq]
  generalize (lg_sl ([.ref (g 0), .int x0]) ++ List.replicate (4 - (lg_sl ([.ref (g 0), .int x0])).length) Slot.unset).toArray = ls at hl ⊢
  have hl : lv_has ls 4 [(0, .ref (g 0)), (1, .int x0)] := hl
  have hH : HP G A s.heap (w_O8 G g V) s.heap [] := hH
  have hin8 : ∀ w ∈ u_ws RX8 TX8 31, w ∈ wsX8_yearOf := fun w h => List.mem_cons_of_mem _ (List.mem_append_right _ h)
  have hF : (kAp (lpu (f_X8_yearOf_L1 V x0) (cN (V.2.1 1)) 0 (0 : Int32)) (fun z6 => z6)) = F := hF
  have hD : (lpuD (f_X8_yearOf_L1 V x0) (d_X8_yearOf_L1 V x0) (cN (V.2.1 1)) 0 (0 : Int32)) := hD
  refine lv_iconst (v := 0) hx hb dX8_yearOf_0 (by decide) ?_
  refine lv_istore_n (lv' := [(2, .int (0 : Int32)), (0, .ref (g 0)), (1, .int x0)]) hx hb dX8_yearOf_1 rfl hl (by decide) rfl (fun ls hl => ?_)
  refine lv_iconst (v := 0) hx hb dX8_yearOf_2 (by decide) ?_
  refine lv_istore_n (lv' := [(3, .int (0 : Int32)), (2, .int (0 : Int32)), (0, .ref (g 0)), (1, .int x0)]) hx hb dX8_yearOf_3 rfl hl (by decide) rfl (fun ls hl => ?_)
  have hDlL1 := hD
  obtain ⟨SFL1, hSFL1⟩ : ∃ z, z = (lpu (f_X8_yearOf_L1 V x0) (cN (V.2.1 1)) 0 (0 : Int32)) := ⟨_, rfl⟩
  have hF := kAp_eq hF hSFL1
  refine kb_cut (fun H locs ls => HP G A s.heap (w_O8 G g V) H locs ∧ lv_has ls 4 [(2, .int SFL1)]) 52 [] (fun EXL1 => ?_) (fun H locs ls hX => ?_)
  · refine kb_loop (σ := (Int32)) (fun n i x => n + i = (cN (V.2.1 1)) ∧ lpu (f_X8_yearOf_L1 V x0) n i x = SFL1 ∧ lpuD (f_X8_yearOf_L1 V x0) (d_X8_yearOf_L1 V x0) n i x) (fun iL1 x H locs ls => HP G A s.heap (w_O8 G g V) H locs ∧ lv_has ls 4 [(3, .int (nI iL1)), (2, .int x), (0, .ref (g 0)), (1, .int x0)]) (fun iL1 x H locs ls hI hX => ?_) (fun n iL1 x hI ihL1 H locs ls hX => ?_) (cN (V.2.1 1)) 0 (0 : Int32) _ _ _ ⟨Nat.add_zero _, hSFL1.symm, hDlL1⟩ ⟨hH, lv_sub hl [0, 1, 2, 3] rfl⟩
    · obtain ⟨L1a, exL1a⟩ : ∃ z, z = x := ⟨_, rfl⟩
      subst exL1a
      have hH : HP G A s.heap (w_O8 G g V) H locs := hX.1
      have hl : lv_has ls 4 [(3, .int (nI iL1)), (2, .int L1a), (0, .ref (g 0)), (1, .int x0)] := hX.2
      obtain ⟨hiL1, hs, _⟩ := hI
      have hiL1 : iL1 = (cN (V.2.1 1)) := by omega
      refine lv_iload_n hx hb dX8_yearOf_4 rfl (lv_at hl 0 rfl) ?_
      refine lv_aload_n hx hb dX8_yearOf_5 rfl (lv_at hl 2 rfl) ?_
      refine kb_get (v := .int (V.2.1 1)) hx hb hts hin8 hown hK hH 0 rfl rfl rfl 1 (by decide) (hts (.fieldLink RX8 109 "CockWarModel" "winds" "I") (List.mem_of_getElem? (i := 1) rfl)) (fun _ h9 => h9) rfl dX8_yearOf_6 ?_
      refine lv_icmp_ge (tgt := 52) hx hb dX8_yearOf_9 (by decide) (fun _ => ?_) (fun c => absurd (cN_end hiL1) c)
      exact EXL1 _ _ _ ⟨by subst hs; exact hH, by subst hs; exact lv_sub hl [1] rfl⟩
    · obtain ⟨L1a, exL1a⟩ : ∃ z, z = x := ⟨_, rfl⟩
      subst exL1a
      have hH : HP G A s.heap (w_O8 G g V) H locs := hX.1
      have hl : lv_has ls 4 [(3, .int (nI iL1)), (2, .int L1a), (0, .ref (g 0)), (1, .int x0)] := hX.2
      obtain ⟨hiL1, hs, hDi⟩ := hI
      obtain ⟨hD, hDn⟩ := hDi
      have hD : ((d_X8_underOf V (0 : Int32) (nI iL1) ((V.1 5) (24 : Int32).toNatClampNeg)) ∧ ((f_X8_underOf V (0 : Int32) (nI iL1) ((V.1 5) (24 : Int32).toNatClampNeg)) = x0 → vp_in (((3 : Int32) * (nI iL1)) + (2 : Int32)) 12)) := hD
      have hltL1 : iL1 < (cN (V.2.1 1)) := by omega
      obtain ⟨BVL1, hBd⟩ : ∃ z, (f_X8_yearOf_L1 V x0) iL1 L1a = z := ⟨_, rfl⟩
      have hs : lpu (f_X8_yearOf_L1 V x0) n (iL1 + 1) BVL1 = SFL1 := by rw [← hBd]; exact hs
      have hDn : lpuD (f_X8_yearOf_L1 V x0) (d_X8_yearOf_L1 V x0) n (iL1 + 1) BVL1 := by rw [← hBd]; exact hDn
      have hBL1 : (if (f_X8_underOf V (0 : Int32) (nI iL1) ((V.1 5) (24 : Int32).toNatClampNeg)) = x0 then (L1a + ((V.1 4) (((3 : Int32) * (nI iL1)) + (2 : Int32)).toNatClampNeg)) else (L1a + (0 : Int32))) = BVL1 := hBd
      refine lv_iload_n hx hb dX8_yearOf_4 rfl (lv_at hl 0 rfl) ?_
      refine lv_aload_n hx hb dX8_yearOf_5 rfl (lv_at hl 2 rfl) ?_
      refine kb_get (v := .int (V.2.1 1)) hx hb hts hin8 hown hK hH 0 rfl rfl rfl 1 (by decide) (hts (.fieldLink RX8 109 "CockWarModel" "winds" "I") (List.mem_of_getElem? (i := 1) rfl)) (fun _ h9 => h9) rfl dX8_yearOf_6 ?_
      refine lv_icmp_ge (tgt := 52) hx hb dX8_yearOf_9 (by decide) (fun c => absurd c (cN_ge hltL1)) (fun c2 => ?_)
      refine lv_iload_n hx hb dX8_yearOf_12 rfl (lv_at hl 1 rfl) ?_
      refine lv_aload_n hx hb dX8_yearOf_13 rfl (lv_at hl 2 rfl) ?_
      refine lv_iconst (v := 0) hx hb dX8_yearOf_14 (by decide) ?_
      refine lv_iload_n hx hb dX8_yearOf_15 rfl (lv_at hl 0 rfl) ?_
      refine lv_aload_n hx hb dX8_yearOf_16 rfl (lv_at hl 2 rfl) ?_
      refine kb_get (v := .ref (g 6)) hx hb hts hin8 hown hK hH 0 rfl rfl rfl 5 (by decide) (hts (.fieldLink RX8 19 "CockWarModel" "now" "[I") (List.mem_of_getElem? (i := 2) rfl)) (fun _ h9 => h9) rfl dX8_yearOf_17 ?_
      refine lv_bipush (v := 24) hx hb dX8_yearOf_20 (by decide) ?_
      refine kb_iald hx hb hK hH 4 rfl (show ¬ ((24 : Int32) < 0 ∨ 54 ≤ (24 : Int32).toNatClampNeg) by decide) dX8_yearOf_22 ?_
      obtain ⟨hz3, hD⟩ := hD
      refine kb_ci hH hA [0, 1, 2, 3, 4, 5, 6, 7, 8, 9, 10, 11, 12, 13, 14] (Wc := (w_O8 G g V)) (Wc' := (w_O8 G g V)) (WS' := (w_O8 G g V)) rfl (by decide) rfl rfl (va_runV (As := [.int (0 : Int32), .int (nI iL1), .int ((V.1 5) (24 : Int32).toNatClampNeg)]) (rest := [.int L1a]) ⟨hx, hb, hml, hown, hts⟩ (c_X8_underOf l G g V (0 : Int32) (nI iL1) ((V.1 5) (24 : Int32).toNatClampNeg) hz3 rfl _) (cwV 3 hts gX8_yearOf_X8_underOf rfl rfl rfl he_X8_underOf ⟨Nat.le_of_ble_eq_true rfl, Nat.le_of_ble_eq_true rfl⟩) (kb_preV hH hK hN [0, 1, 2, 3, 4, 5, 6, 7, 8, 9, 10, 11, 12, 13, 14] rfl (by decide) 0 rfl rfl rfl rfl) rfl rfl hl.1 rfl (lv_room (Nat.le_of_ble_eq_true rfl)) dX8_yearOf_23 ⟨Nat.le_of_ble_eq_true rfl, Nat.le_of_ble_eq_true rfl⟩) (fun H locs hH => ?_)
      refine lv_iload_n hx hb dX8_yearOf_26 rfl (lv_at hl 3 rfl) ?_
      refine lv_icmp_ne (tgt := 43) hx hb dX8_yearOf_27 (by decide) (fun c4 => ?_) (fun c4 => ?_)
      · rw [if_neg c4] at hBL1
        refine lv_iconst (v := 0) hx hb dX8_yearOf_43 (by decide) ?_
        refine lv_iadd hx hb dX8_yearOf_44 ?_
        refine lv_istore_n (lv' := [(2, .int (L1a + (0 : Int32))), (3, .int (nI iL1)), (0, .ref (g 0)), (1, .int x0)]) hx hb dX8_yearOf_45 rfl hl (by decide) rfl (fun ls hl => ?_)
        refine lv_iinc (v := (nI (iL1 + 1))) (lv' := [(3, .int (nI (iL1 + 1))), (2, .int (L1a + (0 : Int32))), (0, .ref (g 0)), (1, .int x0)]) hx hb dX8_yearOf_46 hl (k := 1) rfl (nI_1 _) (by decide) rfl (fun ls hl => ?_)
        refine lv_goto (tgt := 4) hx hb dX8_yearOf_49 (by decide) ?_
        subst hBL1
        exact ihL1 _ _ _ _ ⟨by omega, hs, hDn⟩ ⟨hH, lv_sub hl [0, 1, 2, 3] rfl⟩
      · have hD := hD c4
        rw [if_pos c4] at hBL1
        refine lv_aload_n hx hb dX8_yearOf_30 rfl (lv_at hl 2 rfl) ?_
        refine kb_get (v := .ref (g 5)) hx hb hts hin8 hown hK hH 0 rfl rfl rfl 4 (by decide) (hts (.fieldLink RX8 16 "CockWarModel" "wind" "[I") (List.mem_of_getElem? (i := 3) rfl)) (fun _ h9 => h9) rfl dX8_yearOf_31 ?_
        refine lv_iconst (v := 3) hx hb dX8_yearOf_34 (by decide) ?_
        refine lv_iload_n hx hb dX8_yearOf_35 rfl (lv_at hl 0 rfl) ?_
        refine lv_imul hx hb dX8_yearOf_36 ?_
        refine lv_iconst (v := 2) hx hb dX8_yearOf_37 (by decide) ?_
        refine lv_iadd hx hb dX8_yearOf_38 ?_
        have hz5 := hD
        refine kb_iald hx hb hK hH 3 rfl hz5 dX8_yearOf_39 ?_
        refine lv_goto (tgt := 44) hx hb dX8_yearOf_40 (by decide) ?_
        refine lv_iadd hx hb dX8_yearOf_44 ?_
        refine lv_istore_n (lv' := [(2, .int (L1a + ((V.1 4) (((3 : Int32) * (nI iL1)) + (2 : Int32)).toNatClampNeg))), (3, .int (nI iL1)), (0, .ref (g 0)), (1, .int x0)]) hx hb dX8_yearOf_45 rfl hl (by decide) rfl (fun ls hl => ?_)
        refine lv_iinc (v := (nI (iL1 + 1))) (lv' := [(3, .int (nI (iL1 + 1))), (2, .int (L1a + ((V.1 4) (((3 : Int32) * (nI iL1)) + (2 : Int32)).toNatClampNeg))), (0, .ref (g 0)), (1, .int x0)]) hx hb dX8_yearOf_46 hl (k := 1) rfl (nI_1 _) (by decide) rfl (fun ls hl => ?_)
        refine lv_goto (tgt := 4) hx hb dX8_yearOf_49 (by decide) ?_
        subst hBL1
        exact ihL1 _ _ _ _ ⟨by omega, hs, hDn⟩ ⟨hH, lv_sub hl [0, 1, 2, 3] rfl⟩
  · obtain ⟨hH, hl⟩ := hX
    refine lv_iload_n hx hb dX8_yearOf_52 rfl (lv_at hl 0 rfl) ?_
    subst hF
    exact kb_iret hx hb hr hH rfl rfl dX8_yearOf_53 hlocks
def f_X8_year (V : OV) (x0 : Int32) : (Int32) := (if (f_X8_in (x0.toInt64) (0 : Int64) (1 : Int64)) = 0 then (-2 : Int32) else (f_X8_yearOf V x0))
def d_X8_year (V : OV) (x0 : Int32) : Prop := (¬ ((f_X8_in (x0.toInt64) (0 : Int64) (1 : Int64)) = 0) → (d_X8_yearOf V x0))
set_option maxHeartbeats 4000000 in
set_option maxRecDepth 100000 in
theorem c_X8_year (l : Launch) (G : Ge) (g : Nat → Nat) (V : OV) (x0 : Int32) (hD : d_X8_year V x0) {F : (Int32)} (hF : f_X8_year V x0 = F) : CI l yX8_year wsX8_year { frames := 5, cells := 0, slots := 0, locals := 121 } [.ref (g 0), .int x0] G (w_O8 G g V) (w_O8 G g V) F := by
  intro sz
  refine Met.ofW (cc := cX8_year) (maxL := 2) (ret := (some .int)) (by decide) rfl ?_
  intro p e s m args below meth c s₁ B hml hv
  obtain ⟨rfl, hpre⟩ := hv
  obtain ⟨hsz, hH, hK, hN, hA⟩ := kb_start hpre
  subst hsz
  have hx := B.exec
  have hb := B.bytes
  have hr := B.returns
  have hts := atoms_spec (ws := wsX8_year) B.pre
  have hown : s.vm.findClass RX8 = some m.cls := findClass_of_methodNamed B.named
  have hlocks := B.notSynchronized
  generalize hAe : va_A (List.flatten (w_O8 G g V)) s.heap.size = A at hH hA ⊢
  have hl := lv_entry ([.ref (g 0), .int x0]) (n := 2) (Nat.le_of_ble_eq_true rfl)
  rw [lg_entry_eq]
  generalize (lg_sl ([.ref (g 0), .int x0]) ++ List.replicate (2 - (lg_sl ([.ref (g 0), .int x0])).length) Slot.unset).toArray = ls at hl ⊢
  have hl : lv_has ls 2 [(0, .ref (g 0)), (1, .int x0)] := hl
  have hH : HP G A s.heap (w_O8 G g V) s.heap [] := hH
  have hF : (if (f_X8_in (x0.toInt64) (0 : Int64) (1 : Int64)) = 0 then (-2 : Int32) else (f_X8_yearOf V x0)) = F := hF
  have hD : (¬ ((f_X8_in (x0.toInt64) (0 : Int64) (1 : Int64)) = 0) → (d_X8_yearOf V x0)) := hD
  refine lv_iload_n hx hb dX8_year_0 rfl (lv_at hl 1 rfl) ?_
  refine lv_i2l (v := (x0.toInt64)) hx hb dX8_year_1 rfl ?_
  refine lv_lconst (v := 0) hx hb dX8_year_2 (by decide) ?_
  refine lv_lconst (v := 1) hx hb dX8_year_3 (by decide) ?_
  refine kb_ci hH hA [] (Wc := ([] : List va_W)) (Wc' := ([] : List va_W)) (WS' := (w_O8 G g V)) rfl (by decide) rfl rfl (va_runS (As := [.long (x0.toInt64), .long (0 : Int64), .long (1 : Int64)]) (rest := []) ⟨hx, hb, hml, hown, hts⟩ (c_X8_in l G (x0.toInt64) (0 : Int64) (1 : Int64) rfl _) (va_cwS 3 hts gX8_year_X8_in rfl rfl rfl hd_X8_in ⟨Nat.le_of_ble_eq_true rfl, Nat.le_of_ble_eq_true rfl⟩) (kb_preS hH hK hN [] rfl (by decide)) rfl rfl hl.1 rfl (lv_room (Nat.le_of_ble_eq_true rfl)) dX8_year_4 ⟨Nat.le_of_ble_eq_true rfl, Nat.le_of_ble_eq_true rfl⟩) (fun H locs hH => ?_)
  refine lv_if_eq (tgt := 18) hx hb dX8_year_7 (by decide) (fun c1 => ?_) (fun c1 => ?_)
  · rw [if_pos c1] at hF
    refine lv_bipush (v := -2) hx hb dX8_year_18 (by decide) ?_
    subst hF
    exact kb_iret hx hb hr hH rfl rfl dX8_year_20 hlocks
  · have hD := hD c1
    rw [if_neg c1] at hF
    refine lv_aload_n hx hb dX8_year_10 rfl (lv_at hl 0 rfl) ?_
    refine lv_iload_n hx hb dX8_year_11 rfl (lv_at hl 1 rfl) ?_
    have hz2 := hD
    refine kb_ci hH hA [0, 1, 2, 3, 4, 5, 6, 7, 8, 9, 10, 11, 12, 13, 14] (Wc := (w_O8 G g V)) (Wc' := (w_O8 G g V)) (WS' := (w_O8 G g V)) rfl (by decide) rfl rfl (va_runV (As := [.int x0]) (rest := []) ⟨hx, hb, hml, hown, hts⟩ (c_X8_yearOf l G g V x0 hz2 rfl _) (cwV 1 hts gX8_year_X8_yearOf rfl rfl rfl he_X8_yearOf ⟨Nat.le_of_ble_eq_true rfl, Nat.le_of_ble_eq_true rfl⟩) (kb_preV hH hK hN [0, 1, 2, 3, 4, 5, 6, 7, 8, 9, 10, 11, 12, 13, 14] rfl (by decide) 0 rfl rfl rfl rfl) rfl rfl hl.1 rfl (lv_room (Nat.le_of_ble_eq_true rfl)) dX8_year_12 ⟨Nat.le_of_ble_eq_true rfl, Nat.le_of_ble_eq_true rfl⟩) (fun H locs hH => ?_)
    refine lv_goto (tgt := 20) hx hb dX8_year_15 (by decide) ?_
    subst hF
    exact kb_iret hx hb hr hH rfl rfl dX8_year_20 hlocks
