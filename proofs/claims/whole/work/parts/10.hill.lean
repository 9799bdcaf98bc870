theorem hd_X7_bit : yX7_bit.cls ≠ "java/lang/invoke/MethodHandle" ∧ yX7_bit.cls ≠ "java/lang/invoke/VarHandle" ∧ (parseMethodDescriptor yX7_bit.desc).map (fun d => d.parameters.length) = some 2 := by decide +kernel
theorem he_X7_bit : yX7_bit.cls = RX7 ∧ yX7_bit.cls ≠ "java/lang/invoke/MethodHandle" ∧ yX7_bit.cls ≠ "java/lang/invoke/VarHandle" ∧ (parseMethodDescriptor yX7_bit.desc).map (fun d => d.parameters.length) = some 2 := ⟨rfl, hd_X7_bit⟩
theorem hd_X7_isCell : yX7_isCell.cls ≠ "java/lang/invoke/MethodHandle" ∧ yX7_isCell.cls ≠ "java/lang/invoke/VarHandle" ∧ (parseMethodDescriptor yX7_isCell.desc).map (fun d => d.parameters.length) = some 1 := by decide +kernel
theorem he_X7_isCell : yX7_isCell.cls = RX7 ∧ yX7_isCell.cls ≠ "java/lang/invoke/MethodHandle" ∧ yX7_isCell.cls ≠ "java/lang/invoke/VarHandle" ∧ (parseMethodDescriptor yX7_isCell.desc).map (fun d => d.parameters.length) = some 1 := ⟨rfl, hd_X7_isCell⟩
theorem hd_X7_isParish : yX7_isParish.cls ≠ "java/lang/invoke/MethodHandle" ∧ yX7_isParish.cls ≠ "java/lang/invoke/VarHandle" ∧ (parseMethodDescriptor yX7_isParish.desc).map (fun d => d.parameters.length) = some 1 := by decide +kernel
theorem he_X7_isParish : yX7_isParish.cls = RX7 ∧ yX7_isParish.cls ≠ "java/lang/invoke/MethodHandle" ∧ yX7_isParish.cls ≠ "java/lang/invoke/VarHandle" ∧ (parseMethodDescriptor yX7_isParish.desc).map (fun d => d.parameters.length) = some 1 := ⟨rfl, hd_X7_isParish⟩
theorem hd_X7_at : yX7_at.cls ≠ "java/lang/invoke/MethodHandle" ∧ yX7_at.cls ≠ "java/lang/invoke/VarHandle" ∧ (parseMethodDescriptor yX7_at.desc).map (fun d => d.parameters.length) = some 2 := by decide +kernel
theorem he_X7_at : yX7_at.cls = RX7 ∧ yX7_at.cls ≠ "java/lang/invoke/MethodHandle" ∧ yX7_at.cls ≠ "java/lang/invoke/VarHandle" ∧ (parseMethodDescriptor yX7_at.desc).map (fun d => d.parameters.length) = some 2 := ⟨rfl, hd_X7_at⟩
theorem hd_X7_put : yX7_put.cls ≠ "java/lang/invoke/MethodHandle" ∧ yX7_put.cls ≠ "java/lang/invoke/VarHandle" ∧ (parseMethodDescriptor yX7_put.desc).map (fun d => d.parameters.length) = some 3 := by decide +kernel
theorem he_X7_put : yX7_put.cls = RX7 ∧ yX7_put.cls ≠ "java/lang/invoke/MethodHandle" ∧ yX7_put.cls ≠ "java/lang/invoke/VarHandle" ∧ (parseMethodDescriptor yX7_put.desc).map (fun d => d.parameters.length) = some 3 := ⟨rfl, hd_X7_put⟩
theorem hd_X7_copyRow : yX7_copyRow.cls ≠ "java/lang/invoke/MethodHandle" ∧ yX7_copyRow.cls ≠ "java/lang/invoke/VarHandle" ∧ (parseMethodDescriptor yX7_copyRow.desc).map (fun d => d.parameters.length) = some 2 := by decide +kernel
theorem he_X7_copyRow : yX7_copyRow.cls = RX7 ∧ yX7_copyRow.cls ≠ "java/lang/invoke/MethodHandle" ∧ yX7_copyRow.cls ≠ "java/lang/invoke/VarHandle" ∧ (parseMethodDescriptor yX7_copyRow.desc).map (fun d => d.parameters.length) = some 2 := ⟨rfl, hd_X7_copyRow⟩
theorem hd_X7_cutFigures : yX7_cutFigures.cls ≠ "java/lang/invoke/MethodHandle" ∧ yX7_cutFigures.cls ≠ "java/lang/invoke/VarHandle" ∧ (parseMethodDescriptor yX7_cutFigures.desc).map (fun d => d.parameters.length) = some 2 := by decide +kernel
theorem he_X7_cutFigures : yX7_cutFigures.cls = RX7 ∧ yX7_cutFigures.cls ≠ "java/lang/invoke/MethodHandle" ∧ yX7_cutFigures.cls ≠ "java/lang/invoke/VarHandle" ∧ (parseMethodDescriptor yX7_cutFigures.desc).map (fun d => d.parameters.length) = some 2 := ⟨rfl, hd_X7_cutFigures⟩
theorem hd_X7_commonDivisor : yX7_commonDivisor.cls ≠ "java/lang/invoke/MethodHandle" ∧ yX7_commonDivisor.cls ≠ "java/lang/invoke/VarHandle" ∧ (parseMethodDescriptor yX7_commonDivisor.desc).map (fun d => d.parameters.length) = some 2 := by decide +kernel
theorem he_X7_commonDivisor : yX7_commonDivisor.cls = RX7 ∧ yX7_commonDivisor.cls ≠ "java/lang/invoke/MethodHandle" ∧ yX7_commonDivisor.cls ≠ "java/lang/invoke/VarHandle" ∧ (parseMethodDescriptor yX7_commonDivisor.desc).map (fun d => d.parameters.length) = some 2 := ⟨rfl, hd_X7_commonDivisor⟩
theorem hd_X2_hasCock : yX2_hasCock.cls ≠ "java/lang/invoke/MethodHandle" ∧ yX2_hasCock.cls ≠ "java/lang/invoke/VarHandle" ∧ (parseMethodDescriptor yX2_hasCock.desc).map (fun d => d.parameters.length) = some 1 := by decide +kernel
theorem he_X2_hasCock : yX2_hasCock.cls = RX2 ∧ yX2_hasCock.cls ≠ "java/lang/invoke/MethodHandle" ∧ yX2_hasCock.cls ≠ "java/lang/invoke/VarHandle" ∧ (parseMethodDescriptor yX2_hasCock.desc).map (fun d => d.parameters.length) = some 1 := ⟨rfl, hd_X2_hasCock⟩
theorem hd_X2_everyCock : yX2_everyCock.cls ≠ "java/lang/invoke/MethodHandle" ∧ yX2_everyCock.cls ≠ "java/lang/invoke/VarHandle" ∧ (parseMethodDescriptor yX2_everyCock.desc).map (fun d => d.parameters.length) = some 0 := by decide +kernel
theorem he_X2_everyCock : yX2_everyCock.cls = RX2 ∧ yX2_everyCock.cls ≠ "java/lang/invoke/MethodHandle" ∧ yX2_everyCock.cls ≠ "java/lang/invoke/VarHandle" ∧ (parseMethodDescriptor yX2_everyCock.desc).map (fun d => d.parameters.length) = some 0 := ⟨rfl, hd_X2_everyCock⟩
theorem hd_X2_treeCells : yX2_treeCells.cls ≠ "java/lang/invoke/MethodHandle" ∧ yX2_treeCells.cls ≠ "java/lang/invoke/VarHandle" ∧ (parseMethodDescriptor yX2_treeCells.desc).map (fun d => d.parameters.length) = some 0 := by decide +kernel
theorem he_X2_treeCells : yX2_treeCells.cls = RX2 ∧ yX2_treeCells.cls ≠ "java/lang/invoke/MethodHandle" ∧ yX2_treeCells.cls ≠ "java/lang/invoke/VarHandle" ∧ (parseMethodDescriptor yX2_treeCells.desc).map (fun d => d.parameters.length) = some 0 := ⟨rfl, hd_X2_treeCells⟩
theorem hd_X2_takenCells : yX2_takenCells.cls ≠ "java/lang/invoke/MethodHandle" ∧ yX2_takenCells.cls ≠ "java/lang/invoke/VarHandle" ∧ (parseMethodDescriptor yX2_takenCells.desc).map (fun d => d.parameters.length) = some 0 := by decide +kernel
theorem he_X2_takenCells : yX2_takenCells.cls = RX2 ∧ yX2_takenCells.cls ≠ "java/lang/invoke/MethodHandle" ∧ yX2_takenCells.cls ≠ "java/lang/invoke/VarHandle" ∧ (parseMethodDescriptor yX2_takenCells.desc).map (fun d => d.parameters.length) = some 0 := ⟨rfl, hd_X2_takenCells⟩
theorem hd_X2_clear : yX2_clear.cls ≠ "java/lang/invoke/MethodHandle" ∧ yX2_clear.cls ≠ "java/lang/invoke/VarHandle" ∧ (parseMethodDescriptor yX2_clear.desc).map (fun d => d.parameters.length) = some 0 := by decide +kernel
theorem he_X2_clear : yX2_clear.cls = RX2 ∧ yX2_clear.cls ≠ "java/lang/invoke/MethodHandle" ∧ yX2_clear.cls ≠ "java/lang/invoke/VarHandle" ∧ (parseMethodDescriptor yX2_clear.desc).map (fun d => d.parameters.length) = some 0 := ⟨rfl, hd_X2_clear⟩
theorem hd_X2_addCock : yX2_addCock.cls ≠ "java/lang/invoke/MethodHandle" ∧ yX2_addCock.cls ≠ "java/lang/invoke/VarHandle" ∧ (parseMethodDescriptor yX2_addCock.desc).map (fun d => d.parameters.length) = some 6 := by decide +kernel
theorem he_X2_addCock : yX2_addCock.cls = RX2 ∧ yX2_addCock.cls ≠ "java/lang/invoke/MethodHandle" ∧ yX2_addCock.cls ≠ "java/lang/invoke/VarHandle" ∧ (parseMethodDescriptor yX2_addCock.desc).map (fun d => d.parameters.length) = some 6 := ⟨rfl, hd_X2_addCock⟩
theorem hd_X2_yieldingTo : yX2_yieldingTo.cls ≠ "java/lang/invoke/MethodHandle" ∧ yX2_yieldingTo.cls ≠ "java/lang/invoke/VarHandle" ∧ (parseMethodDescriptor yX2_yieldingTo.desc).map (fun d => d.parameters.length) = some 3 := by decide +kernel
theorem he_X2_yieldingTo : yX2_yieldingTo.cls = RX2 ∧ yX2_yieldingTo.cls ≠ "java/lang/invoke/MethodHandle" ∧ yX2_yieldingTo.cls ≠ "java/lang/invoke/VarHandle" ∧ (parseMethodDescriptor yX2_yieldingTo.desc).map (fun d => d.parameters.length) = some 3 := ⟨rfl, hd_X2_yieldingTo⟩
theorem hd_X2_brookBy : yX2_brookBy.cls ≠ "java/lang/invoke/MethodHandle" ∧ yX2_brookBy.cls ≠ "java/lang/invoke/VarHandle" ∧ (parseMethodDescriptor yX2_brookBy.desc).map (fun d => d.parameters.length) = some 1 := by decide +kernel
theorem he_X2_brookBy : yX2_brookBy.cls = RX2 ∧ yX2_brookBy.cls ≠ "java/lang/invoke/MethodHandle" ∧ yX2_brookBy.cls ≠ "java/lang/invoke/VarHandle" ∧ (parseMethodDescriptor yX2_brookBy.desc).map (fun d => d.parameters.length) = some 1 := ⟨rfl, hd_X2_brookBy⟩
theorem hd_X2_weightFor : yX2_weightFor.cls ≠ "java/lang/invoke/MethodHandle" ∧ yX2_weightFor.cls ≠ "java/lang/invoke/VarHandle" ∧ (parseMethodDescriptor yX2_weightFor.desc).map (fun d => d.parameters.length) = some 1 := by decide +kernel
theorem he_X2_weightFor : yX2_weightFor.cls = RX2 ∧ yX2_weightFor.cls ≠ "java/lang/invoke/MethodHandle" ∧ yX2_weightFor.cls ≠ "java/lang/invoke/VarHandle" ∧ (parseMethodDescriptor yX2_weightFor.desc).map (fun d => d.parameters.length) = some 1 := ⟨rfl, hd_X2_weightFor⟩
theorem hd_X2_copyFrom : yX2_copyFrom.cls ≠ "java/lang/invoke/MethodHandle" ∧ yX2_copyFrom.cls ≠ "java/lang/invoke/VarHandle" ∧ (parseMethodDescriptor yX2_copyFrom.desc).map (fun d => d.parameters.length) = some 1 := by decide +kernel
theorem he_X2_copyFrom : yX2_copyFrom.cls = RX2 ∧ yX2_copyFrom.cls ≠ "java/lang/invoke/MethodHandle" ∧ yX2_copyFrom.cls ≠ "java/lang/invoke/VarHandle" ∧ (parseMethodDescriptor yX2_copyFrom.desc).map (fun d => d.parameters.length) = some 1 := ⟨rfl, hd_X2_copyFrom⟩
theorem hd_X1_copyFrom : yX1_copyFrom.cls ≠ "java/lang/invoke/MethodHandle" ∧ yX1_copyFrom.cls ≠ "java/lang/invoke/VarHandle" ∧ (parseMethodDescriptor yX1_copyFrom.desc).map (fun d => d.parameters.length) = some 1 := by decide +kernel
theorem he_X1_copyFrom : yX1_copyFrom.cls = RX1 ∧ yX1_copyFrom.cls ≠ "java/lang/invoke/MethodHandle" ∧ yX1_copyFrom.cls ≠ "java/lang/invoke/VarHandle" ∧ (parseMethodDescriptor yX1_copyFrom.desc).map (fun d => d.parameters.length) = some 1 := ⟨rfl, hd_X1_copyFrom⟩
theorem hd_X1_addWind : yX1_addWind.cls ≠ "java/lang/invoke/MethodHandle" ∧ yX1_addWind.cls ≠ "java/lang/invoke/VarHandle" ∧ (parseMethodDescriptor yX1_addWind.desc).map (fun d => d.parameters.length) = some 3 := by decide +kernel
theorem he_X1_addWind : yX1_addWind.cls = RX1 ∧ yX1_addWind.cls ≠ "java/lang/invoke/MethodHandle" ∧ yX1_addWind.cls ≠ "java/lang/invoke/VarHandle" ∧ (parseMethodDescriptor yX1_addWind.desc).map (fun d => d.parameters.length) = some 3 := ⟨rfl, hd_X1_addWind⟩
theorem hd_X1_hasWind : yX1_hasWind.cls ≠ "java/lang/invoke/MethodHandle" ∧ yX1_hasWind.cls ≠ "java/lang/invoke/VarHandle" ∧ (parseMethodDescriptor yX1_hasWind.desc).map (fun d => d.parameters.length) = some 1 := by decide +kernel
theorem he_X1_hasWind : yX1_hasWind.cls = RX1 ∧ yX1_hasWind.cls ≠ "java/lang/invoke/MethodHandle" ∧ yX1_hasWind.cls ≠ "java/lang/invoke/VarHandle" ∧ (parseMethodDescriptor yX1_hasWind.desc).map (fun d => d.parameters.length) = some 1 := ⟨rfl, hd_X1_hasWind⟩
theorem hd_X1_waysBehind : yX1_waysBehind.cls ≠ "java/lang/invoke/MethodHandle" ∧ yX1_waysBehind.cls ≠ "java/lang/invoke/VarHandle" ∧ (parseMethodDescriptor yX1_waysBehind.desc).map (fun d => d.parameters.length) = some 4 := by decide +kernel
theorem he_X1_waysBehind : yX1_waysBehind.cls = RX1 ∧ yX1_waysBehind.cls ≠ "java/lang/invoke/MethodHandle" ∧ yX1_waysBehind.cls ≠ "java/lang/invoke/VarHandle" ∧ (parseMethodDescriptor yX1_waysBehind.desc).map (fun d => d.parameters.length) = some 4 := ⟨rfl, hd_X1_waysBehind⟩
theorem hd_X1_brookUnder : yX1_brookUnder.cls ≠ "java/lang/invoke/MethodHandle" ∧ yX1_brookUnder.cls ≠ "java/lang/invoke/VarHandle" ∧ (parseMethodDescriptor yX1_brookUnder.desc).map (fun d => d.parameters.length) = some 4 := by decide +kernel
theorem he_X1_brookUnder : yX1_brookUnder.cls = RX1 ∧ yX1_brookUnder.cls ≠ "java/lang/invoke/MethodHandle" ∧ yX1_brookUnder.cls ≠ "java/lang/invoke/VarHandle" ∧ (parseMethodDescriptor yX1_brookUnder.desc).map (fun d => d.parameters.length) = some 4 := ⟨rfl, hd_X1_brookUnder⟩
theorem hd_X1_blowOver : yX1_blowOver.cls ≠ "java/lang/invoke/MethodHandle" ∧ yX1_blowOver.cls ≠ "java/lang/invoke/VarHandle" ∧ (parseMethodDescriptor yX1_blowOver.desc).map (fun d => d.parameters.length) = some 2 := by decide +kernel
theorem he_X1_blowOver : yX1_blowOver.cls = RX1 ∧ yX1_blowOver.cls ≠ "java/lang/invoke/MethodHandle" ∧ yX1_blowOver.cls ≠ "java/lang/invoke/VarHandle" ∧ (parseMethodDescriptor yX1_blowOver.desc).map (fun d => d.parameters.length) = some 2 := ⟨rfl, hd_X1_blowOver⟩
theorem hd_X1_yearOf : yX1_yearOf.cls ≠ "java/lang/invoke/MethodHandle" ∧ yX1_yearOf.cls ≠ "java/lang/invoke/VarHandle" ∧ (parseMethodDescriptor yX1_yearOf.desc).map (fun d => d.parameters.length) = some 3 := by decide +kernel
theorem he_X1_yearOf : yX1_yearOf.cls = RX1 ∧ yX1_yearOf.cls ≠ "java/lang/invoke/MethodHandle" ∧ yX1_yearOf.cls ≠ "java/lang/invoke/VarHandle" ∧ (parseMethodDescriptor yX1_yearOf.desc).map (fun d => d.parameters.length) = some 3 := ⟨rfl, hd_X1_yearOf⟩
theorem hd_X1_daysInAll : yX1_daysInAll.cls ≠ "java/lang/invoke/MethodHandle" ∧ yX1_daysInAll.cls ≠ "java/lang/invoke/VarHandle" ∧ (parseMethodDescriptor yX1_daysInAll.desc).map (fun d => d.parameters.length) = some 0 := by decide +kernel
theorem he_X1_daysInAll : yX1_daysInAll.cls = RX1 ∧ yX1_daysInAll.cls ≠ "java/lang/invoke/MethodHandle" ∧ yX1_daysInAll.cls ≠ "java/lang/invoke/VarHandle" ∧ (parseMethodDescriptor yX1_daysInAll.desc).map (fun d => d.parameters.length) = some 0 := ⟨rfl, hd_X1_daysInAll⟩
theorem hd_X1_windOfDay : yX1_windOfDay.cls ≠ "java/lang/invoke/MethodHandle" ∧ yX1_windOfDay.cls ≠ "java/lang/invoke/VarHandle" ∧ (parseMethodDescriptor yX1_windOfDay.desc).map (fun d => d.parameters.length) = some 1 := by decide +kernel
theorem he_X1_windOfDay : yX1_windOfDay.cls = RX1 ∧ yX1_windOfDay.cls ≠ "java/lang/invoke/MethodHandle" ∧ yX1_windOfDay.cls ≠ "java/lang/invoke/VarHandle" ∧ (parseMethodDescriptor yX1_windOfDay.desc).map (fun d => d.parameters.length) = some 1 := ⟨rfl, hd_X1_windOfDay⟩
def f_X7_bit (x0 : Int32) (x1 : Int32) : (Int32) := ((x0 >>> (x1 &&& 31)) &&& (1 : Int32))
set_option maxHeartbeats 4000000 in
set_option maxRecDepth 100000 in
theorem c_X7_bit (l : Launch) (G : Ge) (x0 : Int32) (x1 : Int32) {F : (Int32)} (hF : f_X7_bit x0 x1 = F) : CI l yX7_bit wsX7_bit { frames := 0, cells := 0, slots := 0, locals := 0 } [.int x0, .int x1] G ([] : List va_W) ([] : List va_W) F := by
  intro sz
  refine Met.ofW (cc := cX7_bit) (maxL := 2) (ret := (some .int)) (by decide) rfl ?_
  intro p e s m args below meth c s₁ B hml hv
  obtain ⟨rfl, hpre⟩ := hv
  obtain ⟨hsz, hH, hK, hN, hA⟩ := kb_start hpre
  subst hsz
  have hx := B.exec
  have hb := B.bytes
  have hr := B.returns
  have hts := atoms_spec (ws := wsX7_bit) B.pre
  have hown : s.vm.findClass RX7 = some m.cls := findClass_of_methodNamed B.named
  have hlocks := B.notSynchronized
  generalize hAe : va_A (List.flatten ([] : List va_W)) s.heap.size = A at hH hA ⊢
  have hl := lv_entry ([.int x0, .int x1]) (n := 2) (Nat.le_of_ble_eq_true rfl)
  rw [lg_entry_eq]
  generalize (lg_sl ([.int x0, .int x1]) ++ List.replicate (2 - (lg_sl ([.int x0, .int x1])).length) Slot.unset).toArray = ls at hl ⊢
  have hl : lv_has ls 2 [(0, .int x0), (1, .int x1)] := hl
  have hH : HP G A s.heap ([] : List va_W) s.heap [] := hH
  have hF : ((x0 >>> (x1 &&& 31)) &&& (1 : Int32)) = F := hF
  refine lv_iload_n hx hb dX7_bit_0 rfl (lv_at hl 0 rfl) ?_
  refine lv_iload_n hx hb dX7_bit_1 rfl (lv_at hl 1 rfl) ?_
  refine lv_ishr hx hb dX7_bit_2 ?_
  refine lv_iconst (v := 1) hx hb dX7_bit_3 (by decide) ?_
  refine lv_iand hx hb dX7_bit_4 ?_
  subst hF
  exact kb_iret hx hb hr hH rfl rfl dX7_bit_5 hlocks
def f_X7_isCell (x0 : Int32) : (Int32) := (if x0 < 0 then (0 : Int32) else (if (10 : Int32) ≤ x0 then (0 : Int32) else (1 : Int32)))
set_option maxHeartbeats 4000000 in
set_option maxRecDepth 100000 in
theorem c_X7_isCell (l : Launch) (G : Ge) (x0 : Int32) {F : (Int32)} (hF : f_X7_isCell x0 = F) : CI l yX7_isCell wsX7_isCell { frames := 0, cells := 0, slots := 0, locals := 0 } [.int x0] G ([] : List va_W) ([] : List va_W) F := by
  intro sz
  refine Met.ofW (cc := cX7_isCell) (maxL := 1) (ret := (some .boolean)) (by decide) rfl ?_
  intro p e s m args below meth c s₁ B hml hv
  obtain ⟨rfl, hpre⟩ := hv
  obtain ⟨hsz, hH, hK, hN, hA⟩ := kb_start hpre
  subst hsz
  have hx := B.exec
  have hb := B.bytes
  have hr := B.returns
  have hts := atoms_spec (ws := wsX7_isCell) B.pre
  have hown : s.vm.findClass RX7 = some m.cls := findClass_of_methodNamed B.named
  have hlocks := B.notSynchronized
  generalize hAe : va_A (List.flatten ([] : List va_W)) s.heap.size = A at hH hA ⊢
  have hl := lv_entry ([.int x0]) (n := 1) (Nat.le_of_ble_eq_true rfl)
  rw [lg_entry_eq]
  generalize (lg_sl ([.int x0]) ++ List.replicate (1 - (lg_sl ([.int x0])).length) Slot.unset).toArray = ls at hl ⊢
  have hl : lv_has ls 1 [(0, .int x0)] := hl
  have hH : HP G A s.heap ([] : List va_W) s.heap [] := hH
  have hF : (if x0 < 0 then (0 : Int32) else (if (10 : Int32) ≤ x0 then (0 : Int32) else (1 : Int32))) = F := hF
  refine lv_iload_n hx hb dX7_isCell_0 rfl (lv_at hl 0 rfl) ?_
  refine lv_if_lt (tgt := 14) hx hb dX7_isCell_1 (by decide) (fun c1 => ?_) (fun c1 => ?_)
  · rw [if_pos c1] at hF
    refine lv_iconst (v := 0) hx hb dX7_isCell_14 (by decide) ?_
    subst hF
    exact kb_zret hx hb hr hH rfl rfl (kb_nar _ (Or.inl rfl)) dX7_isCell_15 hlocks
  · rw [if_neg c1] at hF
    refine lv_iload_n hx hb dX7_isCell_4 rfl (lv_at hl 0 rfl) ?_
    refine lv_bipush (v := 10) hx hb dX7_isCell_5 (by decide) ?_
    refine lv_icmp_ge (tgt := 14) hx hb dX7_isCell_7 (by decide) (fun c2 => ?_) (fun c2 => ?_)
    · rw [if_pos c2] at hF
      refine lv_iconst (v := 0) hx hb dX7_isCell_14 (by decide) ?_
      subst hF
      exact kb_zret hx hb hr hH rfl rfl (kb_nar _ (Or.inl rfl)) dX7_isCell_15 hlocks
    · rw [if_neg c2] at hF
      refine lv_iconst (v := 1) hx hb dX7_isCell_10 (by decide) ?_
      refine lv_goto (tgt := 15) hx hb dX7_isCell_11 (by decide) ?_
      subst hF
      exact kb_zret hx hb hr hH rfl rfl (kb_nar _ (Or.inr rfl)) dX7_isCell_15 hlocks
def f_X7_isParish (x0 : Int32) : (Int32) := (if x0 = 0 then (1 : Int32) else (if x0 = (1 : Int32) then (1 : Int32) else (0 : Int32)))
set_option maxHeartbeats 4000000 in
set_option maxRecDepth 100000 in
theorem c_X7_isParish (l : Launch) (G : Ge) (x0 : Int32) {F : (Int32)} (hF : f_X7_isParish x0 = F) : CI l yX7_isParish wsX7_isParish { frames := 0, cells := 0, slots := 0, locals := 0 } [.int x0] G ([] : List va_W) ([] : List va_W) F := by
  intro sz
  refine Met.ofW (cc := cX7_isParish) (maxL := 1) (ret := (some .boolean)) (by decide) rfl ?_
  intro p e s m args below meth c s₁ B hml hv
  obtain ⟨rfl, hpre⟩ := hv
  obtain ⟨hsz, hH, hK, hN, hA⟩ := kb_start hpre
  subst hsz
  have hx := B.exec
  have hb := B.bytes
  have hr := B.returns
  have hts := atoms_spec (ws := wsX7_isParish) B.pre
  have hown : s.vm.findClass RX7 = some m.cls := findClass_of_methodNamed B.named
  have hlocks := B.notSynchronized
  generalize hAe : va_A (List.flatten ([] : List va_W)) s.heap.size = A at hH hA ⊢
  have hl := lv_entry ([.int x0]) (n := 1) (Nat.le_of_ble_eq_true rfl)
  rw [lg_entry_eq]
  generalize (lg_sl ([.int x0]) ++ List.replicate (1 - (lg_sl ([.int x0])).length) Slot.unset).toArray = ls at hl ⊢
  have hl : lv_has ls 1 [(0, .int x0)] := hl
  have hH : HP G A s.heap ([] : List va_W) s.heap [] := hH
  have hF : (if x0 = 0 then (1 : Int32) else (if x0 = (1 : Int32) then (1 : Int32) else (0 : Int32))) = F := hF
  refine lv_iload_n hx hb dX7_isParish_0 rfl (lv_at hl 0 rfl) ?_
  refine lv_if_eq (tgt := 9) hx hb dX7_isParish_1 (by decide) (fun c1 => ?_) (fun c1 => ?_)
  · rw [if_pos c1] at hF
    refine lv_iconst (v := 1) hx hb dX7_isParish_9 (by decide) ?_
    refine lv_goto (tgt := 14) hx hb dX7_isParish_10 (by decide) ?_
    subst hF
    exact kb_zret hx hb hr hH rfl rfl (kb_nar _ (Or.inr rfl)) dX7_isParish_14 hlocks
  · rw [if_neg c1] at hF
    refine lv_iload_n hx hb dX7_isParish_4 rfl (lv_at hl 0 rfl) ?_
    refine lv_iconst (v := 1) hx hb dX7_isParish_5 (by decide) ?_
    refine lv_icmp_ne (tgt := 13) hx hb dX7_isParish_6 (by decide) (fun c2 => ?_) (fun c2 => ?_)
    · rw [if_neg c2] at hF
      refine lv_iconst (v := 0) hx hb dX7_isParish_13 (by decide) ?_
      subst hF
      exact kb_zret hx hb hr hH rfl rfl (kb_nar _ (Or.inl rfl)) dX7_isParish_14 hlocks
    · rw [if_pos c2] at hF
      refine lv_iconst (v := 1) hx hb dX7_isParish_9 (by decide) ?_
      refine lv_goto (tgt := 14) hx hb dX7_isParish_10 (by decide) ?_
      subst hF
      exact kb_zret hx hb hr hH rfl rfl (kb_nar _ (Or.inr rfl)) dX7_isParish_14 hlocks
def f_X7_at (n_p0 : Nat) (f_p0 : Nat → Int32) (x1 : Int32) : (Int32) := (if x1 < 0 then (0 : Int32) else (if (nI n_p0) ≤ x1 then (0 : Int32) else (f_p0 (x1).toNatClampNeg)))
set_option maxHeartbeats 4000000 in
set_option maxRecDepth 100000 in
theorem c_X7_at (l : Launch) (G : Ge) (a_p0 : Nat) (n_p0 : Nat) (f_p0 : Nat → Int32) (x1 : Int32) (hn_p0 : n_p0 < 2 ^ 31) {F : (Int32)} (hF : f_X7_at n_p0 f_p0 x1 = F) : CI l yX7_at wsX7_at { frames := 0, cells := 0, slots := 0, locals := 0 } [.ref a_p0, .int x1] G ([b_arr G a_p0 n_p0 f_p0]) ([b_arr G a_p0 n_p0 f_p0]) F := by
  intro sz
  refine Met.ofW (cc := cX7_at) (maxL := 2) (ret := (some .int)) (by decide) rfl ?_
  intro p e s m args below meth c s₁ B hml hv
  obtain ⟨rfl, hpre⟩ := hv
  obtain ⟨hsz, hH, hK, hN, hA⟩ := kb_start hpre
  subst hsz
  have hx := B.exec
  have hb := B.bytes
  have hr := B.returns
  have hts := atoms_spec (ws := wsX7_at) B.pre
  have hown : s.vm.findClass RX7 = some m.cls := findClass_of_methodNamed B.named
  have hlocks := B.notSynchronized
  generalize hAe : va_A (List.flatten ([b_arr G a_p0 n_p0 f_p0])) s.heap.size = A at hH hA ⊢
  have hl := lv_entry ([.ref a_p0, .int x1]) (n := 2) (Nat.le_of_ble_eq_true rfl)
  rw [lg_entry_eq]
  generalize (lg_sl ([.ref a_p0, .int x1]) ++ List.replicate (2 - (lg_sl ([.ref a_p0, .int x1])).length) Slot.unset).toArray = ls at hl ⊢
  have hl : lv_has ls 2 [(0, .ref a_p0), (1, .int x1)] := hl
  have hH : HP G A s.heap ([b_arr G a_p0 n_p0 f_p0]) s.heap [] := hH
  have hF : (if x1 < 0 then (0 : Int32) else (if (nI n_p0) ≤ x1 then (0 : Int32) else (f_p0 (x1).toNatClampNeg))) = F := hF
  refine lv_iload_n hx hb dX7_at_0 rfl (lv_at hl 1 rfl) ?_
  refine lv_if_lt (tgt := 16) hx hb dX7_at_1 (by decide) (fun c1 => ?_) (fun c1 => ?_)
  · rw [if_pos c1] at hF
    refine lv_iconst (v := 0) hx hb dX7_at_16 (by decide) ?_
    subst hF
    exact kb_iret hx hb hr hH rfl rfl dX7_at_17 hlocks
  · rw [if_neg c1] at hF
    refine lv_iload_n hx hb dX7_at_4 rfl (lv_at hl 1 rfl) ?_
    refine lv_aload_n hx hb dX7_at_5 rfl (lv_at hl 0 rfl) ?_
    refine kb_alen (v := (nI n_p0)) hx hb hK hH 0 0 rfl rfl rfl dX7_at_6 ?_
    refine lv_icmp_ge (tgt := 16) hx hb dX7_at_7 (by decide) (fun c2 => ?_) (fun c2 => ?_)
    · rw [if_pos c2] at hF
      refine lv_iconst (v := 0) hx hb dX7_at_16 (by decide) ?_
      subst hF
      exact kb_iret hx hb hr hH rfl rfl dX7_at_17 hlocks
    · rw [if_neg c2] at hF
      refine lv_aload_n hx hb dX7_at_10 rfl (lv_at hl 0 rfl) ?_
      refine lv_iload_n hx hb dX7_at_11 rfl (lv_at hl 1 rfl) ?_
      refine kb_iald hx hb hK hH 0 rfl (kb_vp hn_p0 c1 c2) dX7_at_12 ?_
      refine lv_goto (tgt := 17) hx hb dX7_at_13 (by decide) ?_
      subst hF
      exact kb_iret hx hb hr hH rfl rfl dX7_at_17 hlocks
def f_X7_put (n_p0 : Nat) (f_p0 : Nat → Int32) (x1 : Int32) (x2 : Int32) : ((Nat → Int32)) := (if x1 < 0 then f_p0 else (if (nI n_p0) ≤ x1 then f_p0 else (upd f_p0 (x1).toNatClampNeg x2)))
set_option maxHeartbeats 4000000 in
set_option maxRecDepth 100000 in
theorem c_X7_put (l : Launch) (G : Ge) (a_p0 : Nat) (n_p0 : Nat) (f_p0 : Nat → Int32) (x1 : Int32) (x2 : Int32) (hn_p0 : n_p0 < 2 ^ 31) {F : ((Nat → Int32))} (hF : f_X7_put n_p0 f_p0 x1 x2 = F) : CV l yX7_put wsX7_put { frames := 0, cells := 0, slots := 0, locals := 0 } [.ref a_p0, .int x1, .int x2] G ([b_arr G a_p0 n_p0 f_p0]) ([b_arr G a_p0 n_p0 F]) := by
  intro sz
  refine Met.ofW (cc := cX7_put) (maxL := 3) (ret := none) (by decide) rfl ?_
  intro p e s m args below meth c s₁ B hml hv
  obtain ⟨rfl, hpre⟩ := hv
  obtain ⟨hsz, hH, hK, hN, hA⟩ := kb_start hpre
  subst hsz
  have hx := B.exec
  have hb := B.bytes
  have hr := B.returns
  have hts := atoms_spec (ws := wsX7_put) B.pre
  have hown : s.vm.findClass RX7 = some m.cls := findClass_of_methodNamed B.named
  have hlocks := B.notSynchronized
  generalize hAe : va_A (List.flatten ([b_arr G a_p0 n_p0 f_p0])) s.heap.size = A at hH hA ⊢
  have hl := lv_entry ([.ref a_p0, .int x1, .int x2]) (n := 3) (Nat.le_of_ble_eq_true rfl)
  rw [lg_entry_eq]
  generalize (lg_sl ([.ref a_p0, .int x1, .int x2]) ++ List.replicate (3 - (lg_sl ([.ref a_p0, .int x1, .int x2])).length) Slot.unset).toArray = ls at hl ⊢
  have hl : lv_has ls 3 [(0, .ref a_p0), (1, .int x1), (2, .int x2)] := hl
  have hH : HP G A s.heap ([b_arr G a_p0 n_p0 f_p0]) s.heap [] := hH
  have hF : (if x1 < 0 then f_p0 else (if (nI n_p0) ≤ x1 then f_p0 else (upd f_p0 (x1).toNatClampNeg x2))) = F := hF
  refine lv_iload_n hx hb dX7_put_0 rfl (lv_at hl 1 rfl) ?_
  refine lv_if_lt (tgt := 14) hx hb dX7_put_1 (by decide) (fun c1 => ?_) (fun c1 => ?_)
  · rw [if_pos c1] at hF
    subst hF
    exact kb_vret hx hb hr hH rfl dX7_put_14 hlocks
  · rw [if_neg c1] at hF
    refine lv_iload_n hx hb dX7_put_4 rfl (lv_at hl 1 rfl) ?_
    refine lv_aload_n hx hb dX7_put_5 rfl (lv_at hl 0 rfl) ?_
    refine kb_alen (v := (nI n_p0)) hx hb hK hH 0 0 rfl rfl rfl dX7_put_6 ?_
    refine lv_icmp_ge (tgt := 14) hx hb dX7_put_7 (by decide) (fun c2 => ?_) (fun c2 => ?_)
    · rw [if_pos c2] at hF
      subst hF
      exact kb_vret hx hb hr hH rfl dX7_put_14 hlocks
    · rw [if_neg c2] at hF
      refine lv_aload_n hx hb dX7_put_10 rfl (lv_at hl 0 rfl) ?_
      refine lv_iload_n hx hb dX7_put_11 rfl (lv_at hl 1 rfl) ?_
      refine lv_iload_n hx hb dX7_put_12 rfl (lv_at hl 2 rfl) ?_
      refine kb_iast (WS' := ([b_arr G a_p0 n_p0 (upd f_p0 (x1).toNatClampNeg x2)])) hx hb hK hH 0 rfl (kb_vp hn_p0 c1 c2) rfl dX7_put_13 (fun H locs hH => ?_)
      subst hF
      exact kb_vret hx hb hr hH rfl dX7_put_14 hlocks
def f_X7_copyRow_L1 (f_p0 : Nat → Int32) (n_p1 : Nat) (iL1 : Nat) (s : ((Nat → Int32))) : ((Nat → Int32)) ⊕ ((Nat → Int32)) := (if (nI n_p1) ≤ (nI iL1) then (Sum.inr s) else (Sum.inl (upd s (nI iL1).toNatClampNeg (f_p0 (nI iL1).toNatClampNeg))))
def f_X7_copyRow (n_p0 : Nat) (f_p0 : Nat → Int32) (n_p1 : Nat) (f_p1 : Nat → Int32) : ((Nat → Int32)) := (kAp (lpb (f_X7_copyRow_L1 f_p0 n_p1) (cN (nI n_p0)) 0 f_p1) (fun z4 => z4))
set_option maxHeartbeats 4000000 in
set_option maxRecDepth 100000 in
theorem c_X7_copyRow (l : Launch) (G : Ge) (a_p0 : Nat) (n_p0 : Nat) (f_p0 : Nat → Int32) (a_p1 : Nat) (n_p1 : Nat) (f_p1 : Nat → Int32) (hn_p0 : n_p0 < 2 ^ 31) (hn_p1 : n_p1 < 2 ^ 31) {F : ((Nat → Int32))} (hF : f_X7_copyRow n_p0 f_p0 n_p1 f_p1 = F) : CV l yX7_copyRow wsX7_copyRow { frames := 0, cells := 0, slots := 0, locals := 0 } [.ref a_p0, .ref a_p1] G ([b_arr G a_p0 n_p0 f_p0] ++ [b_arr G a_p1 n_p1 f_p1]) ([b_arr G a_p0 n_p0 f_p0] ++ [b_arr G a_p1 n_p1 F]) := by
  intro sz
  refine Met.ofW (cc := cX7_copyRow) (maxL := 3) (ret := none) (by decide) rfl ?_
  intro p e s m args below meth c s₁ B hml hv
  obtain ⟨rfl, hpre⟩ := hv
  obtain ⟨hsz, hH, hK, hN, hA⟩ := kb_start hpre
  subst hsz
  have hx := B.exec
  have hb := B.bytes
  have hr := B.returns
  have hts := atoms_spec (ws := wsX7_copyRow) B.pre
  have hown : s.vm.findClass RX7 = some m.cls := findClass_of_methodNamed B.named
  have hlocks := B.notSynchronized
  generalize hAe : va_A (List.flatten ([b_arr G a_p0 n_p0 f_p0] ++ [b_arr G a_p1 n_p1 f_p1])) s.heap.size = A at hH hA ⊢
  have hl := lv_entry ([.ref a_p0, .ref a_p1]) (n := 3) (Nat.le_of_ble_eq_true rfl)
  rw [lg_entry_eq]
  generalize (lg_sl ([.ref a_p0, .ref a_p1]) ++ List.replicate (3 - (lg_sl ([.ref a_p0, .ref a_p1])).length) Slot.unset).toArray = ls at hl ⊢
  have hl : lv_has ls 3 [(0, .ref a_p0), (1, .ref a_p1)] := hl
  have hH : HP G A s.heap ([b_arr G a_p0 n_p0 f_p0] ++ [b_arr G a_p1 n_p1 f_p1]) s.heap [] := hH
  have hF : (kAp (lpb (f_X7_copyRow_L1 f_p0 n_p1) (cN (nI n_p0)) 0 f_p1) (fun z4 => z4)) = F := hF
  refine lv_iconst (v := 0) hx hb dX7_copyRow_0 (by decide) ?_
  refine lv_istore_n (lv' := [(2, .int (0 : Int32)), (0, .ref a_p0), (1, .ref a_p1)]) hx hb dX7_copyRow_1 rfl hl (by decide) rfl (fun ls hl => ?_)
  obtain ⟨SFL1, hSFL1⟩ : ∃ z, z = (lpb (f_X7_copyRow_L1 f_p0 n_p1) (cN (nI n_p0)) 0 f_p1) := ⟨_, rfl⟩
  have hF := kAp_eq hF hSFL1
  refine kb_cut (fun H locs ls => HP G A s.heap ([b_arr G a_p0 n_p0 f_p0] ++ [b_arr G a_p1 n_p1 SFL1]) H locs ∧ lv_has ls 3 []) 26 [] (fun EXL1 => ?_) (fun H locs ls hX => ?_)
  · refine kb_loop (σ := ((Nat → Int32))) (fun n i x => n + i = (cN (nI n_p0)) ∧ lpb (f_X7_copyRow_L1 f_p0 n_p1) n i x = SFL1) (fun iL1 x H locs ls => HP G A s.heap ([b_arr G a_p0 n_p0 f_p0] ++ [b_arr G a_p1 n_p1 x]) H locs ∧ lv_has ls 3 [(2, .int (nI iL1)), (0, .ref a_p0), (1, .ref a_p1)]) (fun iL1 x H locs ls hI hX => ?_) (fun n iL1 x hI ihL1 H locs ls hX => ?_) (cN (nI n_p0)) 0 f_p1 _ _ _ ⟨Nat.add_zero _, hSFL1.symm⟩ ⟨hH, lv_sub hl [0, 1, 2] rfl⟩
    · obtain ⟨L1a, exL1a⟩ : ∃ z, z = x := ⟨_, rfl⟩
      subst exL1a
      have hH : HP G A s.heap ([b_arr G a_p0 n_p0 f_p0] ++ [b_arr G a_p1 n_p1 L1a]) H locs := hX.1
      have hl : lv_has ls 3 [(2, .int (nI iL1)), (0, .ref a_p0), (1, .ref a_p1)] := hX.2
      obtain ⟨hiL1, hs⟩ := hI
      have hiL1 : iL1 = (cN (nI n_p0)) := by omega
      refine lv_iload_n hx hb dX7_copyRow_2 rfl (lv_at hl 0 rfl) ?_
      refine lv_aload_n hx hb dX7_copyRow_3 rfl (lv_at hl 1 rfl) ?_
      refine kb_alen (v := (nI n_p0)) hx hb hK hH 0 0 rfl rfl rfl dX7_copyRow_4 ?_
      refine lv_icmp_ge (tgt := 26) hx hb dX7_copyRow_5 (by decide) (fun _ => ?_) (fun c => absurd (cN_end hiL1) c)
      exact EXL1 _ _ _ ⟨by subst hs; exact hH, by subst hs; exact lv_sub hl [] rfl⟩
    · obtain ⟨L1a, exL1a⟩ : ∃ z, z = x := ⟨_, rfl⟩
      subst exL1a
      have hH : HP G A s.heap ([b_arr G a_p0 n_p0 f_p0] ++ [b_arr G a_p1 n_p1 L1a]) H locs := hX.1
      have hl : lv_has ls 3 [(2, .int (nI iL1)), (0, .ref a_p0), (1, .ref a_p1)] := hX.2
      obtain ⟨hiL1, hs⟩ := hI
      have hltL1 : iL1 < (cN (nI n_p0)) := by omega
      obtain ⟨BVL1, hBd⟩ : ∃ z, (f_X7_copyRow_L1 f_p0 n_p1) iL1 L1a = z := ⟨_, rfl⟩
      have hBL1 : (if (nI n_p1) ≤ (nI iL1) then (Sum.inr L1a) else (Sum.inl (upd L1a (nI iL1).toNatClampNeg (f_p0 (nI iL1).toNatClampNeg)))) = BVL1 := hBd
      refine lv_iload_n hx hb dX7_copyRow_2 rfl (lv_at hl 0 rfl) ?_
      refine lv_aload_n hx hb dX7_copyRow_3 rfl (lv_at hl 1 rfl) ?_
      refine kb_alen (v := (nI n_p0)) hx hb hK hH 0 0 rfl rfl rfl dX7_copyRow_4 ?_
      refine lv_icmp_ge (tgt := 26) hx hb dX7_copyRow_5 (by decide) (fun c => absurd c (cN_ge hltL1)) (fun c2 => ?_)
      refine lv_iload_n hx hb dX7_copyRow_8 rfl (lv_at hl 0 rfl) ?_
      refine lv_aload_n hx hb dX7_copyRow_9 rfl (lv_at hl 2 rfl) ?_
      refine kb_alen (v := (nI n_p1)) hx hb hK hH 1 0 rfl rfl rfl dX7_copyRow_10 ?_
      refine lv_icmp_ge (tgt := 26) hx hb dX7_copyRow_11 (by decide) (fun c3 => ?_) (fun c3 => ?_)
      · rw [if_pos c3] at hBL1
        have hs := lpb_r hs (hBd.trans hBL1.symm)
        exact EXL1 _ _ _ ⟨by subst hs; exact hH, by subst hs; exact lv_sub hl [] rfl⟩
      · rw [if_neg c3] at hBL1
        refine lv_aload_n hx hb dX7_copyRow_14 rfl (lv_at hl 2 rfl) ?_
        refine lv_iload_n hx hb dX7_copyRow_15 rfl (lv_at hl 0 rfl) ?_
        refine lv_aload_n hx hb dX7_copyRow_16 rfl (lv_at hl 1 rfl) ?_
        refine lv_iload_n hx hb dX7_copyRow_17 rfl (lv_at hl 0 rfl) ?_
        refine kb_iald hx hb hK hH 0 rfl (kb_vpi hn_p0 c2 (Nat.lt_of_lt_of_le hltL1 (Nat.le_of_lt (cN_lt _)))) dX7_copyRow_18 ?_
        refine kb_iast (WS' := ([b_arr G a_p0 n_p0 f_p0] ++ [b_arr G a_p1 n_p1 (upd L1a (nI iL1).toNatClampNeg (f_p0 (nI iL1).toNatClampNeg))])) hx hb hK hH 1 rfl (kb_vpi hn_p1 c3 (Nat.lt_of_lt_of_le hltL1 (Nat.le_of_lt (cN_lt _)))) rfl dX7_copyRow_19 (fun H locs hH => ?_)
        refine lv_iinc (v := (nI (iL1 + 1))) (lv' := [(2, .int (nI (iL1 + 1))), (0, .ref a_p0), (1, .ref a_p1)]) hx hb dX7_copyRow_20 hl (k := 0) rfl (nI_1 _) (by decide) rfl (fun ls hl => ?_)
        refine lv_goto (tgt := 2) hx hb dX7_copyRow_23 (by decide) ?_
        have hs := lpb_l hs (hBd.trans hBL1.symm)
        exact ihL1 _ _ _ _ ⟨by omega, hs⟩ ⟨hH, lv_sub hl [0, 1, 2] rfl⟩
  · obtain ⟨hH, hl⟩ := hX
    subst hF
    exact kb_vret hx hb hr hH rfl dX7_copyRow_26 hlocks
def f_X7_cutFigures_L1 (iL1 : Nat) (s : (Int32)) : (Int32) := (s / (10 : Int32))
def f_X7_cutFigures (x0 : Int32) (x1 : Int32) : (Int32) := (kAp (lpu (f_X7_cutFigures_L1) (cN x1) 0 x0) (fun z3 => z3))
set_option maxHeartbeats 4000000 in
set_option maxRecDepth 100000 in
theorem c_X7_cutFigures (l : Launch) (G : Ge) (x0 : Int32) (x1 : Int32) {F : (Int32)} (hF : f_X7_cutFigures x0 x1 = F) : CI l yX7_cutFigures wsX7_cutFigures { frames := 0, cells := 0, slots := 0, locals := 0 } [.int x0, .int x1] G ([] : List va_W) ([] : List va_W) F := by
  intro sz
  refine Met.ofW (cc := cX7_cutFigures) (maxL := 4) (ret := (some .int)) (by decide) rfl ?_
  intro p e s m args below meth c s₁ B hml hv
  obtain ⟨rfl, hpre⟩ := hv
  obtain ⟨hsz, hH, hK, hN, hA⟩ := kb_start hpre
  subst hsz
  have hx := B.exec
  have hb := B.bytes
  have hr := B.returns
  have hts := atoms_spec (ws := wsX7_cutFigures) B.pre
  have hown : s.vm.findClass RX7 = some m.cls := findClass_of_methodNamed B.named
  have hlocks := B.notSynchronized
  generalize hAe : va_A (List.flatten ([] : List va_W)) s.heap.size = A at hH hA ⊢
  have hl := lv_entry ([.int x0, .int x1]) (n := 4) (Nat.le_of_ble_eq_true rfl)
  rw [lg_entry_eq]
  generalize (lg_sl ([.int x0, .int x1]) ++ List.replicate (4 - (lg_sl ([.int x0, .int x1])).length) Slot.unset).toArray = ls at hl ⊢
  have hl : lv_has ls 4 [(0, .int x0), (1, .int x1)] := hl
  have hH : HP G A s.heap ([] : List va_W) s.heap [] := hH
  have hF : (kAp (lpu (f_X7_cutFigures_L1) (cN x1) 0 x0) (fun z3 => z3)) = F := hF
  refine lv_iload_n hx hb dX7_cutFigures_0 rfl (lv_at hl 0 rfl) ?_
  refine lv_istore_n (lv' := [(2, .int x0), (0, .int x0), (1, .int x1)]) hx hb dX7_cutFigures_1 rfl hl (by decide) rfl (fun ls hl => ?_)
  refine lv_iconst (v := 0) hx hb dX7_cutFigures_2 (by decide) ?_
  refine lv_istore_n (lv' := [(3, .int (0 : Int32)), (2, .int x0), (0, .int x0), (1, .int x1)]) hx hb dX7_cutFigures_3 rfl hl (by decide) rfl (fun ls hl => ?_)
  obtain ⟨SFL1, hSFL1⟩ : ∃ z, z = (lpu (f_X7_cutFigures_L1) (cN x1) 0 x0) := ⟨_, rfl⟩
  have hF := kAp_eq hF hSFL1
  refine kb_cut (fun H locs ls => HP G A s.heap ([] : List va_W) H locs ∧ lv_has ls 4 [(2, .int SFL1)]) 20 [] (fun EXL1 => ?_) (fun H locs ls hX => ?_)
  · refine kb_loop (σ := (Int32)) (fun n i x => n + i = (cN x1) ∧ lpu (f_X7_cutFigures_L1) n i x = SFL1) (fun iL1 x H locs ls => HP G A s.heap ([] : List va_W) H locs ∧ lv_has ls 4 [(3, .int (nI iL1)), (2, .int x), (1, .int x1)]) (fun iL1 x H locs ls hI hX => ?_) (fun n iL1 x hI ihL1 H locs ls hX => ?_) (cN x1) 0 x0 _ _ _ ⟨Nat.add_zero _, hSFL1.symm⟩ ⟨hH, lv_sub hl [0, 1, 3] rfl⟩
    · obtain ⟨L1a, exL1a⟩ : ∃ z, z = x := ⟨_, rfl⟩
      subst exL1a
      have hH : HP G A s.heap ([] : List va_W) H locs := hX.1
      have hl : lv_has ls 4 [(3, .int (nI iL1)), (2, .int L1a), (1, .int x1)] := hX.2
      obtain ⟨hiL1, hs⟩ := hI
      have hiL1 : iL1 = (cN x1) := by omega
      refine lv_iload_n hx hb dX7_cutFigures_4 rfl (lv_at hl 0 rfl) ?_
      refine lv_iload_n hx hb dX7_cutFigures_5 rfl (lv_at hl 2 rfl) ?_
      refine lv_icmp_ge (tgt := 20) hx hb dX7_cutFigures_6 (by decide) (fun _ => ?_) (fun c => absurd (cN_end hiL1) c)
      exact EXL1 _ _ _ ⟨by subst hs; exact hH, by subst hs; exact lv_sub hl [1] rfl⟩
    · obtain ⟨L1a, exL1a⟩ : ∃ z, z = x := ⟨_, rfl⟩
      subst exL1a
      have hH : HP G A s.heap ([] : List va_W) H locs := hX.1
      have hl : lv_has ls 4 [(3, .int (nI iL1)), (2, .int L1a), (1, .int x1)] := hX.2
      obtain ⟨hiL1, hs⟩ := hI
      have hltL1 : iL1 < (cN x1) := by omega
      obtain ⟨BVL1, hBd⟩ : ∃ z, (f_X7_cutFigures_L1) iL1 L1a = z := ⟨_, rfl⟩
      have hs : lpu (f_X7_cutFigures_L1) n (iL1 + 1) BVL1 = SFL1 := by rw [← hBd]; exact hs
      have hBL1 : (L1a / (10 : Int32)) = BVL1 := hBd
      refine lv_iload_n hx hb dX7_cutFigures_4 rfl (lv_at hl 0 rfl) ?_
      refine lv_iload_n hx hb dX7_cutFigures_5 rfl (lv_at hl 2 rfl) ?_
      refine lv_icmp_ge (tgt := 20) hx hb dX7_cutFigures_6 (by decide) (fun c => absurd c (cN_ge hltL1)) (fun c2 => ?_)
      refine lv_iload_n hx hb dX7_cutFigures_9 rfl (lv_at hl 1 rfl) ?_
      refine lv_bipush (v := 10) hx hb dX7_cutFigures_10 (by decide) ?_
      refine lv_idiv hx hb dX7_cutFigures_12 (by decide) ?_
      refine lv_istore_n (lv' := [(2, .int (L1a / (10 : Int32))), (3, .int (nI iL1)), (1, .int x1)]) hx hb dX7_cutFigures_13 rfl hl (by decide) rfl (fun ls hl => ?_)
      refine lv_iinc (v := (nI (iL1 + 1))) (lv' := [(3, .int (nI (iL1 + 1))), (2, .int (L1a / (10 : Int32))), (1, .int x1)]) hx hb dX7_cutFigures_14 hl (k := 1) rfl (nI_1 _) (by decide) rfl (fun ls hl => ?_)
      refine lv_goto (tgt := 4) hx hb dX7_cutFigures_17 (by decide) ?_
      subst hBL1
      exact ihL1 _ _ _ _ ⟨by omega, hs⟩ ⟨hH, lv_sub hl [0, 1, 2] rfl⟩
  · obtain ⟨hH, hl⟩ := hX
    refine lv_iload_n hx hb dX7_cutFigures_20 rfl (lv_at hl 0 rfl) ?_
    subst hF
    exact kb_iret hx hb hr hH rfl rfl dX7_cutFigures_21 hlocks
def f_X7_commonDivisor_L1 (iL1 : Nat) (s : (Int32 × Int32)) : (Int32 × Int32) ⊕ (Int32 × Int32) := (if s.1 = 0 then (Sum.inr (s.1, s.2)) else (Sum.inl ((s.2 - s.2 / s.1 * s.1), s.1)))
def f_X7_commonDivisor (x0 : Int32) (x1 : Int32) : (Int32) := (kAp (lpb (f_X7_commonDivisor_L1) (cN (64 : Int32)) 0 (x1, x0)) (fun z4 => z4.2))
set_option maxHeartbeats 4000000 in
set_option maxRecDepth 100000 in
theorem c_X7_commonDivisor (l : Launch) (G : Ge) (x0 : Int32) (x1 : Int32) {F : (Int32)} (hF : f_X7_commonDivisor x0 x1 = F) : CI l yX7_commonDivisor wsX7_commonDivisor { frames := 0, cells := 0, slots := 0, locals := 0 } [.int x0, .int x1] G ([] : List va_W) ([] : List va_W) F := by
  intro sz
  refine Met.ofW (cc := cX7_commonDivisor) (maxL := 6) (ret := (some .int)) (by decide) rfl ?_
  intro p e s m args below meth c s₁ B hml hv
  obtain ⟨rfl, hpre⟩ := hv
  obtain ⟨hsz, hH, hK, hN, hA⟩ := kb_start hpre
  subst hsz
  have hx := B.exec
  have hb := B.bytes
  have hr := B.returns
  have hts := atoms_spec (ws := wsX7_commonDivisor) B.pre
  have hown : s.vm.findClass RX7 = some m.cls := findClass_of_methodNamed B.named
  have hlocks := B.notSynchronized
  generalize hAe : va_A (List.flatten ([] : List va_W)) s.heap.size = A at hH hA ⊢
  have hl := lv_entry ([.int x0, .int x1]) (n := 6) (Nat.le_of_ble_eq_true rfl)
  rw [lg_entry_eq]
  generalize (lg_sl ([.int x0, .int x1]) ++ List.replicate (6 - (lg_sl ([.int x0, .int x1])).length) Slot.unset).toArray = ls at hl ⊢
  have hl : lv_has ls 6 [(0, .int x0), (1, .int x1)] := hl
  have hH : HP G A s.heap ([] : List va_W) s.heap [] := hH
  have hF : (kAp (lpb (f_X7_commonDivisor_L1) (cN (64 : Int32)) 0 (x1, x0)) (fun z4 => z4.2)) = F := hF
  refine lv_iload_n hx hb dX7_commonDivisor_0 rfl (lv_at hl 0 rfl) ?_
  refine lv_istore_n (lv' := [(2, .int x0), (0, .int x0), (1, .int x1)]) hx hb dX7_commonDivisor_1 rfl hl (by decide) rfl (fun ls hl => ?_)
  refine lv_iload_n hx hb dX7_commonDivisor_2 rfl (lv_at hl 2 rfl) ?_
  refine lv_istore_n (lv' := [(3, .int x1), (2, .int x0), (0, .int x0), (1, .int x1)]) hx hb dX7_commonDivisor_3 rfl hl (by decide) rfl (fun ls hl => ?_)
  refine lv_iconst (v := 0) hx hb dX7_commonDivisor_4 (by decide) ?_
  refine lv_istore (lv' := [(4, .int (0 : Int32)), (3, .int x1), (2, .int x0), (0, .int x0), (1, .int x1)]) hx hb dX7_commonDivisor_5 hl (by decide) rfl (fun ls hl => ?_)
  obtain ⟨SFL1, hSFL1⟩ : ∃ z, z = (lpb (f_X7_commonDivisor_L1) (cN (64 : Int32)) 0 (x1, x0)) := ⟨_, rfl⟩
  have hF := kAp_eq hF hSFL1
  refine kb_cut (fun H locs ls => HP G A s.heap ([] : List va_W) H locs ∧ lv_has ls 6 [(2, .int SFL1.2)]) 34 [] (fun EXL1 => ?_) (fun H locs ls hX => ?_)
  · refine kb_loop (σ := (Int32 × Int32)) (fun n i x => n + i = (cN (64 : Int32)) ∧ lpb (f_X7_commonDivisor_L1) n i x = SFL1) (fun iL1 x H locs ls => HP G A s.heap ([] : List va_W) H locs ∧ lv_has ls 6 [(4, .int (nI iL1)), (3, .int x.1), (2, .int x.2)]) (fun iL1 x H locs ls hI hX => ?_) (fun n iL1 x hI ihL1 H locs ls hX => ?_) (cN (64 : Int32)) 0 (x1, x0) _ _ _ ⟨Nat.add_zero _, hSFL1.symm⟩ ⟨hH, lv_sub hl [0, 1, 2] rfl⟩
    · obtain ⟨L1a, L1b⟩ := x
      have hH : HP G A s.heap ([] : List va_W) H locs := hX.1
      have hl : lv_has ls 6 [(4, .int (nI iL1)), (3, .int L1a), (2, .int L1b)] := hX.2
      obtain ⟨hiL1, hs⟩ := hI
      have hiL1 : iL1 = (cN (64 : Int32)) := by omega
      refine lv_iload hx hb dX7_commonDivisor_7 (lv_at hl 0 rfl) ?_
      refine lv_bipush (v := 64) hx hb dX7_commonDivisor_9 (by decide) ?_
      refine lv_icmp_ge (tgt := 34) hx hb dX7_commonDivisor_11 (by decide) (fun _ => ?_) (fun c => absurd (cN_end hiL1) c)
      exact EXL1 _ _ _ ⟨by subst hs; exact hH, by subst hs; exact lv_sub hl [2] rfl⟩
    · obtain ⟨L1a, L1b⟩ := x
      have hH : HP G A s.heap ([] : List va_W) H locs := hX.1
      have hl : lv_has ls 6 [(4, .int (nI iL1)), (3, .int L1a), (2, .int L1b)] := hX.2
      obtain ⟨hiL1, hs⟩ := hI
      have hltL1 : iL1 < (cN (64 : Int32)) := by omega
      obtain ⟨BVL1, hBd⟩ : ∃ z, (f_X7_commonDivisor_L1) iL1 (L1a, L1b) = z := ⟨_, rfl⟩
      have hBL1 : (if L1a = 0 then (Sum.inr (L1a, L1b)) else (Sum.inl ((L1b - L1b / L1a * L1a), L1a))) = BVL1 := hBd
      refine lv_iload hx hb dX7_commonDivisor_7 (lv_at hl 0 rfl) ?_
      refine lv_bipush (v := 64) hx hb dX7_commonDivisor_9 (by decide) ?_
      refine lv_icmp_ge (tgt := 34) hx hb dX7_commonDivisor_11 (by decide) (fun c => absurd c (cN_ge hltL1)) (fun c2 => ?_)
      refine lv_iload_n hx hb dX7_commonDivisor_14 rfl (lv_at hl 1 rfl) ?_
      refine lv_if_eq (tgt := 34) hx hb dX7_commonDivisor_15 (by decide) (fun c3 => ?_) (fun c3 => ?_)
      · rw [if_pos c3] at hBL1
        have hs := lpb_r hs (hBd.trans hBL1.symm)
        exact EXL1 _ _ _ ⟨by subst hs; exact hH, by subst hs; exact lv_sub hl [2] rfl⟩
      · rw [if_neg c3] at hBL1
        refine lv_iload_n hx hb dX7_commonDivisor_18 rfl (lv_at hl 2 rfl) ?_
        refine lv_iload_n hx hb dX7_commonDivisor_19 rfl (lv_at hl 1 rfl) ?_
        refine lv_irem hx hb dX7_commonDivisor_20 c3 ?_
        refine lv_istore (lv' := [(5, .int (L1b - L1b / L1a * L1a)), (4, .int (nI iL1)), (3, .int L1a), (2, .int L1b)]) hx hb dX7_commonDivisor_21 hl (by decide) rfl (fun ls hl => ?_)
        refine lv_iload_n hx hb dX7_commonDivisor_23 rfl (lv_at hl 2 rfl) ?_
        refine lv_istore_n (lv' := [(2, .int L1a), (5, .int (L1b - L1b / L1a * L1a)), (4, .int (nI iL1)), (3, .int L1a)]) hx hb dX7_commonDivisor_24 rfl hl (by decide) rfl (fun ls hl => ?_)
        refine lv_iload hx hb dX7_commonDivisor_25 (lv_at hl 1 rfl) ?_
        refine lv_istore_n (lv' := [(3, .int (L1b - L1b / L1a * L1a)), (2, .int L1a), (5, .int (L1b - L1b / L1a * L1a)), (4, .int (nI iL1))]) hx hb dX7_commonDivisor_27 rfl hl (by decide) rfl (fun ls hl => ?_)
        refine lv_iinc (v := (nI (iL1 + 1))) (lv' := [(4, .int (nI (iL1 + 1))), (3, .int (L1b - L1b / L1a * L1a)), (2, .int L1a), (5, .int (L1b - L1b / L1a * L1a))]) hx hb dX7_commonDivisor_28 hl (k := 3) rfl (nI_1 _) (by decide) rfl (fun ls hl => ?_)
        refine lv_goto (tgt := 7) hx hb dX7_commonDivisor_31 (by decide) ?_
        have hs := lpb_l hs (hBd.trans hBL1.symm)
        exact ihL1 _ _ _ _ ⟨by omega, hs⟩ ⟨hH, lv_sub hl [0, 1, 2] rfl⟩
  · obtain ⟨hH, hl⟩ := hX
    refine lv_iload_n hx hb dX7_commonDivisor_34 rfl (lv_at hl 0 rfl) ?_
    subst hF
    exact kb_iret hx hb hr hH rfl rfl dX7_commonDivisor_35 hlocks
def f_X2_hasCock (V : OV) (x0 : Int32) : (Int32) := (if x0 < 0 then (0 : Int32) else (if (V.2.1 5) ≤ x0 then (0 : Int32) else (1 : Int32)))
set_option maxHeartbeats 4000000 in
set_option maxRecDepth 100000 in
theorem c_X2_hasCock (l : Launch) (G : Ge) (g : Nat → Nat) (V : OV) (x0 : Int32) {F : (Int32)} (hF : f_X2_hasCock V x0 = F) : CI l yX2_hasCock wsX2_hasCock { frames := 0, cells := 0, slots := 0, locals := 0 } [.ref (g 0), .int x0] G (w_O2 G g V) (w_O2 G g V) F := by
  intro sz
  refine Met.ofW (cc := cX2_hasCock) (maxL := 2) (ret := (some .boolean)) (by decide) rfl ?_
  intro p e s m args below meth c s₁ B hml hv
  obtain ⟨rfl, hpre⟩ := hv
  obtain ⟨hsz, hH, hK, hN, hA⟩ := kb_start hpre
  subst hsz
  have hx := B.exec
  have hb := B.bytes
  have hr := B.returns
  have hts := atoms_spec (ws := wsX2_hasCock) B.pre
  have hown : s.vm.findClass RX2 = some m.cls := findClass_of_methodNamed B.named
  have hlocks := B.notSynchronized
  generalize hAe : va_A (List.flatten (w_O2 G g V)) s.heap.size = A at hH hA ⊢
  have hl := lv_entry ([.ref (g 0), .int x0]) (n := 2) (Nat.le_of_ble_eq_true rfl)
  rw [lg_entry_eq]
  generalize (lg_sl ([.ref (g 0), .int x0]) ++ List.replicate (2 - (lg_sl ([.ref (g 0), .int x0])).length) Slot.unset).toArray = ls at hl ⊢
  have hl : lv_has ls 2 [(0, .ref (g 0)), (1, .int x0)] := hl
  have hH : HP G A s.heap (w_O2 G g V) s.heap [] := hH
  have hin2 : ∀ w ∈ u_ws RX2 TX2 11, w ∈ wsX2_hasCock := fun w h => List.mem_cons_of_mem _ (List.mem_append_right _ h)
  have hF : (if x0 < 0 then (0 : Int32) else (if (V.2.1 5) ≤ x0 then (0 : Int32) else (1 : Int32))) = F := hF
  refine lv_iload_n hx hb dX2_hasCock_0 rfl (lv_at hl 1 rfl) ?_
  refine lv_if_lt (tgt := 16) hx hb dX2_hasCock_1 (by decide) (fun c1 => ?_) (fun c1 => ?_)
  · rw [if_pos c1] at hF
    refine lv_iconst (v := 0) hx hb dX2_hasCock_16 (by decide) ?_
    subst hF
    exact kb_zret hx hb hr hH rfl rfl (kb_nar _ (Or.inl rfl)) dX2_hasCock_17 hlocks
  · rw [if_neg c1] at hF
    refine lv_iload_n hx hb dX2_hasCock_4 rfl (lv_at hl 1 rfl) ?_
    refine lv_aload_n hx hb dX2_hasCock_5 rfl (lv_at hl 0 rfl) ?_
    refine kb_get (v := .int (V.2.1 5)) hx hb hts hin2 hown hK hH 0 rfl rfl rfl 5 (by decide) (hts (.fieldLink RX2 27 "CockWar$Hill" "cocks" "I") (List.mem_of_getElem? (i := 1) rfl)) (fun _ h9 => h9) rfl dX2_hasCock_6 ?_
    refine lv_icmp_ge (tgt := 16) hx hb dX2_hasCock_9 (by decide) (fun c2 => ?_) (fun c2 => ?_)
    · rw [if_pos c2] at hF
      refine lv_iconst (v := 0) hx hb dX2_hasCock_16 (by decide) ?_
      subst hF
      exact kb_zret hx hb hr hH rfl rfl (kb_nar _ (Or.inl rfl)) dX2_hasCock_17 hlocks
    · rw [if_neg c2] at hF
      refine lv_iconst (v := 1) hx hb dX2_hasCock_12 (by decide) ?_
      refine lv_goto (tgt := 17) hx hb dX2_hasCock_13 (by decide) ?_
      subst hF
      exact kb_zret hx hb hr hH rfl rfl (kb_nar _ (Or.inr rfl)) dX2_hasCock_17 hlocks
def f_X2_everyCock (V : OV) : (Int32) := (((1 : Int32) <<< ((V.2.1 5) &&& 31)) - (1 : Int32))
set_option maxHeartbeats 4000000 in
set_option maxRecDepth 100000 in
theorem c_X2_everyCock (l : Launch) (G : Ge) (g : Nat → Nat) (V : OV) {F : (Int32)} (hF : f_X2_everyCock V = F) : CI l yX2_everyCock wsX2_everyCock { frames := 0, cells := 0, slots := 0, locals := 0 } [.ref (g 0)] G (w_O2 G g V) (w_O2 G g V) F := by
  intro sz
  refine Met.ofW (cc := cX2_everyCock) (maxL := 1) (ret := (some .int)) (by decide) rfl ?_
  intro p e s m args below meth c s₁ B hml hv
  obtain ⟨rfl, hpre⟩ := hv
  obtain ⟨hsz, hH, hK, hN, hA⟩ := kb_start hpre
  subst hsz
  have hx := B.exec
  have hb := B.bytes
  have hr := B.returns
  have hts := atoms_spec (ws := wsX2_everyCock) B.pre
  have hown : s.vm.findClass RX2 = some m.cls := findClass_of_methodNamed B.named
  have hlocks := B.notSynchronized
  generalize hAe : va_A (List.flatten (w_O2 G g V)) s.heap.size = A at hH hA ⊢
  have hl := lv_entry ([.ref (g 0)]) (n := 1) (Nat.le_of_ble_eq_true rfl)
  rw [lg_entry_eq]
  generalize (lg_sl ([.ref (g 0)]) ++ List.replicate (1 - (lg_sl ([.ref (g 0)])).length) Slot.unset).toArray = ls at hl ⊢
  have hl : lv_has ls 1 [(0, .ref (g 0))] := hl
  have hH : HP G A s.heap (w_O2 G g V) s.heap [] := hH
  have hin2 : ∀ w ∈ u_ws RX2 TX2 11, w ∈ wsX2_everyCock := fun w h => List.mem_cons_of_mem _ (List.mem_append_right _ h)
  have hF : (((1 : Int32) <<< ((V.2.1 5) &&& 31)) - (1 : Int32)) = F := hF
  refine lv_iconst (v := 1) hx hb dX2_everyCock_0 (by decide) ?_
  refine lv_aload_n hx hb dX2_everyCock_1 rfl (lv_at hl 0 rfl) ?_
  refine kb_get (v := .int (V.2.1 5)) hx hb hts hin2 hown hK hH 0 rfl rfl rfl 5 (by decide) (hts (.fieldLink RX2 27 "CockWar$Hill" "cocks" "I") (List.mem_of_getElem? (i := 1) rfl)) (fun _ h9 => h9) rfl dX2_everyCock_2 ?_
  refine lv_ishl hx hb dX2_everyCock_5 ?_
  refine lv_iconst (v := 1) hx hb dX2_everyCock_6 (by decide) ?_
  refine lv_isub hx hb dX2_everyCock_7 ?_
  subst hF
  exact kb_iret hx hb hr hH rfl rfl dX2_everyCock_8 hlocks
def f_X2_treeCells_L1 (V : OV) (iL1 : Nat) (s : (Int32)) : (Int32) := (if ((V.1 0) (nI iL1).toNatClampNeg) ≤ 0 then s else (s ||| ((1 : Int32) <<< ((nI iL1) &&& 31))))
def f_X2_treeCells (V : OV) : (Int32) := (kAp (lpu (f_X2_treeCells_L1 V) (cN (nI 10)) 0 (0 : Int32)) (fun z4 => z4))
set_option maxHeartbeats 4000000 in
set_option maxRecDepth 100000 in
theorem c_X2_treeCells (l : Launch) (G : Ge) (g : Nat → Nat) (V : OV) {F : (Int32)} (hF : f_X2_treeCells V = F) : CI l yX2_treeCells wsX2_treeCells { frames := 0, cells := 0, slots := 0, locals := 0 } [.ref (g 0)] G (w_O2 G g V) (w_O2 G g V) F := by
  intro sz
  refine Met.ofW (cc := cX2_treeCells) (maxL := 3) (ret := (some .int)) (by decide) rfl ?_
  intro p e s m args below meth c s₁ B hml hv
  obtain ⟨rfl, hpre⟩ := hv
  obtain ⟨hsz, hH, hK, hN, hA⟩ := kb_start hpre
  subst hsz
  have hx := B.exec
  have hb := B.bytes
  have hr := B.returns
  have hts := atoms_spec (ws := wsX2_treeCells) B.pre
  have hown : s.vm.findClass RX2 = some m.cls := findClass_of_methodNamed B.named
  have hlocks := B.notSynchronized
  generalize hAe : va_A (List.flatten (w_O2 G g V)) s.heap.size = A at hH hA ⊢
  have hl := lv_entry ([.ref (g 0)]) (n := 3) (Nat.le_of_ble_eq_true rfl)
  rw [lg_entry_eq]
  generalize (lg_sl ([.ref (g 0)]) ++ List.replicate (3 - (lg_sl ([.ref (g 0)])).length) Slot.unset).toArray = ls at hl ⊢
  have hl : lv_has ls 3 [(0, .ref (g 0))] := hl
  have hH : HP G A s.heap (w_O2 G g V) s.heap [] := hH
  have hin2 : ∀ w ∈ u_ws RX2 TX2 11, w ∈ wsX2_treeCells := fun w h => List.mem_cons_of_mem _ (List.mem_append_right _ h)
  have hF : (kAp (lpu (f_X2_treeCells_L1 V) (cN (nI 10)) 0 (0 : Int32)) (fun z4 => z4)) = F := hF
  refine lv_iconst (v := 0) hx hb dX2_treeCells_0 (by decide) ?_
  refine lv_istore_n (lv' := [(1, .int (0 : Int32)), (0, .ref (g 0))]) hx hb dX2_treeCells_1 rfl hl (by decide) rfl (fun ls hl => ?_)
  refine lv_iconst (v := 0) hx hb dX2_treeCells_2 (by decide) ?_
  refine lv_istore_n (lv' := [(2, .int (0 : Int32)), (1, .int (0 : Int32)), (0, .ref (g 0))]) hx hb dX2_treeCells_3 rfl hl (by decide) rfl (fun ls hl => ?_)
  obtain ⟨SFL1, hSFL1⟩ : ∃ z, z = (lpu (f_X2_treeCells_L1 V) (cN (nI 10)) 0 (0 : Int32)) := ⟨_, rfl⟩
  have hF := kAp_eq hF hSFL1
  refine kb_cut (fun H locs ls => HP G A s.heap (w_O2 G g V) H locs ∧ lv_has ls 3 [(1, .int SFL1)]) 34 [] (fun EXL1 => ?_) (fun H locs ls hX => ?_)
  · refine kb_loop (σ := (Int32)) (fun n i x => n + i = (cN (nI 10)) ∧ lpu (f_X2_treeCells_L1 V) n i x = SFL1) (fun iL1 x H locs ls => HP G A s.heap (w_O2 G g V) H locs ∧ lv_has ls 3 [(2, .int (nI iL1)), (1, .int x), (0, .ref (g 0))]) (fun iL1 x H locs ls hI hX => ?_) (fun n iL1 x hI ihL1 H locs ls hX => ?_) (cN (nI 10)) 0 (0 : Int32) _ _ _ ⟨Nat.add_zero _, hSFL1.symm⟩ ⟨hH, lv_sub hl [0, 1, 2] rfl⟩
    · obtain ⟨L1a, exL1a⟩ : ∃ z, z = x := ⟨_, rfl⟩
      subst exL1a
      have hH : HP G A s.heap (w_O2 G g V) H locs := hX.1
      have hl : lv_has ls 3 [(2, .int (nI iL1)), (1, .int L1a), (0, .ref (g 0))] := hX.2
      obtain ⟨hiL1, hs⟩ := hI
      have hiL1 : iL1 = (cN (nI 10)) := by omega
      refine lv_iload_n hx hb dX2_treeCells_4 rfl (lv_at hl 0 rfl) ?_
      refine lv_aload_n hx hb dX2_treeCells_5 rfl (lv_at hl 2 rfl) ?_
      refine kb_get (v := .ref (g 1)) hx hb hts hin2 hown hK hH 0 rfl rfl rfl 0 (by decide) (hts (.fieldLink RX2 9 "CockWar$Hill" "trees" "[I") (List.mem_of_getElem? (i := 1) rfl)) (fun _ h9 => h9) rfl dX2_treeCells_6 ?_
      refine kb_alen (v := (nI 10)) hx hb hK hH 1 0 rfl rfl rfl dX2_treeCells_9 ?_
      refine lv_icmp_ge (tgt := 34) hx hb dX2_treeCells_10 (by decide) (fun _ => ?_) (fun c => absurd (cN_end hiL1) c)
      exact EXL1 _ _ _ ⟨by subst hs; exact hH, by subst hs; exact lv_sub hl [1] rfl⟩
    · obtain ⟨L1a, exL1a⟩ : ∃ z, z = x := ⟨_, rfl⟩
      subst exL1a
      have hH : HP G A s.heap (w_O2 G g V) H locs := hX.1
      have hl : lv_has ls 3 [(2, .int (nI iL1)), (1, .int L1a), (0, .ref (g 0))] := hX.2
      obtain ⟨hiL1, hs⟩ := hI
      have hltL1 : iL1 < (cN (nI 10)) := by omega
      obtain ⟨BVL1, hBd⟩ : ∃ z, (f_X2_treeCells_L1 V) iL1 L1a = z := ⟨_, rfl⟩
      have hs : lpu (f_X2_treeCells_L1 V) n (iL1 + 1) BVL1 = SFL1 := by rw [← hBd]; exact hs
      have hBL1 : (if ((V.1 0) (nI iL1).toNatClampNeg) ≤ 0 then L1a else (L1a ||| ((1 : Int32) <<< ((nI iL1) &&& 31)))) = BVL1 := hBd
      refine lv_iload_n hx hb dX2_treeCells_4 rfl (lv_at hl 0 rfl) ?_
      refine lv_aload_n hx hb dX2_treeCells_5 rfl (lv_at hl 2 rfl) ?_
      refine kb_get (v := .ref (g 1)) hx hb hts hin2 hown hK hH 0 rfl rfl rfl 0 (by decide) (hts (.fieldLink RX2 9 "CockWar$Hill" "trees" "[I") (List.mem_of_getElem? (i := 1) rfl)) (fun _ h9 => h9) rfl dX2_treeCells_6 ?_
      refine kb_alen (v := (nI 10)) hx hb hK hH 1 0 rfl rfl rfl dX2_treeCells_9 ?_
      refine lv_icmp_ge (tgt := 34) hx hb dX2_treeCells_10 (by decide) (fun c => absurd c (cN_ge hltL1)) (fun c2 => ?_)
      refine lv_aload_n hx hb dX2_treeCells_13 rfl (lv_at hl 2 rfl) ?_
      refine kb_get (v := .ref (g 1)) hx hb hts hin2 hown hK hH 0 rfl rfl rfl 0 (by decide) (hts (.fieldLink RX2 9 "CockWar$Hill" "trees" "[I") (List.mem_of_getElem? (i := 1) rfl)) (fun _ h9 => h9) rfl dX2_treeCells_14 ?_
      refine lv_iload_n hx hb dX2_treeCells_17 rfl (lv_at hl 0 rfl) ?_
      refine kb_iald hx hb hK hH 1 rfl (kb_vpi (by decide) c2 (Nat.lt_of_lt_of_le hltL1 (Nat.le_of_lt (cN_lt _)))) dX2_treeCells_18 ?_
      refine lv_if_le (tgt := 28) hx hb dX2_treeCells_19 (by decide) (fun c3 => ?_) (fun c3 => ?_)
      · rw [if_pos c3] at hBL1
        refine lv_iinc (v := (nI (iL1 + 1))) (lv' := [(2, .int (nI (iL1 + 1))), (1, .int L1a), (0, .ref (g 0))]) hx hb dX2_treeCells_28 hl (k := 0) rfl (nI_1 _) (by decide) rfl (fun ls hl => ?_)
        refine lv_goto (tgt := 4) hx hb dX2_treeCells_31 (by decide) ?_
        subst hBL1
        exact ihL1 _ _ _ _ ⟨by omega, hs⟩ ⟨hH, lv_sub hl [0, 1, 2] rfl⟩
      · rw [if_neg c3] at hBL1
        refine lv_iload_n hx hb dX2_treeCells_22 rfl (lv_at hl 1 rfl) ?_
        refine lv_iconst (v := 1) hx hb dX2_treeCells_23 (by decide) ?_
        refine lv_iload_n hx hb dX2_treeCells_24 rfl (lv_at hl 0 rfl) ?_
        refine lv_ishl hx hb dX2_treeCells_25 ?_
        refine lv_ior hx hb dX2_treeCells_26 ?_
        refine lv_istore_n (lv' := [(1, .int (L1a ||| ((1 : Int32) <<< ((nI iL1) &&& 31)))), (2, .int (nI iL1)), (0, .ref (g 0))]) hx hb dX2_treeCells_27 rfl hl (by decide) rfl (fun ls hl => ?_)
        refine lv_iinc (v := (nI (iL1 + 1))) (lv' := [(2, .int (nI (iL1 + 1))), (1, .int (L1a ||| ((1 : Int32) <<< ((nI iL1) &&& 31)))), (0, .ref (g 0))]) hx hb dX2_treeCells_28 hl (k := 1) rfl (nI_1 _) (by decide) rfl (fun ls hl => ?_)
        refine lv_goto (tgt := 4) hx hb dX2_treeCells_31 (by decide) ?_
        subst hBL1
        exact ihL1 _ _ _ _ ⟨by omega, hs⟩ ⟨hH, lv_sub hl [0, 1, 2] rfl⟩
  · obtain ⟨hH, hl⟩ := hX
    refine lv_iload_n hx hb dX2_treeCells_34 rfl (lv_at hl 0 rfl) ?_
    subst hF
    exact kb_iret hx hb hr hH rfl rfl dX2_treeCells_35 hlocks
def f_X2_takenCells_L1 (V : OV) (iL1 : Nat) (s : (Int32)) : (Int32) := (s ||| ((1 : Int32) <<< ((f_X7_at 6 (V.1 1) (nI iL1)) &&& 31)))
def f_X2_takenCells (V : OV) : (Int32) := (kAp (lpu (f_X2_takenCells_L1 V) (cN (V.2.1 5)) 0 (0 : Int32)) (fun z3 => z3))
set_option maxHeartbeats 4000000 in
set_option maxRecDepth 100000 in
theorem c_X2_takenCells (l : Launch) (G : Ge) (g : Nat → Nat) (V : OV) {F : (Int32)} (hF : f_X2_takenCells V = F) : CI l yX2_takenCells wsX2_takenCells { frames := 1, cells := 0, slots := 0, locals := 21 } [.ref (g 0)] G (w_O2 G g V) (w_O2 G g V) F := by
  intro sz
  refine Met.ofW (cc := cX2_takenCells) (maxL := 3) (ret := (some .int)) (by decide) rfl ?_
  intro p e s m args below meth c s₁ B hml hv
  obtain ⟨rfl, hpre⟩ := hv
  obtain ⟨hsz, hH, hK, hN, hA⟩ := kb_start hpre
  subst hsz
  have hx := B.exec
  have hb := B.bytes
  have hr := B.returns
  have hts := atoms_spec (ws := wsX2_takenCells) B.pre
  have hown : s.vm.findClass RX2 = some m.cls := findClass_of_methodNamed B.named
  have hlocks := B.notSynchronized
  generalize hAe : va_A (List.flatten (w_O2 G g V)) s.heap.size = A at hH hA ⊢
  have hl := lv_entry ([.ref (g 0)]) (n := 3) (Nat.le_of_ble_eq_true rfl)
  rw [lg_entry_eq]
  generalize (lg_sl ([.ref (g 0)]) ++ List.replicate (3 - (lg_sl ([.ref (g 0)])).length) Slot.unset).toArray = ls at hl ⊢
  have hl : lv_has ls 3 [(0, .ref (g 0))] := hl
  have hH : HP G A s.heap (w_O2 G g V) s.heap [] := hH
  have hin2 : ∀ w ∈ u_ws RX2 TX2 11, w ∈ wsX2_takenCells := fun w h => List.mem_cons_of_mem _ (List.mem_append_right _ h)
  have hF : (kAp (lpu (f_X2_takenCells_L1 V) (cN (V.2.1 5)) 0 (0 : Int32)) (fun z3 => z3)) = F := hF
  refine lv_iconst (v := 0) hx hb dX2_takenCells_0 (by decide) ?_
  refine lv_istore_n (lv' := [(1, .int (0 : Int32)), (0, .ref (g 0))]) hx hb dX2_takenCells_1 rfl hl (by decide) rfl (fun ls hl => ?_)
  refine lv_iconst (v := 0) hx hb dX2_takenCells_2 (by decide) ?_
  refine lv_istore_n (lv' := [(2, .int (0 : Int32)), (1, .int (0 : Int32)), (0, .ref (g 0))]) hx hb dX2_takenCells_3 rfl hl (by decide) rfl (fun ls hl => ?_)
  obtain ⟨SFL1, hSFL1⟩ : ∃ z, z = (lpu (f_X2_takenCells_L1 V) (cN (V.2.1 5)) 0 (0 : Int32)) := ⟨_, rfl⟩
  have hF := kAp_eq hF hSFL1
  refine kb_cut (fun H locs ls => HP G A s.heap (w_O2 G g V) H locs ∧ lv_has ls 3 [(1, .int SFL1)]) 31 [] (fun EXL1 => ?_) (fun H locs ls hX => ?_)
  · refine kb_loop (σ := (Int32)) (fun n i x => n + i = (cN (V.2.1 5)) ∧ lpu (f_X2_takenCells_L1 V) n i x = SFL1) (fun iL1 x H locs ls => HP G A s.heap (w_O2 G g V) H locs ∧ lv_has ls 3 [(2, .int (nI iL1)), (1, .int x), (0, .ref (g 0))]) (fun iL1 x H locs ls hI hX => ?_) (fun n iL1 x hI ihL1 H locs ls hX => ?_) (cN (V.2.1 5)) 0 (0 : Int32) _ _ _ ⟨Nat.add_zero _, hSFL1.symm⟩ ⟨hH, lv_sub hl [0, 1, 2] rfl⟩
    · obtain ⟨L1a, exL1a⟩ : ∃ z, z = x := ⟨_, rfl⟩
      subst exL1a
      have hH : HP G A s.heap (w_O2 G g V) H locs := hX.1
      have hl : lv_has ls 3 [(2, .int (nI iL1)), (1, .int L1a), (0, .ref (g 0))] := hX.2
      obtain ⟨hiL1, hs⟩ := hI
      have hiL1 : iL1 = (cN (V.2.1 5)) := by omega
      refine lv_iload_n hx hb dX2_takenCells_4 rfl (lv_at hl 0 rfl) ?_
      refine lv_aload_n hx hb dX2_takenCells_5 rfl (lv_at hl 2 rfl) ?_
      refine kb_get (v := .int (V.2.1 5)) hx hb hts hin2 hown hK hH 0 rfl rfl rfl 5 (by decide) (hts (.fieldLink RX2 27 "CockWar$Hill" "cocks" "I") (List.mem_of_getElem? (i := 1) rfl)) (fun _ h9 => h9) rfl dX2_takenCells_6 ?_
      refine lv_icmp_ge (tgt := 31) hx hb dX2_takenCells_9 (by decide) (fun _ => ?_) (fun c => absurd (cN_end hiL1) c)
      exact EXL1 _ _ _ ⟨by subst hs; exact hH, by subst hs; exact lv_sub hl [1] rfl⟩
    · obtain ⟨L1a, exL1a⟩ : ∃ z, z = x := ⟨_, rfl⟩
      subst exL1a
      have hH : HP G A s.heap (w_O2 G g V) H locs := hX.1
      have hl : lv_has ls 3 [(2, .int (nI iL1)), (1, .int L1a), (0, .ref (g 0))] := hX.2
      obtain ⟨hiL1, hs⟩ := hI
      have hltL1 : iL1 < (cN (V.2.1 5)) := by omega
      obtain ⟨BVL1, hBd⟩ : ∃ z, (f_X2_takenCells_L1 V) iL1 L1a = z := ⟨_, rfl⟩
      have hs : lpu (f_X2_takenCells_L1 V) n (iL1 + 1) BVL1 = SFL1 := by rw [← hBd]; exact hs
      have hBL1 : (L1a ||| ((1 : Int32) <<< ((f_X7_at 6 (V.1 1) (nI iL1)) &&& 31))) = BVL1 := hBd
      refine lv_iload_n hx hb dX2_takenCells_4 rfl (lv_at hl 0 rfl) ?_
      refine lv_aload_n hx hb dX2_takenCells_5 rfl (lv_at hl 2 rfl) ?_
      refine kb_get (v := .int (V.2.1 5)) hx hb hts hin2 hown hK hH 0 rfl rfl rfl 5 (by decide) (hts (.fieldLink RX2 27 "CockWar$Hill" "cocks" "I") (List.mem_of_getElem? (i := 1) rfl)) (fun _ h9 => h9) rfl dX2_takenCells_6 ?_
      refine lv_icmp_ge (tgt := 31) hx hb dX2_takenCells_9 (by decide) (fun c => absurd c (cN_ge hltL1)) (fun c2 => ?_)
      refine lv_iload_n hx hb dX2_takenCells_12 rfl (lv_at hl 1 rfl) ?_
      refine lv_iconst (v := 1) hx hb dX2_takenCells_13 (by decide) ?_
      refine lv_aload_n hx hb dX2_takenCells_14 rfl (lv_at hl 2 rfl) ?_
      refine kb_get (v := .ref (g 2)) hx hb hts hin2 hown hK hH 0 rfl rfl rfl 1 (by decide) (hts (.fieldLink RX2 15 "CockWar$Hill" "cells" "[I") (List.mem_of_getElem? (i := 2) rfl)) (fun _ h9 => h9) rfl dX2_takenCells_15 ?_
      refine lv_iload_n hx hb dX2_takenCells_18 rfl (lv_at hl 0 rfl) ?_
      refine kb_ci hH hA [2] (Wc := ([b_arr G (g 2) 6 (V.1 1)])) (Wc' := ([b_arr G (g 2) 6 (V.1 1)])) (WS' := (w_O2 G g V)) rfl (by decide) rfl rfl (va_runSN (As := [.ref (g 2), .int (nI iL1)]) (rest := [.int (1 : Int32), .int L1a]) ⟨hx, hb, hml, hown, hts⟩ (c_X7_at l G (g 2) 6 (V.1 1) (nI iL1) (by decide) rfl _) ⟨va_cnB 2 hts gX2_takenCells_X7_at_n54 rfl rfl rfl (kb_NM hN 20 rfl) (hts (.initialized RX7) (List.mem_of_getElem? (i := 4) rfl)) hd_X7_at ⟨Nat.le_of_ble_eq_true rfl, Nat.le_of_ble_eq_true rfl⟩, (hts (.static yX7_at) (List.mem_of_getElem? (i := 3) rfl)), trivial⟩ (kb_preS hH hK hN [2] rfl (by decide)) rfl rfl hl.1 rfl (lv_room (Nat.le_of_ble_eq_true rfl)) dX2_takenCells_19 ⟨Nat.le_of_ble_eq_true rfl, Nat.le_of_ble_eq_true rfl⟩) (fun H locs hH => ?_)
      refine lv_ishl hx hb dX2_takenCells_22 ?_
      refine lv_ior hx hb dX2_takenCells_23 ?_
      refine lv_istore_n (lv' := [(1, .int (L1a ||| ((1 : Int32) <<< ((f_X7_at 6 (V.1 1) (nI iL1)) &&& 31)))), (2, .int (nI iL1)), (0, .ref (g 0))]) hx hb dX2_takenCells_24 rfl hl (by decide) rfl (fun ls hl => ?_)
      refine lv_iinc (v := (nI (iL1 + 1))) (lv' := [(2, .int (nI (iL1 + 1))), (1, .int (L1a ||| ((1 : Int32) <<< ((f_X7_at 6 (V.1 1) (nI iL1)) &&& 31)))), (0, .ref (g 0))]) hx hb dX2_takenCells_25 hl (k := 1) rfl (nI_1 _) (by decide) rfl (fun ls hl => ?_)
      refine lv_goto (tgt := 4) hx hb dX2_takenCells_28 (by decide) ?_
      subst hBL1
      exact ihL1 _ _ _ _ ⟨by omega, hs⟩ ⟨hH, lv_sub hl [0, 1, 2] rfl⟩
  · obtain ⟨hH, hl⟩ := hX
    refine lv_iload_n hx hb dX2_takenCells_31 rfl (lv_at hl 0 rfl) ?_
    subst hF
    exact kb_iret hx hb hr hH rfl rfl dX2_takenCells_32 hlocks
def f_X2_clear_L1 (iL1 : Nat) (s : (OV)) : (OV) := (oA s 0 (upd (s.1 0) (nI iL1).toNatClampNeg (0 : Int32)))
def f_X2_clear (V : OV) : (OV) := (kAp (lpu (f_X2_clear_L1) (cN (nI 10)) 0 V) (fun z3 => (oI (oI (oI (oI (oI (oI z3 5 (0 : Int32)) 6 (0 : Int32)) 7 (0 : Int32)) 8 (0 : Int32)) 9 (0 : Int32)) 10 (0 : Int32))))
set_option maxHeartbeats 4000000 in
set_option maxRecDepth 100000 in
theorem c_X2_clear (l : Launch) (G : Ge) (g : Nat → Nat) (V : OV) {F : (OV)} (hF : f_X2_clear V = F) : CV l yX2_clear wsX2_clear { frames := 0, cells := 0, slots := 0, locals := 0 } [.ref (g 0)] G (w_O2 G g V) (w_O2 G g F) := by
  intro sz
  refine Met.ofW (cc := cX2_clear) (maxL := 2) (ret := none) (by decide) rfl ?_
  intro p e s m args below meth c s₁ B hml hv
  obtain ⟨rfl, hpre⟩ := hv
  obtain ⟨hsz, hH, hK, hN, hA⟩ := kb_start hpre
  subst hsz
  have hx := B.exec
  have hb := B.bytes
  have hr := B.returns
  have hts := atoms_spec (ws := wsX2_clear) B.pre
  have hown : s.vm.findClass RX2 = some m.cls := findClass_of_methodNamed B.named
  have hlocks := B.notSynchronized
  generalize hAe : va_A (List.flatten (w_O2 G g V)) s.heap.size = A at hH hA ⊢
  have hl := lv_entry ([.ref (g 0)]) (n := 2) (Nat.le_of_ble_eq_true rfl)
  rw [lg_entry_eq]
  generalize (lg_sl ([.ref (g 0)]) ++ List.replicate (2 - (lg_sl ([.ref (g 0)])).length) Slot.unset).toArray = ls at hl ⊢
  have hl : lv_has ls 2 [(0, .ref (g 0))] := hl
  have hH : HP G A s.heap (w_O2 G g V) s.heap [] := hH
  have hin2 : ∀ w ∈ u_ws RX2 TX2 11, w ∈ wsX2_clear := fun w h => List.mem_cons_of_mem _ (List.mem_append_right _ h)
  have hF : (kAp (lpu (f_X2_clear_L1) (cN (nI 10)) 0 V) (fun z3 => (oI (oI (oI (oI (oI (oI z3 5 (0 : Int32)) 6 (0 : Int32)) 7 (0 : Int32)) 8 (0 : Int32)) 9 (0 : Int32)) 10 (0 : Int32)))) = F := hF
  refine lv_iconst (v := 0) hx hb dX2_clear_0 (by decide) ?_
  refine lv_istore_n (lv' := [(1, .int (0 : Int32)), (0, .ref (g 0))]) hx hb dX2_clear_1 rfl hl (by decide) rfl (fun ls hl => ?_)
  obtain ⟨SFL1, hSFL1⟩ : ∃ z, z = (lpu (f_X2_clear_L1) (cN (nI 10)) 0 V) := ⟨_, rfl⟩
  have hF := kAp_eq hF hSFL1
  refine kb_cut (fun H locs ls => HP G A s.heap (w_O2 G g SFL1) H locs ∧ lv_has ls 2 [(0, .ref (g 0))]) 24 [] (fun EXL1 => ?_) (fun H locs ls hX => ?_)
  · refine kb_loop (σ := (OV)) (fun n i x => n + i = (cN (nI 10)) ∧ lpu (f_X2_clear_L1) n i x = SFL1) (fun iL1 x H locs ls => HP G A s.heap (w_O2 G g x) H locs ∧ lv_has ls 2 [(1, .int (nI iL1)), (0, .ref (g 0))]) (fun iL1 x H locs ls hI hX => ?_) (fun n iL1 x hI ihL1 H locs ls hX => ?_) (cN (nI 10)) 0 V _ _ _ ⟨Nat.add_zero _, hSFL1.symm⟩ ⟨hH, lv_sub hl [0, 1] rfl⟩
    · obtain ⟨L1a, exL1a⟩ : ∃ z, z = x := ⟨_, rfl⟩
      subst exL1a
      have hH : HP G A s.heap (w_O2 G g L1a) H locs := hX.1
      have hl : lv_has ls 2 [(1, .int (nI iL1)), (0, .ref (g 0))] := hX.2
      obtain ⟨hiL1, hs⟩ := hI
      have hiL1 : iL1 = (cN (nI 10)) := by omega
      refine lv_iload_n hx hb dX2_clear_2 rfl (lv_at hl 0 rfl) ?_
      refine lv_aload_n hx hb dX2_clear_3 rfl (lv_at hl 1 rfl) ?_
      refine kb_get (v := .ref (g 1)) hx hb hts hin2 hown hK hH 0 rfl rfl rfl 0 (by decide) (hts (.fieldLink RX2 9 "CockWar$Hill" "trees" "[I") (List.mem_of_getElem? (i := 1) rfl)) (fun _ h9 => h9) rfl dX2_clear_4 ?_
      refine kb_alen (v := (nI 10)) hx hb hK hH 1 0 rfl rfl rfl dX2_clear_7 ?_
      refine lv_icmp_ge (tgt := 24) hx hb dX2_clear_8 (by decide) (fun _ => ?_) (fun c => absurd (cN_end hiL1) c)
      exact EXL1 _ _ _ ⟨by subst hs; exact hH, by subst hs; exact lv_sub hl [1] rfl⟩
    · obtain ⟨L1a, exL1a⟩ : ∃ z, z = x := ⟨_, rfl⟩
      subst exL1a
      have hH : HP G A s.heap (w_O2 G g L1a) H locs := hX.1
      have hl : lv_has ls 2 [(1, .int (nI iL1)), (0, .ref (g 0))] := hX.2
      obtain ⟨hiL1, hs⟩ := hI
      have hltL1 : iL1 < (cN (nI 10)) := by omega
      obtain ⟨BVL1, hBd⟩ : ∃ z, (f_X2_clear_L1) iL1 L1a = z := ⟨_, rfl⟩
      have hs : lpu (f_X2_clear_L1) n (iL1 + 1) BVL1 = SFL1 := by rw [← hBd]; exact hs
      have hBL1 : (oA L1a 0 (upd (L1a.1 0) (nI iL1).toNatClampNeg (0 : Int32))) = BVL1 := hBd
      refine lv_iload_n hx hb dX2_clear_2 rfl (lv_at hl 0 rfl) ?_
      refine lv_aload_n hx hb dX2_clear_3 rfl (lv_at hl 1 rfl) ?_
      refine kb_get (v := .ref (g 1)) hx hb hts hin2 hown hK hH 0 rfl rfl rfl 0 (by decide) (hts (.fieldLink RX2 9 "CockWar$Hill" "trees" "[I") (List.mem_of_getElem? (i := 1) rfl)) (fun _ h9 => h9) rfl dX2_clear_4 ?_
      refine kb_alen (v := (nI 10)) hx hb hK hH 1 0 rfl rfl rfl dX2_clear_7 ?_
      refine lv_icmp_ge (tgt := 24) hx hb dX2_clear_8 (by decide) (fun c => absurd c (cN_ge hltL1)) (fun c2 => ?_)
      refine lv_aload_n hx hb dX2_clear_11 rfl (lv_at hl 1 rfl) ?_
      refine kb_get (v := .ref (g 1)) hx hb hts hin2 hown hK hH 0 rfl rfl rfl 0 (by decide) (hts (.fieldLink RX2 9 "CockWar$Hill" "trees" "[I") (List.mem_of_getElem? (i := 1) rfl)) (fun _ h9 => h9) rfl dX2_clear_12 ?_
      refine lv_iload_n hx hb dX2_clear_15 rfl (lv_at hl 0 rfl) ?_
      refine lv_iconst (v := 0) hx hb dX2_clear_16 (by decide) ?_
      refine kb_iast (WS' := (w_O2 G g (oA L1a 0 (upd (L1a.1 0) (nI iL1).toNatClampNeg (0 : Int32))))) hx hb hK hH 1 rfl (kb_vpi (by decide) c2 (Nat.lt_of_lt_of_le hltL1 (Nat.le_of_lt (cN_lt _)))) rfl dX2_clear_17 (fun H locs hH => ?_)
      refine lv_iinc (v := (nI (iL1 + 1))) (lv' := [(1, .int (nI (iL1 + 1))), (0, .ref (g 0))]) hx hb dX2_clear_18 hl (k := 0) rfl (nI_1 _) (by decide) rfl (fun ls hl => ?_)
      refine lv_goto (tgt := 2) hx hb dX2_clear_21 (by decide) ?_
      subst hBL1
      exact ihL1 _ _ _ _ ⟨by omega, hs⟩ ⟨hH, lv_sub hl [0, 1] rfl⟩
  · obtain ⟨hH, hl⟩ := hX
    refine lv_aload_n hx hb dX2_clear_24 rfl (lv_at hl 0 rfl) ?_
    refine lv_iconst (v := 0) hx hb dX2_clear_25 (by decide) ?_
    refine kb_put (ty := .int) (v := .int (0 : Int32)) (WS' := (w_O2 G g (oI SFL1 5 (0 : Int32)))) hx hb hts hin2 tyX2 tyX2_ok nmX2 hown hK hH 0 rfl rfl 5 (by decide) (hts (.fieldLink RX2 27 "CockWar$Hill" "cocks" "I") (List.mem_of_getElem? (i := 2) rfl)) (fun _ h9 => h9) rfl (by decide +kernel) rfl rfl (Nat.le_of_ble_eq_true rfl) rfl dX2_clear_26 (fun H locs hH => ?_)
    refine lv_aload_n hx hb dX2_clear_29 rfl (lv_at hl 0 rfl) ?_
    refine lv_iconst (v := 0) hx hb dX2_clear_30 (by decide) ?_
    refine kb_put (ty := .int) (v := .int (0 : Int32)) (WS' := (w_O2 G g (oI (oI SFL1 5 (0 : Int32)) 6 (0 : Int32)))) hx hb hts hin2 tyX2 tyX2_ok nmX2 hown hK hH 0 rfl rfl 6 (by decide) (hts (.fieldLink RX2 31 "CockWar$Hill" "parishes" "I") (List.mem_of_getElem? (i := 3) rfl)) (fun _ h9 => h9) rfl (by decide +kernel) rfl rfl (Nat.le_of_ble_eq_true rfl) rfl dX2_clear_31 (fun H locs hH => ?_)
    refine lv_aload_n hx hb dX2_clear_34 rfl (lv_at hl 0 rfl) ?_
    refine lv_iconst (v := 0) hx hb dX2_clear_35 (by decide) ?_
    refine kb_put (ty := .int) (v := .int (0 : Int32)) (WS' := (w_O2 G g (oI (oI (oI SFL1 5 (0 : Int32)) 6 (0 : Int32)) 7 (0 : Int32)))) hx hb hts hin2 tyX2 tyX2_ok nmX2 hown hK hH 0 rfl rfl 7 (by decide) (hts (.fieldLink RX2 34 "CockWar$Hill" "ways" "I") (List.mem_of_getElem? (i := 4) rfl)) (fun _ h9 => h9) rfl (by decide +kernel) rfl rfl (Nat.le_of_ble_eq_true rfl) rfl dX2_clear_36 (fun H locs hH => ?_)
    refine lv_aload_n hx hb dX2_clear_39 rfl (lv_at hl 0 rfl) ?_
    refine lv_iconst (v := 0) hx hb dX2_clear_40 (by decide) ?_
    refine kb_put (ty := .int) (v := .int (0 : Int32)) (WS' := (w_O2 G g (oI (oI (oI (oI SFL1 5 (0 : Int32)) 6 (0 : Int32)) 7 (0 : Int32)) 8 (0 : Int32)))) hx hb hts hin2 tyX2 tyX2_ok nmX2 hown hK hH 0 rfl rfl 8 (by decide) (hts (.fieldLink RX2 37 "CockWar$Hill" "held" "I") (List.mem_of_getElem? (i := 5) rfl)) (fun _ h9 => h9) rfl (by decide +kernel) rfl rfl (Nat.le_of_ble_eq_true rfl) rfl dX2_clear_41 (fun H locs hH => ?_)
    refine lv_aload_n hx hb dX2_clear_44 rfl (lv_at hl 0 rfl) ?_
    refine lv_iconst (v := 0) hx hb dX2_clear_45 (by decide) ?_
    refine kb_put (ty := .int) (v := .int (0 : Int32)) (WS' := (w_O2 G g (oI (oI (oI (oI (oI SFL1 5 (0 : Int32)) 6 (0 : Int32)) 7 (0 : Int32)) 8 (0 : Int32)) 9 (0 : Int32)))) hx hb hts hin2 tyX2 tyX2_ok nmX2 hown hK hH 0 rfl rfl 9 (by decide) (hts (.fieldLink RX2 40 "CockWar$Hill" "brook" "I") (List.mem_of_getElem? (i := 6) rfl)) (fun _ h9 => h9) rfl (by decide +kernel) rfl rfl (Nat.le_of_ble_eq_true rfl) rfl dX2_clear_46 (fun H locs hH => ?_)
    refine lv_aload_n hx hb dX2_clear_49 rfl (lv_at hl 0 rfl) ?_
    refine lv_iconst (v := 0) hx hb dX2_clear_50 (by decide) ?_
    refine kb_put (ty := .int) (v := .int (0 : Int32)) (WS' := (w_O2 G g (oI (oI (oI (oI (oI (oI SFL1 5 (0 : Int32)) 6 (0 : Int32)) 7 (0 : Int32)) 8 (0 : Int32)) 9 (0 : Int32)) 10 (0 : Int32)))) hx hb hts hin2 tyX2 tyX2_ok nmX2 hown hK hH 0 rfl rfl 10 (by decide) (hts (.fieldLink RX2 43 "CockWar$Hill" "days" "I") (List.mem_of_getElem? (i := 7) rfl)) (fun _ h9 => h9) rfl (by decide +kernel) rfl rfl (Nat.le_of_ble_eq_true rfl) rfl dX2_clear_51 (fun H locs hH => ?_)
    subst hF
    exact kb_vret hx hb hr hH rfl dX2_clear_54 hlocks
def f_X2_addCock (V : OV) (x0 : Int32) (x1 : Int32) (x2 : Int32) (x3 : Int32) (x4 : Int32) (x5 : Int32) : (OV) := (kAp (f_X7_put 6 (V.1 1) (V.2.1 5) x0) (fun q1 => (kAp (f_X7_put 6 (V.1 2) (V.2.1 5) x2) (fun q2 => (kAp (f_X7_put 6 (V.1 3) (V.2.1 5) x3) (fun q3 => (kAp (f_X7_put 6 (V.1 4) (V.2.1 5) x4) (fun q4 => (oI (oI (oI (oA (oA (oA (oA V 1 q1) 2 q2) 3 q3) 4 q4) 5 ((V.2.1 5) + (1 : Int32))) 6 ((V.2.1 6) ||| (x1 <<< ((V.2.1 5) &&& 31)))) 7 ((V.2.1 7) ||| (x5 <<< ((V.2.1 5) &&& 31))))))))))))
set_option maxHeartbeats 4000000 in
set_option maxRecDepth 100000 in
theorem c_X2_addCock (l : Launch) (G : Ge) (g : Nat → Nat) (V : OV) (x0 : Int32) (x1 : Int32) (x2 : Int32) (x3 : Int32) (x4 : Int32) (x5 : Int32) {F : (OV)} (hF : f_X2_addCock V x0 x1 x2 x3 x4 x5 = F) : CV l yX2_addCock wsX2_addCock { frames := 1, cells := 0, slots := 0, locals := 22 } [.ref (g 0), .int x0, .int x1, .int x2, .int x3, .int x4, .int x5] G (w_O2 G g V) (w_O2 G g F) := by
  intro sz
  refine Met.ofW (cc := cX2_addCock) (maxL := 7) (ret := none) (by decide) rfl ?_
  intro p e s m args below meth c s₁ B hml hv
  obtain ⟨rfl, hpre⟩ := hv
  obtain ⟨hsz, hH, hK, hN, hA⟩ := kb_start hpre
  subst hsz
  have hx := B.exec
  have hb := B.bytes
  have hr := B.returns
  have hts := atoms_spec (ws := wsX2_addCock) B.pre
  have hown : s.vm.findClass RX2 = some m.cls := findClass_of_methodNamed B.named
  have hlocks := B.notSynchronized
  generalize hAe : va_A (List.flatten (w_O2 G g V)) s.heap.size = A at hH hA ⊢
  have hl := lv_entry ([.ref (g 0), .int x0, .int x1, .int x2, .int x3, .int x4, .int x5]) (n := 7) (Nat.le_of_ble_eq_true rfl)
  rw [lg_entry_eq]
  generalize (lg_sl ([.ref (g 0), .int x0, .int x1, .int x2, .int x3, .int x4, .int x5]) ++ List.replicate (7 - (lg_sl ([.ref (g 0), .int x0, .int x1, .int x2, .int x3, .int x4, .int x5])).length) Slot.unset).toArray = ls at hl ⊢
  have hl : lv_has ls 7 [(0, .ref (g 0)), (1, .int x0), (2, .int x1), (3, .int x2), (4, .int x3), (5, .int x4), (6, .int x5)] := hl
  have hH : HP G A s.heap (w_O2 G g V) s.heap [] := hH
  have hin2 : ∀ w ∈ u_ws RX2 TX2 11, w ∈ wsX2_addCock := fun w h => List.mem_cons_of_mem _ (List.mem_append_right _ h)
  have hF : (kAp (f_X7_put 6 (V.1 1) (V.2.1 5) x0) (fun q1 => (kAp (f_X7_put 6 (V.1 2) (V.2.1 5) x2) (fun q2 => (kAp (f_X7_put 6 (V.1 3) (V.2.1 5) x3) (fun q3 => (kAp (f_X7_put 6 (V.1 4) (V.2.1 5) x4) (fun q4 => (oI (oI (oI (oA (oA (oA (oA V 1 q1) 2 q2) 3 q3) 4 q4) 5 ((V.2.1 5) + (1 : Int32))) 6 ((V.2.1 6) ||| (x1 <<< ((V.2.1 5) &&& 31)))) 7 ((V.2.1 7) ||| (x5 <<< ((V.2.1 5) &&& 31)))))))))))) = F := hF
  refine lv_aload_n hx hb dX2_addCock_0 rfl (lv_at hl 0 rfl) ?_
  refine kb_get (v := .ref (g 2)) hx hb hts hin2 hown hK hH 0 rfl rfl rfl 1 (by decide) (hts (.fieldLink RX2 15 "CockWar$Hill" "cells" "[I") (List.mem_of_getElem? (i := 1) rfl)) (fun _ h9 => h9) rfl dX2_addCock_1 ?_
  refine lv_aload_n hx hb dX2_addCock_4 rfl (lv_at hl 0 rfl) ?_
  refine kb_get (v := .int (V.2.1 5)) hx hb hts hin2 hown hK hH 0 rfl rfl rfl 5 (by decide) (hts (.fieldLink RX2 27 "CockWar$Hill" "cocks" "I") (List.mem_of_getElem? (i := 2) rfl)) (fun _ h9 => h9) rfl dX2_addCock_5 ?_
  refine lv_iload_n hx hb dX2_addCock_8 rfl (lv_at hl 1 rfl) ?_
  obtain ⟨q1, hq1⟩ : ∃ z, z = (f_X7_put 6 (V.1 1) (V.2.1 5) x0) := ⟨_, rfl⟩
  have hF := kAp_eq hF hq1
  refine kb_cv hH hA [2] (Wc := ([b_arr G (g 2) 6 (V.1 1)])) (Wc' := ([b_arr G (g 2) 6 q1])) (WS' := (w_O2 G g (oA V 1 q1))) rfl (by decide) rfl rfl (va_runSN (As := [.ref (g 2), .int (V.2.1 5), .int x0]) (rest := []) ⟨hx, hb, hml, hown, hts⟩ (c_X7_put l G (g 2) 6 (V.1 1) (V.2.1 5) x0 (by decide) hq1.symm _) ⟨va_cnB 3 hts gX2_addCock_X7_put_n50 rfl rfl rfl (kb_NM hN 22 rfl) (hts (.initialized RX7) (List.mem_of_getElem? (i := 9) rfl)) hd_X7_put ⟨Nat.le_of_ble_eq_true rfl, Nat.le_of_ble_eq_true rfl⟩, (hts (.static yX7_put) (List.mem_of_getElem? (i := 8) rfl)), trivial⟩ (kb_preS hH hK hN [2] rfl (by decide)) rfl rfl hl.1 rfl (lv_room (Nat.le_of_ble_eq_true rfl)) dX2_addCock_9 ⟨Nat.le_of_ble_eq_true rfl, Nat.le_of_ble_eq_true rfl⟩) (fun H locs hH => ?_)
  refine lv_aload_n hx hb dX2_addCock_12 rfl (lv_at hl 0 rfl) ?_
  refine kb_get (v := .ref (g 3)) hx hb hts hin2 hown hK hH 0 rfl rfl rfl 2 (by decide) (hts (.fieldLink RX2 18 "CockWar$Hill" "heights" "[I") (List.mem_of_getElem? (i := 3) rfl)) (fun _ h9 => h9) rfl dX2_addCock_13 ?_
  refine lv_aload_n hx hb dX2_addCock_16 rfl (lv_at hl 0 rfl) ?_
  refine kb_get (v := .int (V.2.1 5)) hx hb hts hin2 hown hK hH 0 rfl rfl rfl 5 (by decide) (hts (.fieldLink RX2 27 "CockWar$Hill" "cocks" "I") (List.mem_of_getElem? (i := 2) rfl)) (fun _ h9 => h9) rfl dX2_addCock_17 ?_
  refine lv_iload_n hx hb dX2_addCock_20 rfl (lv_at hl 3 rfl) ?_
  obtain ⟨q2, hq2⟩ : ∃ z, z = (f_X7_put 6 (V.1 2) (V.2.1 5) x2) := ⟨_, rfl⟩
  have hF := kAp_eq hF hq2
  refine kb_cv hH hA [3] (Wc := ([b_arr G (g 3) 6 (V.1 2)])) (Wc' := ([b_arr G (g 3) 6 q2])) (WS' := (w_O2 G g (oA (oA V 1 q1) 2 q2))) rfl (by decide) rfl rfl (va_runSN (As := [.ref (g 3), .int (V.2.1 5), .int x2]) (rest := []) ⟨hx, hb, hml, hown, hts⟩ (c_X7_put l G (g 3) 6 (V.1 2) (V.2.1 5) x2 (by decide) hq2.symm _) ⟨va_cnB 3 hts gX2_addCock_X7_put_n50 rfl rfl rfl (kb_NM hN 22 rfl) (hts (.initialized RX7) (List.mem_of_getElem? (i := 9) rfl)) hd_X7_put ⟨Nat.le_of_ble_eq_true rfl, Nat.le_of_ble_eq_true rfl⟩, (hts (.static yX7_put) (List.mem_of_getElem? (i := 8) rfl)), trivial⟩ (kb_preS hH hK hN [3] rfl (by decide)) rfl rfl hl.1 rfl (lv_room (Nat.le_of_ble_eq_true rfl)) dX2_addCock_21 ⟨Nat.le_of_ble_eq_true rfl, Nat.le_of_ble_eq_true rfl⟩) (fun H locs hH => ?_)
  refine lv_aload_n hx hb dX2_addCock_24 rfl (lv_at hl 0 rfl) ?_
  refine kb_get (v := .ref (g 4)) hx hb hts hin2 hown hK hH 0 rfl rfl rfl 3 (by decide) (hts (.fieldLink RX2 21 "CockWar$Hill" "rusts" "[I") (List.mem_of_getElem? (i := 4) rfl)) (fun _ h9 => h9) rfl dX2_addCock_25 ?_
  refine lv_aload_n hx hb dX2_addCock_28 rfl (lv_at hl 0 rfl) ?_
  refine kb_get (v := .int (V.2.1 5)) hx hb hts hin2 hown hK hH 0 rfl rfl rfl 5 (by decide) (hts (.fieldLink RX2 27 "CockWar$Hill" "cocks" "I") (List.mem_of_getElem? (i := 2) rfl)) (fun _ h9 => h9) rfl dX2_addCock_29 ?_
  refine lv_iload hx hb dX2_addCock_32 (lv_at hl 4 rfl) ?_
  obtain ⟨q3, hq3⟩ : ∃ z, z = (f_X7_put 6 (V.1 3) (V.2.1 5) x3) := ⟨_, rfl⟩
  have hF := kAp_eq hF hq3
  refine kb_cv hH hA [4] (Wc := ([b_arr G (g 4) 6 (V.1 3)])) (Wc' := ([b_arr G (g 4) 6 q3])) (WS' := (w_O2 G g (oA (oA (oA V 1 q1) 2 q2) 3 q3))) rfl (by decide) rfl rfl (va_runSN (As := [.ref (g 4), .int (V.2.1 5), .int x3]) (rest := []) ⟨hx, hb, hml, hown, hts⟩ (c_X7_put l G (g 4) 6 (V.1 3) (V.2.1 5) x3 (by decide) hq3.symm _) ⟨va_cnB 3 hts gX2_addCock_X7_put_n50 rfl rfl rfl (kb_NM hN 22 rfl) (hts (.initialized RX7) (List.mem_of_getElem? (i := 9) rfl)) hd_X7_put ⟨Nat.le_of_ble_eq_true rfl, Nat.le_of_ble_eq_true rfl⟩, (hts (.static yX7_put) (List.mem_of_getElem? (i := 8) rfl)), trivial⟩ (kb_preS hH hK hN [4] rfl (by decide)) rfl rfl hl.1 rfl (lv_room (Nat.le_of_ble_eq_true rfl)) dX2_addCock_34 ⟨Nat.le_of_ble_eq_true rfl, Nat.le_of_ble_eq_true rfl⟩) (fun H locs hH => ?_)
  refine lv_aload_n hx hb dX2_addCock_37 rfl (lv_at hl 0 rfl) ?_
  refine kb_get (v := .ref (g 5)) hx hb hts hin2 hown hK hH 0 rfl rfl rfl 4 (by decide) (hts (.fieldLink RX2 24 "CockWar$Hill" "weights" "[I") (List.mem_of_getElem? (i := 5) rfl)) (fun _ h9 => h9) rfl dX2_addCock_38 ?_
  refine lv_aload_n hx hb dX2_addCock_41 rfl (lv_at hl 0 rfl) ?_
  refine kb_get (v := .int (V.2.1 5)) hx hb hts hin2 hown hK hH 0 rfl rfl rfl 5 (by decide) (hts (.fieldLink RX2 27 "CockWar$Hill" "cocks" "I") (List.mem_of_getElem? (i := 2) rfl)) (fun _ h9 => h9) rfl dX2_addCock_42 ?_
  refine lv_iload hx hb dX2_addCock_45 (lv_at hl 5 rfl) ?_
  obtain ⟨q4, hq4⟩ : ∃ z, z = (f_X7_put 6 (V.1 4) (V.2.1 5) x4) := ⟨_, rfl⟩
  have hF := kAp_eq hF hq4
  refine kb_cv hH hA [5] (Wc := ([b_arr G (g 5) 6 (V.1 4)])) (Wc' := ([b_arr G (g 5) 6 q4])) (WS' := (w_O2 G g (oA (oA (oA (oA V 1 q1) 2 q2) 3 q3) 4 q4))) rfl (by decide) rfl rfl (va_runSN (As := [.ref (g 5), .int (V.2.1 5), .int x4]) (rest := []) ⟨hx, hb, hml, hown, hts⟩ (c_X7_put l G (g 5) 6 (V.1 4) (V.2.1 5) x4 (by decide) hq4.symm _) ⟨va_cnB 3 hts gX2_addCock_X7_put_n50 rfl rfl rfl (kb_NM hN 22 rfl) (hts (.initialized RX7) (List.mem_of_getElem? (i := 9) rfl)) hd_X7_put ⟨Nat.le_of_ble_eq_true rfl, Nat.le_of_ble_eq_true rfl⟩, (hts (.static yX7_put) (List.mem_of_getElem? (i := 8) rfl)), trivial⟩ (kb_preS hH hK hN [5] rfl (by decide)) rfl rfl hl.1 rfl (lv_room (Nat.le_of_ble_eq_true rfl)) dX2_addCock_47 ⟨Nat.le_of_ble_eq_true rfl, Nat.le_of_ble_eq_true rfl⟩) (fun H locs hH => ?_)
  refine lv_aload_n hx hb dX2_addCock_50 rfl (lv_at hl 0 rfl) ?_
  refine lv_dup hx hb dX2_addCock_51 rfl ?_
  refine kb_get (v := .int (V.2.1 6)) hx hb hts hin2 hown hK hH 0 rfl rfl rfl 6 (by decide) (hts (.fieldLink RX2 31 "CockWar$Hill" "parishes" "I") (List.mem_of_getElem? (i := 6) rfl)) (fun _ h9 => h9) rfl dX2_addCock_52 ?_
  refine lv_iload_n hx hb dX2_addCock_55 rfl (lv_at hl 2 rfl) ?_
  refine lv_aload_n hx hb dX2_addCock_56 rfl (lv_at hl 0 rfl) ?_
  refine kb_get (v := .int (V.2.1 5)) hx hb hts hin2 hown hK hH 0 rfl rfl rfl 5 (by decide) (hts (.fieldLink RX2 27 "CockWar$Hill" "cocks" "I") (List.mem_of_getElem? (i := 2) rfl)) (fun _ h9 => h9) rfl dX2_addCock_57 ?_
  refine lv_ishl hx hb dX2_addCock_60 ?_
  refine lv_ior hx hb dX2_addCock_61 ?_
  refine kb_put (ty := .int) (v := .int ((V.2.1 6) ||| (x1 <<< ((V.2.1 5) &&& 31)))) (WS' := (w_O2 G g (oI (oA (oA (oA (oA V 1 q1) 2 q2) 3 q3) 4 q4) 6 ((V.2.1 6) ||| (x1 <<< ((V.2.1 5) &&& 31)))))) hx hb hts hin2 tyX2 tyX2_ok nmX2 hown hK hH 0 rfl rfl 6 (by decide) (hts (.fieldLink RX2 31 "CockWar$Hill" "parishes" "I") (List.mem_of_getElem? (i := 6) rfl)) (fun _ h9 => h9) rfl (by decide +kernel) rfl rfl (Nat.le_of_ble_eq_true rfl) rfl dX2_addCock_62 (fun H locs hH => ?_)
  refine lv_aload_n hx hb dX2_addCock_65 rfl (lv_at hl 0 rfl) ?_
  refine lv_dup hx hb dX2_addCock_66 rfl ?_
  refine kb_get (v := .int (V.2.1 7)) hx hb hts hin2 hown hK hH 0 rfl rfl rfl 7 (by decide) (hts (.fieldLink RX2 34 "CockWar$Hill" "ways" "I") (List.mem_of_getElem? (i := 7) rfl)) (fun _ h9 => h9) rfl dX2_addCock_67 ?_
  refine lv_iload hx hb dX2_addCock_70 (lv_at hl 6 rfl) ?_
  refine lv_aload_n hx hb dX2_addCock_72 rfl (lv_at hl 0 rfl) ?_
  refine kb_get (v := .int (V.2.1 5)) hx hb hts hin2 hown hK hH 0 rfl rfl rfl 5 (by decide) (hts (.fieldLink RX2 27 "CockWar$Hill" "cocks" "I") (List.mem_of_getElem? (i := 2) rfl)) (fun _ h9 => h9) rfl dX2_addCock_73 ?_
  refine lv_ishl hx hb dX2_addCock_76 ?_
  refine lv_ior hx hb dX2_addCock_77 ?_
  refine kb_put (ty := .int) (v := .int ((V.2.1 7) ||| (x5 <<< ((V.2.1 5) &&& 31)))) (WS' := (w_O2 G g (oI (oI (oA (oA (oA (oA V 1 q1) 2 q2) 3 q3) 4 q4) 6 ((V.2.1 6) ||| (x1 <<< ((V.2.1 5) &&& 31)))) 7 ((V.2.1 7) ||| (x5 <<< ((V.2.1 5) &&& 31)))))) hx hb hts hin2 tyX2 tyX2_ok nmX2 hown hK hH 0 rfl rfl 7 (by decide) (hts (.fieldLink RX2 34 "CockWar$Hill" "ways" "I") (List.mem_of_getElem? (i := 7) rfl)) (fun _ h9 => h9) rfl (by decide +kernel) rfl rfl (Nat.le_of_ble_eq_true rfl) rfl dX2_addCock_78 (fun H locs hH => ?_)
  refine lv_aload_n hx hb dX2_addCock_81 rfl (lv_at hl 0 rfl) ?_
  refine lv_dup hx hb dX2_addCock_82 rfl ?_
  refine kb_get (v := .int (V.2.1 5)) hx hb hts hin2 hown hK hH 0 rfl rfl rfl 5 (by decide) (hts (.fieldLink RX2 27 "CockWar$Hill" "cocks" "I") (List.mem_of_getElem? (i := 2) rfl)) (fun _ h9 => h9) rfl dX2_addCock_83 ?_
  refine lv_iconst (v := 1) hx hb dX2_addCock_86 (by decide) ?_
  refine lv_iadd hx hb dX2_addCock_87 ?_
  refine kb_put (ty := .int) (v := .int ((V.2.1 5) + (1 : Int32))) (WS' := (w_O2 G g (oI (oI (oI (oA (oA (oA (oA V 1 q1) 2 q2) 3 q3) 4 q4) 5 ((V.2.1 5) + (1 : Int32))) 6 ((V.2.1 6) ||| (x1 <<< ((V.2.1 5) &&& 31)))) 7 ((V.2.1 7) ||| (x5 <<< ((V.2.1 5) &&& 31)))))) hx hb hts hin2 tyX2 tyX2_ok nmX2 hown hK hH 0 rfl rfl 5 (by decide) (hts (.fieldLink RX2 27 "CockWar$Hill" "cocks" "I") (List.mem_of_getElem? (i := 2) rfl)) (fun _ h9 => h9) rfl (by decide +kernel) rfl rfl (Nat.le_of_ble_eq_true rfl) rfl dX2_addCock_88 (fun H locs hH => ?_)
  subst hF
  exact kb_vret hx hb hr hH rfl dX2_addCock_91 hlocks
def f_X2_yieldingTo_L1 (V : OV) (x0 : Int32) (x1 : Int32) (x2 : Int32) (iL1 : Nat) (s : (Int32)) : (Int32) := (kAp ((if x0 = (1 : Int32) then (-1 : Int32) else (1 : Int32)) : Int32) (fun v5 => (kAp ((if (f_X7_bit x2 ((f_X7_at 6 (V.1 1) (nI iL1)) + v5)) = (1 : Int32) then (0 : Int32) else (f_X7_at 10 (V.1 0) ((f_X7_at 6 (V.1 1) (nI iL1)) + v5))) : Int32) (fun v9 => (if x1 ≤ (f_X7_at 6 (V.1 3) (nI iL1)) then s else (if (f_X7_at 6 (V.1 2) (nI iL1)) < v9 then s else (s ||| ((1 : Int32) <<< ((nI iL1) &&& 31)))))))))
def f_X2_yieldingTo (V : OV) (x0 : Int32) (x1 : Int32) (x2 : Int32) : (Int32) := (kAp (lpu (f_X2_yieldingTo_L1 V x0 x1 x2) (cN (V.2.1 5)) 0 (0 : Int32)) (fun z13 => z13))
set_option maxHeartbeats 4000000 in
set_option maxRecDepth 100000 in
theorem c_X2_yieldingTo (l : Launch) (G : Ge) (g : Nat → Nat) (V : OV) (x0 : Int32) (x1 : Int32) (x2 : Int32) {F : (Int32)} (hF : f_X2_yieldingTo V x0 x1 x2 = F) : CI l yX2_yieldingTo wsX2_yieldingTo { frames := 1, cells := 0, slots := 0, locals := 21 } [.ref (g 0), .int x0, .int x1, .int x2] G (w_O2 G g V) (w_O2 G g V) F := by
  intro sz
  refine Met.ofW (cc := cX2_yieldingTo) (maxL := 8) (ret := (some .int)) (by decide) rfl ?_
  intro p e s m args below meth c s₁ B hml hv
  obtain ⟨rfl, hpre⟩ := hv
  obtain ⟨hsz, hH, hK, hN, hA⟩ := kb_start hpre
  subst hsz
  have hx := B.exec
  have hb := B.bytes
  have hr := B.returns
  have hts := atoms_spec (ws := wsX2_yieldingTo) B.pre
  have hown : s.vm.findClass RX2 = some m.cls := findClass_of_methodNamed B.named
  have hlocks := B.notSynchronized
  generalize hAe : va_A (List.flatten (w_O2 G g V)) s.heap.size = A at hH hA ⊢
  have hl := lv_entry ([.ref (g 0), .int x0, .int x1, .int x2]) (n := 8) (Nat.le_of_ble_eq_true rfl)
  rw [lg_entry_eq]
  generalize (lg_sl ([.ref (g 0), .int x0, .int x1, .int x2]) ++ List.replicate (8 - (lg_sl ([.ref (g 0), .int x0, .int x1, .int x2])).length) Slot.unset).toArray = ls at hl ⊢
  have hl : lv_has ls 8 [(0, .ref (g 0)), (1, .int x0), (2, .int x1), (3, .int x2)] := hl
  have hH : HP G A s.heap (w_O2 G g V) s.heap [] := hH
  have hin2 : ∀ w ∈ u_ws RX2 TX2 11, w ∈ wsX2_yieldingTo := fun w h => List.mem_cons_of_mem _ (List.mem_append_right _ h)
  have hF : (kAp (lpu (f_X2_yieldingTo_L1 V x0 x1 x2) (cN (V.2.1 5)) 0 (0 : Int32)) (fun z13 => z13)) = F := hF
  refine lv_iconst (v := 0) hx hb dX2_yieldingTo_0 (by decide) ?_
  refine lv_istore (lv' := [(4, .int (0 : Int32)), (0, .ref (g 0)), (1, .int x0), (2, .int x1), (3, .int x2)]) hx hb dX2_yieldingTo_1 hl (by decide) rfl (fun ls hl => ?_)
  refine lv_iconst (v := 0) hx hb dX2_yieldingTo_3 (by decide) ?_
  refine lv_istore (lv' := [(5, .int (0 : Int32)), (4, .int (0 : Int32)), (0, .ref (g 0)), (1, .int x0), (2, .int x1), (3, .int x2)]) hx hb dX2_yieldingTo_4 hl (by decide) rfl (fun ls hl => ?_)
  obtain ⟨SFL1, hSFL1⟩ : ∃ z, z = (lpu (f_X2_yieldingTo_L1 V x0 x1 x2) (cN (V.2.1 5)) 0 (0 : Int32)) := ⟨_, rfl⟩
  have hF := kAp_eq hF hSFL1
  refine kb_cut (fun H locs ls => HP G A s.heap (w_O2 G g V) H locs ∧ lv_has ls 8 [(4, .int SFL1)]) 104 [] (fun EXL1 => ?_) (fun H locs ls hX => ?_)
  · refine kb_loop (σ := (Int32)) (fun n i x => n + i = (cN (V.2.1 5)) ∧ lpu (f_X2_yieldingTo_L1 V x0 x1 x2) n i x = SFL1) (fun iL1 x H locs ls => HP G A s.heap (w_O2 G g V) H locs ∧ lv_has ls 8 [(5, .int (nI iL1)), (4, .int x), (0, .ref (g 0)), (1, .int x0), (2, .int x1), (3, .int x2)]) (fun iL1 x H locs ls hI hX => ?_) (fun n iL1 x hI ihL1 H locs ls hX => ?_) (cN (V.2.1 5)) 0 (0 : Int32) _ _ _ ⟨Nat.add_zero _, hSFL1.symm⟩ ⟨hH, lv_sub hl [0, 1, 2, 3, 4, 5] rfl⟩
    · obtain ⟨L1a, exL1a⟩ : ∃ z, z = x := ⟨_, rfl⟩
      subst exL1a
      have hH : HP G A s.heap (w_O2 G g V) H locs := hX.1
      have hl : lv_has ls 8 [(5, .int (nI iL1)), (4, .int L1a), (0, .ref (g 0)), (1, .int x0), (2, .int x1), (3, .int x2)] := hX.2
      obtain ⟨hiL1, hs⟩ := hI
      have hiL1 : iL1 = (cN (V.2.1 5)) := by omega
      refine lv_iload hx hb dX2_yieldingTo_6 (lv_at hl 0 rfl) ?_
      refine lv_aload_n hx hb dX2_yieldingTo_8 rfl (lv_at hl 2 rfl) ?_
      refine kb_get (v := .int (V.2.1 5)) hx hb hts hin2 hown hK hH 0 rfl rfl rfl 5 (by decide) (hts (.fieldLink RX2 27 "CockWar$Hill" "cocks" "I") (List.mem_of_getElem? (i := 1) rfl)) (fun _ h9 => h9) rfl dX2_yieldingTo_9 ?_
      refine lv_icmp_ge (tgt := 104) hx hb dX2_yieldingTo_12 (by decide) (fun _ => ?_) (fun c => absurd (cN_end hiL1) c)
      exact EXL1 _ _ _ ⟨by subst hs; exact hH, by subst hs; exact lv_sub hl [1] rfl⟩
    · obtain ⟨L1a, exL1a⟩ : ∃ z, z = x := ⟨_, rfl⟩
      subst exL1a
      have hH : HP G A s.heap (w_O2 G g V) H locs := hX.1
      have hl : lv_has ls 8 [(5, .int (nI iL1)), (4, .int L1a), (0, .ref (g 0)), (1, .int x0), (2, .int x1), (3, .int x2)] := hX.2
      obtain ⟨hiL1, hs⟩ := hI
      have hltL1 : iL1 < (cN (V.2.1 5)) := by omega
      obtain ⟨BVL1, hBd⟩ : ∃ z, (f_X2_yieldingTo_L1 V x0 x1 x2) iL1 L1a = z := ⟨_, rfl⟩
      have hs : lpu (f_X2_yieldingTo_L1 V x0 x1 x2) n (iL1 + 1) BVL1 = SFL1 := by rw [← hBd]; exact hs
      have hBL1 : (kAp ((if x0 = (1 : Int32) then (-1 : Int32) else (1 : Int32)) : Int32) (fun v5 => (kAp ((if (f_X7_bit x2 ((f_X7_at 6 (V.1 1) (nI iL1)) + v5)) = (1 : Int32) then (0 : Int32) else (f_X7_at 10 (V.1 0) ((f_X7_at 6 (V.1 1) (nI iL1)) + v5))) : Int32) (fun v9 => (if x1 ≤ (f_X7_at 6 (V.1 3) (nI iL1)) then L1a else (if (f_X7_at 6 (V.1 2) (nI iL1)) < v9 then L1a else (L1a ||| ((1 : Int32) <<< ((nI iL1) &&& 31))))))))) = BVL1 := hBd
      refine lv_iload hx hb dX2_yieldingTo_6 (lv_at hl 0 rfl) ?_
      refine lv_aload_n hx hb dX2_yieldingTo_8 rfl (lv_at hl 2 rfl) ?_
      refine kb_get (v := .int (V.2.1 5)) hx hb hts hin2 hown hK hH 0 rfl rfl rfl 5 (by decide) (hts (.fieldLink RX2 27 "CockWar$Hill" "cocks" "I") (List.mem_of_getElem? (i := 1) rfl)) (fun _ h9 => h9) rfl dX2_yieldingTo_9 ?_
      refine lv_icmp_ge (tgt := 104) hx hb dX2_yieldingTo_12 (by decide) (fun c => absurd c (cN_ge hltL1)) (fun c2 => ?_)
      refine lv_aload_n hx hb dX2_yieldingTo_15 rfl (lv_at hl 2 rfl) ?_
      refine kb_get (v := .ref (g 2)) hx hb hts hin2 hown hK hH 0 rfl rfl rfl 1 (by decide) (hts (.fieldLink RX2 15 "CockWar$Hill" "cells" "[I") (List.mem_of_getElem? (i := 2) rfl)) (fun _ h9 => h9) rfl dX2_yieldingTo_16 ?_
      refine lv_iload hx hb dX2_yieldingTo_19 (lv_at hl 0 rfl) ?_
      refine kb_ci hH hA [2] (Wc := ([b_arr G (g 2) 6 (V.1 1)])) (Wc' := ([b_arr G (g 2) 6 (V.1 1)])) (WS' := (w_O2 G g V)) rfl (by decide) rfl rfl (va_runSN (As := [.ref (g 2), .int (nI iL1)]) (rest := []) ⟨hx, hb, hml, hown, hts⟩ (c_X7_at l G (g 2) 6 (V.1 1) (nI iL1) (by decide) rfl _) ⟨va_cnB 2 hts gX2_yieldingTo_X7_at_n54 rfl rfl rfl (kb_NM hN 20 rfl) (hts (.initialized RX7) (List.mem_of_getElem? (i := 7) rfl)) hd_X7_at ⟨Nat.le_of_ble_eq_true rfl, Nat.le_of_ble_eq_true rfl⟩, (hts (.static yX7_at) (List.mem_of_getElem? (i := 6) rfl)), trivial⟩ (kb_preS hH hK hN [2] rfl (by decide)) rfl rfl hl.1 rfl (lv_room (Nat.le_of_ble_eq_true rfl)) dX2_yieldingTo_21 ⟨Nat.le_of_ble_eq_true rfl, Nat.le_of_ble_eq_true rfl⟩) (fun H locs hH => ?_)
      refine lv_iload_n hx hb dX2_yieldingTo_24 rfl (lv_at hl 3 rfl) ?_
      refine lv_iconst (v := 1) hx hb dX2_yieldingTo_25 (by decide) ?_
      obtain ⟨v5, ev5⟩ : ∃ z : Int32, (if x0 = (1 : Int32) then (-1 : Int32) else (1 : Int32)) = z := ⟨_, rfl⟩
      have hBL1 := kAp_eq hBL1 ev5.symm
      refine kb_cut (fun H locs ls => HP G A s.heap (w_O2 G g V) H locs ∧ lv_has ls 8 [(5, .int (nI iL1)), (4, .int L1a), (0, .ref (g 0)), (1, .int x0), (2, .int x1), (3, .int x2)]) 34 [.int v5, .int (f_X7_at 6 (V.1 1) (nI iL1))] (fun u3 => ?_) (fun H locs ls hX => ?_)
      · refine lv_icmp_ne (tgt := 33) hx hb dX2_yieldingTo_26 (by decide) (fun c6 => ?_) (fun c6 => ?_)
        · rw [if_neg c6] at ev5
          refine lv_iconst (v := 1) hx hb dX2_yieldingTo_33 (by decide) ?_
          subst ev5
          exact u3 _ _ _ ⟨hH, lv_sub hl [0, 1, 2, 3, 4, 5] rfl⟩
        · rw [if_pos c6] at ev5
          refine lv_iconst (v := -1) hx hb dX2_yieldingTo_29 (by decide) ?_
          refine lv_goto (tgt := 34) hx hb dX2_yieldingTo_30 (by decide) ?_
          subst ev5
          exact u3 _ _ _ ⟨hH, lv_sub hl [0, 1, 2, 3, 4, 5] rfl⟩
      · obtain ⟨hH, hl⟩ := hX
        refine lv_iadd hx hb dX2_yieldingTo_34 ?_
        refine lv_istore (lv' := [(6, .int ((f_X7_at 6 (V.1 1) (nI iL1)) + v5)), (5, .int (nI iL1)), (4, .int L1a), (0, .ref (g 0)), (1, .int x0), (2, .int x1), (3, .int x2)]) hx hb dX2_yieldingTo_35 hl (by decide) rfl (fun ls hl => ?_)
        refine lv_iload_n hx hb dX2_yieldingTo_37 rfl (lv_at hl 6 rfl) ?_
        refine lv_iload hx hb dX2_yieldingTo_38 (lv_at hl 0 rfl) ?_
        refine kb_ci hH hA [] (Wc := ([] : List va_W)) (Wc' := ([] : List va_W)) (WS' := (w_O2 G g V)) rfl (by decide) rfl rfl (va_runSN (As := [.int x2, .int ((f_X7_at 6 (V.1 1) (nI iL1)) + v5)]) (rest := []) ⟨hx, hb, hml, hown, hts⟩ (c_X7_bit l G x2 ((f_X7_at 6 (V.1 1) (nI iL1)) + v5) rfl _) ⟨va_cnB 2 hts gX2_yieldingTo_X7_bit_n58 rfl rfl rfl (kb_NM hN 36 rfl) (hts (.initialized RX7) (List.mem_of_getElem? (i := 7) rfl)) hd_X7_bit ⟨Nat.le_of_ble_eq_true rfl, Nat.le_of_ble_eq_true rfl⟩, (hts (.static yX7_bit) (List.mem_of_getElem? (i := 9) rfl)), trivial⟩ (kb_preS hH hK hN [] rfl (by decide)) rfl rfl hl.1 rfl (lv_room (Nat.le_of_ble_eq_true rfl)) dX2_yieldingTo_40 ⟨Nat.le_of_ble_eq_true rfl, Nat.le_of_ble_eq_true rfl⟩) (fun H locs hH => ?_)
        refine lv_iconst (v := 1) hx hb dX2_yieldingTo_43 (by decide) ?_
        obtain ⟨v9, ev9⟩ : ∃ z : Int32, (if (f_X7_bit x2 ((f_X7_at 6 (V.1 1) (nI iL1)) + v5)) = (1 : Int32) then (0 : Int32) else (f_X7_at 10 (V.1 0) ((f_X7_at 6 (V.1 1) (nI iL1)) + v5))) = z := ⟨_, rfl⟩
        have hBL1 := kAp_eq hBL1 ev9.symm
        refine kb_cut (fun H locs ls => HP G A s.heap (w_O2 G g V) H locs ∧ lv_has ls 8 [(5, .int (nI iL1)), (4, .int L1a), (0, .ref (g 0)), (1, .int x0), (2, .int x1), (3, .int x2)]) 60 [.int v9] (fun u7 => ?_) (fun H locs ls hX => ?_)
        · refine lv_icmp_ne (tgt := 51) hx hb dX2_yieldingTo_44 (by decide) (fun c10 => ?_) (fun c10 => ?_)
          · rw [if_neg c10] at ev9
            refine lv_aload_n hx hb dX2_yieldingTo_51 rfl (lv_at hl 3 rfl) ?_
            refine kb_get (v := .ref (g 1)) hx hb hts hin2 hown hK hH 0 rfl rfl rfl 0 (by decide) (hts (.fieldLink RX2 9 "CockWar$Hill" "trees" "[I") (List.mem_of_getElem? (i := 3) rfl)) (fun _ h9 => h9) rfl dX2_yieldingTo_52 ?_
            refine lv_iload hx hb dX2_yieldingTo_55 (lv_at hl 0 rfl) ?_
            refine kb_ci hH hA [1] (Wc := ([b_arr G (g 1) 10 (V.1 0)])) (Wc' := ([b_arr G (g 1) 10 (V.1 0)])) (WS' := (w_O2 G g V)) rfl (by decide) rfl rfl (va_runSN (As := [.ref (g 1), .int ((f_X7_at 6 (V.1 1) (nI iL1)) + v5)]) (rest := []) ⟨hx, hb, hml, hown, hts⟩ (c_X7_at l G (g 1) 10 (V.1 0) ((f_X7_at 6 (V.1 1) (nI iL1)) + v5) (by decide) rfl _) ⟨va_cnB 2 hts gX2_yieldingTo_X7_at_n54 rfl rfl rfl (kb_NM hN 20 rfl) (hts (.initialized RX7) (List.mem_of_getElem? (i := 7) rfl)) hd_X7_at ⟨Nat.le_of_ble_eq_true rfl, Nat.le_of_ble_eq_true rfl⟩, (hts (.static yX7_at) (List.mem_of_getElem? (i := 6) rfl)), trivial⟩ (kb_preS hH hK hN [1] rfl (by decide)) rfl rfl hl.1 rfl (lv_room (Nat.le_of_ble_eq_true rfl)) dX2_yieldingTo_57 ⟨Nat.le_of_ble_eq_true rfl, Nat.le_of_ble_eq_true rfl⟩) (fun H locs hH => ?_)
            subst ev9
            exact u7 _ _ _ ⟨hH, lv_sub hl [1, 2, 3, 4, 5, 6] rfl⟩
          · rw [if_pos c10] at ev9
            refine lv_iconst (v := 0) hx hb dX2_yieldingTo_47 (by decide) ?_
            refine lv_goto (tgt := 60) hx hb dX2_yieldingTo_48 (by decide) ?_
            subst ev9
            exact u7 _ _ _ ⟨hH, lv_sub hl [1, 2, 3, 4, 5, 6] rfl⟩
        · obtain ⟨hH, hl⟩ := hX
          refine lv_istore (lv' := [(7, .int v9), (5, .int (nI iL1)), (4, .int L1a), (0, .ref (g 0)), (1, .int x0), (2, .int x1), (3, .int x2)]) hx hb dX2_yieldingTo_60 hl (by decide) rfl (fun ls hl => ?_)
          refine lv_iload_n hx hb dX2_yieldingTo_62 rfl (lv_at hl 5 rfl) ?_
          refine lv_aload_n hx hb dX2_yieldingTo_63 rfl (lv_at hl 3 rfl) ?_
          refine kb_get (v := .ref (g 4)) hx hb hts hin2 hown hK hH 0 rfl rfl rfl 3 (by decide) (hts (.fieldLink RX2 21 "CockWar$Hill" "rusts" "[I") (List.mem_of_getElem? (i := 4) rfl)) (fun _ h9 => h9) rfl dX2_yieldingTo_64 ?_
          refine lv_iload hx hb dX2_yieldingTo_67 (lv_at hl 1 rfl) ?_
          refine kb_ci hH hA [4] (Wc := ([b_arr G (g 4) 6 (V.1 3)])) (Wc' := ([b_arr G (g 4) 6 (V.1 3)])) (WS' := (w_O2 G g V)) rfl (by decide) rfl rfl (va_runSN (As := [.ref (g 4), .int (nI iL1)]) (rest := [.int x1]) ⟨hx, hb, hml, hown, hts⟩ (c_X7_at l G (g 4) 6 (V.1 3) (nI iL1) (by decide) rfl _) ⟨va_cnB 2 hts gX2_yieldingTo_X7_at_n54 rfl rfl rfl (kb_NM hN 20 rfl) (hts (.initialized RX7) (List.mem_of_getElem? (i := 7) rfl)) hd_X7_at ⟨Nat.le_of_ble_eq_true rfl, Nat.le_of_ble_eq_true rfl⟩, (hts (.static yX7_at) (List.mem_of_getElem? (i := 6) rfl)), trivial⟩ (kb_preS hH hK hN [4] rfl (by decide)) rfl rfl hl.1 rfl (lv_room (Nat.le_of_ble_eq_true rfl)) dX2_yieldingTo_69 ⟨Nat.le_of_ble_eq_true rfl, Nat.le_of_ble_eq_true rfl⟩) (fun H locs hH => ?_)
          refine lv_icmp_le (tgt := 98) hx hb dX2_yieldingTo_72 (by decide) (fun c11 => ?_) (fun c11 => ?_)
          · rw [if_pos c11] at hBL1
            refine lv_iinc (v := (nI (iL1 + 1))) (lv' := [(5, .int (nI (iL1 + 1))), (7, .int v9), (4, .int L1a), (0, .ref (g 0)), (1, .int x0), (2, .int x1), (3, .int x2)]) hx hb dX2_yieldingTo_98 hl (k := 1) rfl (nI_1 _) (by decide) rfl (fun ls hl => ?_)
            refine lv_goto (tgt := 6) hx hb dX2_yieldingTo_101 (by decide) ?_
            subst hBL1
            exact ihL1 _ _ _ _ ⟨by omega, hs⟩ ⟨hH, lv_sub hl [0, 2, 3, 4, 5, 6] rfl⟩
          · rw [if_neg c11] at hBL1
            refine lv_iload hx hb dX2_yieldingTo_75 (lv_at hl 0 rfl) ?_
            refine lv_aload_n hx hb dX2_yieldingTo_77 rfl (lv_at hl 3 rfl) ?_
            refine kb_get (v := .ref (g 3)) hx hb hts hin2 hown hK hH 0 rfl rfl rfl 2 (by decide) (hts (.fieldLink RX2 18 "CockWar$Hill" "heights" "[I") (List.mem_of_getElem? (i := 5) rfl)) (fun _ h9 => h9) rfl dX2_yieldingTo_78 ?_
            refine lv_iload hx hb dX2_yieldingTo_81 (lv_at hl 1 rfl) ?_
            refine kb_ci hH hA [3] (Wc := ([b_arr G (g 3) 6 (V.1 2)])) (Wc' := ([b_arr G (g 3) 6 (V.1 2)])) (WS' := (w_O2 G g V)) rfl (by decide) rfl rfl (va_runSN (As := [.ref (g 3), .int (nI iL1)]) (rest := [.int v9]) ⟨hx, hb, hml, hown, hts⟩ (c_X7_at l G (g 3) 6 (V.1 2) (nI iL1) (by decide) rfl _) ⟨va_cnB 2 hts gX2_yieldingTo_X7_at_n54 rfl rfl rfl (kb_NM hN 20 rfl) (hts (.initialized RX7) (List.mem_of_getElem? (i := 7) rfl)) hd_X7_at ⟨Nat.le_of_ble_eq_true rfl, Nat.le_of_ble_eq_true rfl⟩, (hts (.static yX7_at) (List.mem_of_getElem? (i := 6) rfl)), trivial⟩ (kb_preS hH hK hN [3] rfl (by decide)) rfl rfl hl.1 rfl (lv_room (Nat.le_of_ble_eq_true rfl)) dX2_yieldingTo_83 ⟨Nat.le_of_ble_eq_true rfl, Nat.le_of_ble_eq_true rfl⟩) (fun H locs hH => ?_)
            refine lv_icmp_gt (tgt := 98) hx hb dX2_yieldingTo_86 (by decide) (fun c12 => ?_) (fun c12 => ?_)
            · rw [if_pos c12] at hBL1
              refine lv_iinc (v := (nI (iL1 + 1))) (lv' := [(5, .int (nI (iL1 + 1))), (7, .int v9), (4, .int L1a), (0, .ref (g 0)), (1, .int x0), (2, .int x1), (3, .int x2)]) hx hb dX2_yieldingTo_98 hl (k := 1) rfl (nI_1 _) (by decide) rfl (fun ls hl => ?_)
              refine lv_goto (tgt := 6) hx hb dX2_yieldingTo_101 (by decide) ?_
              subst hBL1
              exact ihL1 _ _ _ _ ⟨by omega, hs⟩ ⟨hH, lv_sub hl [0, 2, 3, 4, 5, 6] rfl⟩
            · rw [if_neg c12] at hBL1
              refine lv_iload hx hb dX2_yieldingTo_89 (lv_at hl 2 rfl) ?_
              refine lv_iconst (v := 1) hx hb dX2_yieldingTo_91 (by decide) ?_
              refine lv_iload hx hb dX2_yieldingTo_92 (lv_at hl 1 rfl) ?_
              refine lv_ishl hx hb dX2_yieldingTo_94 ?_
              refine lv_ior hx hb dX2_yieldingTo_95 ?_
              refine lv_istore (lv' := [(4, .int (L1a ||| ((1 : Int32) <<< ((nI iL1) &&& 31)))), (7, .int v9), (5, .int (nI iL1)), (0, .ref (g 0)), (1, .int x0), (2, .int x1), (3, .int x2)]) hx hb dX2_yieldingTo_96 hl (by decide) rfl (fun ls hl => ?_)
              refine lv_iinc (v := (nI (iL1 + 1))) (lv' := [(5, .int (nI (iL1 + 1))), (4, .int (L1a ||| ((1 : Int32) <<< ((nI iL1) &&& 31)))), (7, .int v9), (0, .ref (g 0)), (1, .int x0), (2, .int x1), (3, .int x2)]) hx hb dX2_yieldingTo_98 hl (k := 2) rfl (nI_1 _) (by decide) rfl (fun ls hl => ?_)
              refine lv_goto (tgt := 6) hx hb dX2_yieldingTo_101 (by decide) ?_
              subst hBL1
              exact ihL1 _ _ _ _ ⟨by omega, hs⟩ ⟨hH, lv_sub hl [0, 1, 3, 4, 5, 6] rfl⟩
  · obtain ⟨hH, hl⟩ := hX
    refine lv_iload hx hb dX2_yieldingTo_104 (lv_at hl 0 rfl) ?_
    subst hF
    exact kb_iret hx hb hr hH rfl rfl dX2_yieldingTo_106 hlocks
def f_X2_brookBy_L1 (V : OV) (x0 : Int32) (iL1 : Nat) (s : (Int32)) : (Int32) := (kAp ((if (f_X7_bit (x0 ^^^ (V.2.1 6)) (nI iL1)) = (1 : Int32) then (f_X7_at 6 (V.1 4) (nI iL1)) else (0 : Int32)) : Int32) (fun v5 => (if (f_X7_bit (V.2.1 6) (nI iL1)) = 0 then (s + v5) else (s + (-v5)))))
def f_X2_brookBy (V : OV) (x0 : Int32) : (Int32) := (kAp (lpu (f_X2_brookBy_L1 V x0) (cN (V.2.1 5)) 0 (0 : Int32)) (fun z8 => (if z8 = 0 then (V.2.1 9) else (if z8 ≤ 0 then (1 : Int32) else (0 : Int32)))))
set_option maxHeartbeats 4000000 in
set_option maxRecDepth 100000 in
theorem c_X2_brookBy (l : Launch) (G : Ge) (g : Nat → Nat) (V : OV) (x0 : Int32) {F : (Int32)} (hF : f_X2_brookBy V x0 = F) : CI l yX2_brookBy wsX2_brookBy { frames := 1, cells := 0, slots := 0, locals := 21 } [.ref (g 0), .int x0] G (w_O2 G g V) (w_O2 G g V) F := by
  intro sz
  refine Met.ofW (cc := cX2_brookBy) (maxL := 6) (ret := (some .int)) (by decide) rfl ?_
  intro p e s m args below meth c s₁ B hml hv
  obtain ⟨rfl, hpre⟩ := hv
  obtain ⟨hsz, hH, hK, hN, hA⟩ := kb_start hpre
  subst hsz
  have hx := B.exec
  have hb := B.bytes
  have hr := B.returns
  have hts := atoms_spec (ws := wsX2_brookBy) B.pre
  have hown : s.vm.findClass RX2 = some m.cls := findClass_of_methodNamed B.named
  have hlocks := B.notSynchronized
  generalize hAe : va_A (List.flatten (w_O2 G g V)) s.heap.size = A at hH hA ⊢
  have hl := lv_entry ([.ref (g 0), .int x0]) (n := 6) (Nat.le_of_ble_eq_true rfl)
  rw [lg_entry_eq]
  generalize (lg_sl ([.ref (g 0), .int x0]) ++ List.replicate (6 - (lg_sl ([.ref (g 0), .int x0])).length) Slot.unset).toArray = ls at hl ⊢
  have hl : lv_has ls 6 [(0, .ref (g 0)), (1, .int x0)] := hl
  have hH : HP G A s.heap (w_O2 G g V) s.heap [] := hH
  have hin2 : ∀ w ∈ u_ws RX2 TX2 11, w ∈ wsX2_brookBy := fun w h => List.mem_cons_of_mem _ (List.mem_append_right _ h)
  have hF : (kAp (lpu (f_X2_brookBy_L1 V x0) (cN (V.2.1 5)) 0 (0 : Int32)) (fun z8 => (if z8 = 0 then (V.2.1 9) else (if z8 ≤ 0 then (1 : Int32) else (0 : Int32))))) = F := hF
  refine lv_iconst (v := 0) hx hb dX2_brookBy_0 (by decide) ?_
  refine lv_istore_n (lv' := [(2, .int (0 : Int32)), (0, .ref (g 0)), (1, .int x0)]) hx hb dX2_brookBy_1 rfl hl (by decide) rfl (fun ls hl => ?_)
  refine lv_iload_n hx hb dX2_brookBy_2 rfl (lv_at hl 2 rfl) ?_
  refine lv_aload_n hx hb dX2_brookBy_3 rfl (lv_at hl 1 rfl) ?_
  refine kb_get (v := .int (V.2.1 6)) hx hb hts hin2 hown hK hH 0 rfl rfl rfl 6 (by decide) (hts (.fieldLink RX2 31 "CockWar$Hill" "parishes" "I") (List.mem_of_getElem? (i := 1) rfl)) (fun _ h9 => h9) rfl dX2_brookBy_4 ?_
  refine lv_ixor hx hb dX2_brookBy_7 ?_
  refine lv_istore_n (lv' := [(3, .int (x0 ^^^ (V.2.1 6))), (2, .int (0 : Int32)), (0, .ref (g 0)), (1, .int x0)]) hx hb dX2_brookBy_8 rfl hl (by decide) rfl (fun ls hl => ?_)
  refine lv_iconst (v := 0) hx hb dX2_brookBy_9 (by decide) ?_
  refine lv_istore (lv' := [(4, .int (0 : Int32)), (3, .int (x0 ^^^ (V.2.1 6))), (2, .int (0 : Int32)), (0, .ref (g 0)), (1, .int x0)]) hx hb dX2_brookBy_10 hl (by decide) rfl (fun ls hl => ?_)
  obtain ⟨SFL1, hSFL1⟩ : ∃ z, z = (lpu (f_X2_brookBy_L1 V x0) (cN (V.2.1 5)) 0 (0 : Int32)) := ⟨_, rfl⟩
  have hF := kAp_eq hF hSFL1
  refine kb_cut (fun H locs ls => HP G A s.heap (w_O2 G g V) H locs ∧ lv_has ls 6 [(2, .int SFL1), (0, .ref (g 0))]) 75 [] (fun EXL1 => ?_) (fun H locs ls hX => ?_)
  · refine kb_loop (σ := (Int32)) (fun n i x => n + i = (cN (V.2.1 5)) ∧ lpu (f_X2_brookBy_L1 V x0) n i x = SFL1) (fun iL1 x H locs ls => HP G A s.heap (w_O2 G g V) H locs ∧ lv_has ls 6 [(4, .int (nI iL1)), (3, .int (x0 ^^^ (V.2.1 6))), (2, .int x), (0, .ref (g 0))]) (fun iL1 x H locs ls hI hX => ?_) (fun n iL1 x hI ihL1 H locs ls hX => ?_) (cN (V.2.1 5)) 0 (0 : Int32) _ _ _ ⟨Nat.add_zero _, hSFL1.symm⟩ ⟨hH, lv_sub hl [0, 1, 2, 3] rfl⟩
    · obtain ⟨L1a, exL1a⟩ : ∃ z, z = x := ⟨_, rfl⟩
      subst exL1a
      have hH : HP G A s.heap (w_O2 G g V) H locs := hX.1
      have hl : lv_has ls 6 [(4, .int (nI iL1)), (3, .int (x0 ^^^ (V.2.1 6))), (2, .int L1a), (0, .ref (g 0))] := hX.2
      obtain ⟨hiL1, hs⟩ := hI
      have hiL1 : iL1 = (cN (V.2.1 5)) := by omega
      refine lv_iload hx hb dX2_brookBy_12 (lv_at hl 0 rfl) ?_
      refine lv_aload_n hx hb dX2_brookBy_14 rfl (lv_at hl 3 rfl) ?_
      refine kb_get (v := .int (V.2.1 5)) hx hb hts hin2 hown hK hH 0 rfl rfl rfl 5 (by decide) (hts (.fieldLink RX2 27 "CockWar$Hill" "cocks" "I") (List.mem_of_getElem? (i := 2) rfl)) (fun _ h9 => h9) rfl dX2_brookBy_15 ?_
      refine lv_icmp_ge (tgt := 75) hx hb dX2_brookBy_18 (by decide) (fun _ => ?_) (fun c => absurd (cN_end hiL1) c)
      exact EXL1 _ _ _ ⟨by subst hs; exact hH, by subst hs; exact lv_sub hl [2, 3] rfl⟩
    · obtain ⟨L1a, exL1a⟩ : ∃ z, z = x := ⟨_, rfl⟩
      subst exL1a
      have hH : HP G A s.heap (w_O2 G g V) H locs := hX.1
      have hl : lv_has ls 6 [(4, .int (nI iL1)), (3, .int (x0 ^^^ (V.2.1 6))), (2, .int L1a), (0, .ref (g 0))] := hX.2
      obtain ⟨hiL1, hs⟩ := hI
      have hltL1 : iL1 < (cN (V.2.1 5)) := by omega
      obtain ⟨BVL1, hBd⟩ : ∃ z, (f_X2_brookBy_L1 V x0) iL1 L1a = z := ⟨_, rfl⟩
      have hs : lpu (f_X2_brookBy_L1 V x0) n (iL1 + 1) BVL1 = SFL1 := by rw [← hBd]; exact hs
      have hBL1 : (kAp ((if (f_X7_bit (x0 ^^^ (V.2.1 6)) (nI iL1)) = (1 : Int32) then (f_X7_at 6 (V.1 4) (nI iL1)) else (0 : Int32)) : Int32) (fun v5 => (if (f_X7_bit (V.2.1 6) (nI iL1)) = 0 then (L1a + v5) else (L1a + (-v5))))) = BVL1 := hBd
      refine lv_iload hx hb dX2_brookBy_12 (lv_at hl 0 rfl) ?_
      refine lv_aload_n hx hb dX2_brookBy_14 rfl (lv_at hl 3 rfl) ?_
      refine kb_get (v := .int (V.2.1 5)) hx hb hts hin2 hown hK hH 0 rfl rfl rfl 5 (by decide) (hts (.fieldLink RX2 27 "CockWar$Hill" "cocks" "I") (List.mem_of_getElem? (i := 2) rfl)) (fun _ h9 => h9) rfl dX2_brookBy_15 ?_
      refine lv_icmp_ge (tgt := 75) hx hb dX2_brookBy_18 (by decide) (fun c => absurd c (cN_ge hltL1)) (fun c2 => ?_)
      refine lv_iload_n hx hb dX2_brookBy_21 rfl (lv_at hl 1 rfl) ?_
      refine lv_iload hx hb dX2_brookBy_22 (lv_at hl 0 rfl) ?_
      refine kb_ci hH hA [] (Wc := ([] : List va_W)) (Wc' := ([] : List va_W)) (WS' := (w_O2 G g V)) rfl (by decide) rfl rfl (va_runSN (As := [.int (x0 ^^^ (V.2.1 6)), .int (nI iL1)]) (rest := []) ⟨hx, hb, hml, hown, hts⟩ (c_X7_bit l G (x0 ^^^ (V.2.1 6)) (nI iL1) rfl _) ⟨va_cnB 2 hts gX2_brookBy_X7_bit_n58 rfl rfl rfl (kb_NM hN 36 rfl) (hts (.initialized RX7) (List.mem_of_getElem? (i := 6) rfl)) hd_X7_bit ⟨Nat.le_of_ble_eq_true rfl, Nat.le_of_ble_eq_true rfl⟩, (hts (.static yX7_bit) (List.mem_of_getElem? (i := 5) rfl)), trivial⟩ (kb_preS hH hK hN [] rfl (by decide)) rfl rfl hl.1 rfl (lv_room (Nat.le_of_ble_eq_true rfl)) dX2_brookBy_24 ⟨Nat.le_of_ble_eq_true rfl, Nat.le_of_ble_eq_true rfl⟩) (fun H locs hH => ?_)
      refine lv_iconst (v := 1) hx hb dX2_brookBy_27 (by decide) ?_
      obtain ⟨v5, ev5⟩ : ∃ z : Int32, (if (f_X7_bit (x0 ^^^ (V.2.1 6)) (nI iL1)) = (1 : Int32) then (f_X7_at 6 (V.1 4) (nI iL1)) else (0 : Int32)) = z := ⟨_, rfl⟩
      have hBL1 := kAp_eq hBL1 ev5.symm
      refine kb_cut (fun H locs ls => HP G A s.heap (w_O2 G g V) H locs ∧ lv_has ls 6 [(4, .int (nI iL1)), (3, .int (x0 ^^^ (V.2.1 6))), (2, .int L1a), (0, .ref (g 0))]) 44 [.int v5] (fun u3 => ?_) (fun H locs ls hX => ?_)
      · refine lv_icmp_ne (tgt := 43) hx hb dX2_brookBy_28 (by decide) (fun c6 => ?_) (fun c6 => ?_)
        · rw [if_neg c6] at ev5
          refine lv_iconst (v := 0) hx hb dX2_brookBy_43 (by decide) ?_
          subst ev5
          exact u3 _ _ _ ⟨hH, lv_sub hl [0, 1, 2, 3] rfl⟩
        · rw [if_pos c6] at ev5
          refine lv_aload_n hx hb dX2_brookBy_31 rfl (lv_at hl 3 rfl) ?_
          refine kb_get (v := .ref (g 5)) hx hb hts hin2 hown hK hH 0 rfl rfl rfl 4 (by decide) (hts (.fieldLink RX2 24 "CockWar$Hill" "weights" "[I") (List.mem_of_getElem? (i := 3) rfl)) (fun _ h9 => h9) rfl dX2_brookBy_32 ?_
          refine lv_iload hx hb dX2_brookBy_35 (lv_at hl 0 rfl) ?_
          refine kb_ci hH hA [5] (Wc := ([b_arr G (g 5) 6 (V.1 4)])) (Wc' := ([b_arr G (g 5) 6 (V.1 4)])) (WS' := (w_O2 G g V)) rfl (by decide) rfl rfl (va_runSN (As := [.ref (g 5), .int (nI iL1)]) (rest := []) ⟨hx, hb, hml, hown, hts⟩ (c_X7_at l G (g 5) 6 (V.1 4) (nI iL1) (by decide) rfl _) ⟨va_cnB 2 hts gX2_brookBy_X7_at_n54 rfl rfl rfl (kb_NM hN 20 rfl) (hts (.initialized RX7) (List.mem_of_getElem? (i := 6) rfl)) hd_X7_at ⟨Nat.le_of_ble_eq_true rfl, Nat.le_of_ble_eq_true rfl⟩, (hts (.static yX7_at) (List.mem_of_getElem? (i := 8) rfl)), trivial⟩ (kb_preS hH hK hN [5] rfl (by decide)) rfl rfl hl.1 rfl (lv_room (Nat.le_of_ble_eq_true rfl)) dX2_brookBy_37 ⟨Nat.le_of_ble_eq_true rfl, Nat.le_of_ble_eq_true rfl⟩) (fun H locs hH => ?_)
          refine lv_goto (tgt := 44) hx hb dX2_brookBy_40 (by decide) ?_
          subst ev5
          exact u3 _ _ _ ⟨hH, lv_sub hl [0, 1, 2, 3] rfl⟩
      · obtain ⟨hH, hl⟩ := hX
        refine lv_istore (lv' := [(5, .int v5), (4, .int (nI iL1)), (3, .int (x0 ^^^ (V.2.1 6))), (2, .int L1a), (0, .ref (g 0))]) hx hb dX2_brookBy_44 hl (by decide) rfl (fun ls hl => ?_)
        refine lv_iload_n hx hb dX2_brookBy_46 rfl (lv_at hl 3 rfl) ?_
        refine lv_aload_n hx hb dX2_brookBy_47 rfl (lv_at hl 4 rfl) ?_
        refine kb_get (v := .int (V.2.1 6)) hx hb hts hin2 hown hK hH 0 rfl rfl rfl 6 (by decide) (hts (.fieldLink RX2 31 "CockWar$Hill" "parishes" "I") (List.mem_of_getElem? (i := 1) rfl)) (fun _ h9 => h9) rfl dX2_brookBy_48 ?_
        refine lv_iload hx hb dX2_brookBy_51 (lv_at hl 1 rfl) ?_
        refine kb_ci hH hA [] (Wc := ([] : List va_W)) (Wc' := ([] : List va_W)) (WS' := (w_O2 G g V)) rfl (by decide) rfl rfl (va_runSN (As := [.int (V.2.1 6), .int (nI iL1)]) (rest := [.int L1a]) ⟨hx, hb, hml, hown, hts⟩ (c_X7_bit l G (V.2.1 6) (nI iL1) rfl _) ⟨va_cnB 2 hts gX2_brookBy_X7_bit_n58 rfl rfl rfl (kb_NM hN 36 rfl) (hts (.initialized RX7) (List.mem_of_getElem? (i := 6) rfl)) hd_X7_bit ⟨Nat.le_of_ble_eq_true rfl, Nat.le_of_ble_eq_true rfl⟩, (hts (.static yX7_bit) (List.mem_of_getElem? (i := 5) rfl)), trivial⟩ (kb_preS hH hK hN [] rfl (by decide)) rfl rfl hl.1 rfl (lv_room (Nat.le_of_ble_eq_true rfl)) dX2_brookBy_53 ⟨Nat.le_of_ble_eq_true rfl, Nat.le_of_ble_eq_true rfl⟩) (fun H locs hH => ?_)
        refine lv_if_ne (tgt := 64) hx hb dX2_brookBy_56 (by decide) (fun c7 => ?_) (fun c7 => ?_)
        · rw [if_neg c7] at hBL1
          refine lv_iload hx hb dX2_brookBy_64 (lv_at hl 0 rfl) ?_
          refine lv_ineg hx hb dX2_brookBy_66 ?_
          refine lv_iadd hx hb dX2_brookBy_67 ?_
          refine lv_istore_n (lv' := [(2, .int (L1a + (-v5))), (5, .int v5), (4, .int (nI iL1)), (3, .int (x0 ^^^ (V.2.1 6))), (0, .ref (g 0))]) hx hb dX2_brookBy_68 rfl hl (by decide) rfl (fun ls hl => ?_)
          refine lv_iinc (v := (nI (iL1 + 1))) (lv' := [(4, .int (nI (iL1 + 1))), (2, .int (L1a + (-v5))), (5, .int v5), (3, .int (x0 ^^^ (V.2.1 6))), (0, .ref (g 0))]) hx hb dX2_brookBy_69 hl (k := 2) rfl (nI_1 _) (by decide) rfl (fun ls hl => ?_)
          refine lv_goto (tgt := 12) hx hb dX2_brookBy_72 (by decide) ?_
          subst hBL1
          exact ihL1 _ _ _ _ ⟨by omega, hs⟩ ⟨hH, lv_sub hl [0, 3, 1, 4] rfl⟩
        · rw [if_pos c7] at hBL1
          refine lv_iload hx hb dX2_brookBy_59 (lv_at hl 0 rfl) ?_
          refine lv_goto (tgt := 67) hx hb dX2_brookBy_61 (by decide) ?_
          refine lv_iadd hx hb dX2_brookBy_67 ?_
          refine lv_istore_n (lv' := [(2, .int (L1a + v5)), (5, .int v5), (4, .int (nI iL1)), (3, .int (x0 ^^^ (V.2.1 6))), (0, .ref (g 0))]) hx hb dX2_brookBy_68 rfl hl (by decide) rfl (fun ls hl => ?_)
          refine lv_iinc (v := (nI (iL1 + 1))) (lv' := [(4, .int (nI (iL1 + 1))), (2, .int (L1a + v5)), (5, .int v5), (3, .int (x0 ^^^ (V.2.1 6))), (0, .ref (g 0))]) hx hb dX2_brookBy_69 hl (k := 2) rfl (nI_1 _) (by decide) rfl (fun ls hl => ?_)
          refine lv_goto (tgt := 12) hx hb dX2_brookBy_72 (by decide) ?_
          subst hBL1
          exact ihL1 _ _ _ _ ⟨by omega, hs⟩ ⟨hH, lv_sub hl [0, 3, 1, 4] rfl⟩
  · obtain ⟨hH, hl⟩ := hX
    refine lv_iload_n hx hb dX2_brookBy_75 rfl (lv_at hl 0 rfl) ?_
    refine lv_if_ne (tgt := 84) hx hb dX2_brookBy_76 (by decide) (fun c9 => ?_) (fun c9 => ?_)
    · rw [if_neg c9] at hF
      refine lv_iload_n hx hb dX2_brookBy_84 rfl (lv_at hl 0 rfl) ?_
      refine lv_if_le (tgt := 92) hx hb dX2_brookBy_85 (by decide) (fun c10 => ?_) (fun c10 => ?_)
      · rw [if_pos c10] at hF
        refine lv_iconst (v := 1) hx hb dX2_brookBy_92 (by decide) ?_
        subst hF
        exact kb_iret hx hb hr hH rfl rfl dX2_brookBy_93 hlocks
      · rw [if_neg c10] at hF
        refine lv_iconst (v := 0) hx hb dX2_brookBy_88 (by decide) ?_
        refine lv_goto (tgt := 93) hx hb dX2_brookBy_89 (by decide) ?_
        subst hF
        exact kb_iret hx hb hr hH rfl rfl dX2_brookBy_93 hlocks
    · rw [if_pos c9] at hF
      refine lv_aload_n hx hb dX2_brookBy_79 rfl (lv_at hl 1 rfl) ?_
      refine kb_get (v := .int (V.2.1 9)) hx hb hts hin2 hown hK hH 0 rfl rfl rfl 9 (by decide) (hts (.fieldLink RX2 40 "CockWar$Hill" "brook" "I") (List.mem_of_getElem? (i := 4) rfl)) (fun _ h9 => h9) rfl dX2_brookBy_80 ?_
      subst hF
      exact kb_iret hx hb hr hH rfl rfl dX2_brookBy_83 hlocks
def f_X2_weightFor_L1 (V : OV) (x0 : Int32) (iL1 : Nat) (s : (Int32)) : (Int32) := (if (f_X7_bit (V.2.1 6) (nI iL1)) = x0 then (if (f_X7_bit (V.2.1 7) (nI iL1)) = x0 then s else (s + (f_X7_at 6 (V.1 4) (nI iL1)))) else s)
def f_X2_weightFor (V : OV) (x0 : Int32) : (Int32) := (kAp (lpu (f_X2_weightFor_L1 V x0) (cN (V.2.1 5)) 0 (0 : Int32)) (fun z5 => z5))
set_option maxHeartbeats 4000000 in
set_option maxRecDepth 100000 in
theorem c_X2_weightFor (l : Launch) (G : Ge) (g : Nat → Nat) (V : OV) (x0 : Int32) {F : (Int32)} (hF : f_X2_weightFor V x0 = F) : CI l yX2_weightFor wsX2_weightFor { frames := 1, cells := 0, slots := 0, locals := 21 } [.ref (g 0), .int x0] G (w_O2 G g V) (w_O2 G g V) F := by
  intro sz
  refine Met.ofW (cc := cX2_weightFor) (maxL := 4) (ret := (some .int)) (by decide) rfl ?_
  intro p e s m args below meth c s₁ B hml hv
  obtain ⟨rfl, hpre⟩ := hv
  obtain ⟨hsz, hH, hK, hN, hA⟩ := kb_start hpre
  subst hsz
  have hx := B.exec
  have hb := B.bytes
  have hr := B.returns
  have hts := atoms_spec (ws := wsX2_weightFor) B.pre
  have hown : s.vm.findClass RX2 = some m.cls := findClass_of_methodNamed B.named
  have hlocks := B.notSynchronized
  generalize hAe : va_A (List.flatten (w_O2 G g V)) s.heap.size = A at hH hA ⊢
  have hl := lv_entry ([.ref (g 0), .int x0]) (n := 4) (Nat.le_of_ble_eq_true rfl)
  rw [lg_entry_eq]
  generalize (lg_sl ([.ref (g 0), .int x0]) ++ List.replicate (4 - (lg_sl ([.ref (g 0), .int x0])).length) Slot.unset).toArray = ls at hl ⊢
  have hl : lv_has ls 4 [(0, .ref (g 0)), (1, .int x0)] := hl
  have hH : HP G A s.heap (w_O2 G g V) s.heap [] := hH
  have hin2 : ∀ w ∈ u_ws RX2 TX2 11, w ∈ wsX2_weightFor := fun w h => List.mem_cons_of_mem _ (List.mem_append_right _ h)
  have hF : (kAp (lpu (f_X2_weightFor_L1 V x0) (cN (V.2.1 5)) 0 (0 : Int32)) (fun z5 => z5)) = F := hF
  refine lv_iconst (v := 0) hx hb dX2_weightFor_0 (by decide) ?_
  refine lv_istore_n (lv' := [(2, .int (0 : Int32)), (0, .ref (g 0)), (1, .int x0)]) hx hb dX2_weightFor_1 rfl hl (by decide) rfl (fun ls hl => ?_)
  refine lv_iconst (v := 0) hx hb dX2_weightFor_2 (by decide) ?_
  refine lv_istore_n (lv' := [(3, .int (0 : Int32)), (2, .int (0 : Int32)), (0, .ref (g 0)), (1, .int x0)]) hx hb dX2_weightFor_3 rfl hl (by decide) rfl (fun ls hl => ?_)
  obtain ⟨SFL1, hSFL1⟩ : ∃ z, z = (lpu (f_X2_weightFor_L1 V x0) (cN (V.2.1 5)) 0 (0 : Int32)) := ⟨_, rfl⟩
  have hF := kAp_eq hF hSFL1
  refine kb_cut (fun H locs ls => HP G A s.heap (w_O2 G g V) H locs ∧ lv_has ls 4 [(2, .int SFL1)]) 53 [] (fun EXL1 => ?_) (fun H locs ls hX => ?_)
  · refine kb_loop (σ := (Int32)) (fun n i x => n + i = (cN (V.2.1 5)) ∧ lpu (f_X2_weightFor_L1 V x0) n i x = SFL1) (fun iL1 x H locs ls => HP G A s.heap (w_O2 G g V) H locs ∧ lv_has ls 4 [(3, .int (nI iL1)), (2, .int x), (0, .ref (g 0)), (1, .int x0)]) (fun iL1 x H locs ls hI hX => ?_) (fun n iL1 x hI ihL1 H locs ls hX => ?_) (cN (V.2.1 5)) 0 (0 : Int32) _ _ _ ⟨Nat.add_zero _, hSFL1.symm⟩ ⟨hH, lv_sub hl [0, 1, 2, 3] rfl⟩
    · obtain ⟨L1a, exL1a⟩ : ∃ z, z = x := ⟨_, rfl⟩
      subst exL1a
      have hH : HP G A s.heap (w_O2 G g V) H locs := hX.1
      have hl : lv_has ls 4 [(3, .int (nI iL1)), (2, .int L1a), (0, .ref (g 0)), (1, .int x0)] := hX.2
      obtain ⟨hiL1, hs⟩ := hI
      have hiL1 : iL1 = (cN (V.2.1 5)) := by omega
      refine lv_iload_n hx hb dX2_weightFor_4 rfl (lv_at hl 0 rfl) ?_
      refine lv_aload_n hx hb dX2_weightFor_5 rfl (lv_at hl 2 rfl) ?_
      refine kb_get (v := .int (V.2.1 5)) hx hb hts hin2 hown hK hH 0 rfl rfl rfl 5 (by decide) (hts (.fieldLink RX2 27 "CockWar$Hill" "cocks" "I") (List.mem_of_getElem? (i := 1) rfl)) (fun _ h9 => h9) rfl dX2_weightFor_6 ?_
      refine lv_icmp_ge (tgt := 53) hx hb dX2_weightFor_9 (by decide) (fun _ => ?_) (fun c => absurd (cN_end hiL1) c)
      exact EXL1 _ _ _ ⟨by subst hs; exact hH, by subst hs; exact lv_sub hl [1] rfl⟩
    · obtain ⟨L1a, exL1a⟩ : ∃ z, z = x := ⟨_, rfl⟩
      subst exL1a
      have hH : HP G A s.heap (w_O2 G g V) H locs := hX.1
      have hl : lv_has ls 4 [(3, .int (nI iL1)), (2, .int L1a), (0, .ref (g 0)), (1, .int x0)] := hX.2
      obtain ⟨hiL1, hs⟩ := hI
      have hltL1 : iL1 < (cN (V.2.1 5)) := by omega
      obtain ⟨BVL1, hBd⟩ : ∃ z, (f_X2_weightFor_L1 V x0) iL1 L1a = z := ⟨_, rfl⟩
      have hs : lpu (f_X2_weightFor_L1 V x0) n (iL1 + 1) BVL1 = SFL1 := by rw [← hBd]; exact hs
      have hBL1 : (if (f_X7_bit (V.2.1 6) (nI iL1)) = x0 then (if (f_X7_bit (V.2.1 7) (nI iL1)) = x0 then L1a else (L1a + (f_X7_at 6 (V.1 4) (nI iL1)))) else L1a) = BVL1 := hBd
      refine lv_iload_n hx hb dX2_weightFor_4 rfl (lv_at hl 0 rfl) ?_
      refine lv_aload_n hx hb dX2_weightFor_5 rfl (lv_at hl 2 rfl) ?_
      refine kb_get (v := .int (V.2.1 5)) hx hb hts hin2 hown hK hH 0 rfl rfl rfl 5 (by decide) (hts (.fieldLink RX2 27 "CockWar$Hill" "cocks" "I") (List.mem_of_getElem? (i := 1) rfl)) (fun _ h9 => h9) rfl dX2_weightFor_6 ?_
      refine lv_icmp_ge (tgt := 53) hx hb dX2_weightFor_9 (by decide) (fun c => absurd c (cN_ge hltL1)) (fun c2 => ?_)
      refine lv_aload_n hx hb dX2_weightFor_12 rfl (lv_at hl 2 rfl) ?_
      refine kb_get (v := .int (V.2.1 6)) hx hb hts hin2 hown hK hH 0 rfl rfl rfl 6 (by decide) (hts (.fieldLink RX2 31 "CockWar$Hill" "parishes" "I") (List.mem_of_getElem? (i := 2) rfl)) (fun _ h9 => h9) rfl dX2_weightFor_13 ?_
      refine lv_iload_n hx hb dX2_weightFor_16 rfl (lv_at hl 0 rfl) ?_
      refine kb_ci hH hA [] (Wc := ([] : List va_W)) (Wc' := ([] : List va_W)) (WS' := (w_O2 G g V)) rfl (by decide) rfl rfl (va_runSN (As := [.int (V.2.1 6), .int (nI iL1)]) (rest := []) ⟨hx, hb, hml, hown, hts⟩ (c_X7_bit l G (V.2.1 6) (nI iL1) rfl _) ⟨va_cnB 2 hts gX2_weightFor_X7_bit_n58 rfl rfl rfl (kb_NM hN 36 rfl) (hts (.initialized RX7) (List.mem_of_getElem? (i := 6) rfl)) hd_X7_bit ⟨Nat.le_of_ble_eq_true rfl, Nat.le_of_ble_eq_true rfl⟩, (hts (.static yX7_bit) (List.mem_of_getElem? (i := 5) rfl)), trivial⟩ (kb_preS hH hK hN [] rfl (by decide)) rfl rfl hl.1 rfl (lv_room (Nat.le_of_ble_eq_true rfl)) dX2_weightFor_17 ⟨Nat.le_of_ble_eq_true rfl, Nat.le_of_ble_eq_true rfl⟩) (fun H locs hH => ?_)
      refine lv_iload_n hx hb dX2_weightFor_20 rfl (lv_at hl 3 rfl) ?_
      refine lv_icmp_ne (tgt := 47) hx hb dX2_weightFor_21 (by decide) (fun c3 => ?_) (fun c3 => ?_)
      · rw [if_neg c3] at hBL1
        refine lv_iinc (v := (nI (iL1 + 1))) (lv' := [(3, .int (nI (iL1 + 1))), (2, .int L1a), (0, .ref (g 0)), (1, .int x0)]) hx hb dX2_weightFor_47 hl (k := 0) rfl (nI_1 _) (by decide) rfl (fun ls hl => ?_)
        refine lv_goto (tgt := 4) hx hb dX2_weightFor_50 (by decide) ?_
        subst hBL1
        exact ihL1 _ _ _ _ ⟨by omega, hs⟩ ⟨hH, lv_sub hl [0, 1, 2, 3] rfl⟩
      · rw [if_pos c3] at hBL1
        refine lv_aload_n hx hb dX2_weightFor_24 rfl (lv_at hl 2 rfl) ?_
        refine kb_get (v := .int (V.2.1 7)) hx hb hts hin2 hown hK hH 0 rfl rfl rfl 7 (by decide) (hts (.fieldLink RX2 34 "CockWar$Hill" "ways" "I") (List.mem_of_getElem? (i := 3) rfl)) (fun _ h9 => h9) rfl dX2_weightFor_25 ?_
        refine lv_iload_n hx hb dX2_weightFor_28 rfl (lv_at hl 0 rfl) ?_
        refine kb_ci hH hA [] (Wc := ([] : List va_W)) (Wc' := ([] : List va_W)) (WS' := (w_O2 G g V)) rfl (by decide) rfl rfl (va_runSN (As := [.int (V.2.1 7), .int (nI iL1)]) (rest := []) ⟨hx, hb, hml, hown, hts⟩ (c_X7_bit l G (V.2.1 7) (nI iL1) rfl _) ⟨va_cnB 2 hts gX2_weightFor_X7_bit_n58 rfl rfl rfl (kb_NM hN 36 rfl) (hts (.initialized RX7) (List.mem_of_getElem? (i := 6) rfl)) hd_X7_bit ⟨Nat.le_of_ble_eq_true rfl, Nat.le_of_ble_eq_true rfl⟩, (hts (.static yX7_bit) (List.mem_of_getElem? (i := 5) rfl)), trivial⟩ (kb_preS hH hK hN [] rfl (by decide)) rfl rfl hl.1 rfl (lv_room (Nat.le_of_ble_eq_true rfl)) dX2_weightFor_29 ⟨Nat.le_of_ble_eq_true rfl, Nat.le_of_ble_eq_true rfl⟩) (fun H locs hH => ?_)
        refine lv_iload_n hx hb dX2_weightFor_32 rfl (lv_at hl 3 rfl) ?_
        refine lv_icmp_eq (tgt := 47) hx hb dX2_weightFor_33 (by decide) (fun c4 => ?_) (fun c4 => ?_)
        · rw [if_pos c4] at hBL1
          refine lv_iinc (v := (nI (iL1 + 1))) (lv' := [(3, .int (nI (iL1 + 1))), (2, .int L1a), (0, .ref (g 0)), (1, .int x0)]) hx hb dX2_weightFor_47 hl (k := 0) rfl (nI_1 _) (by decide) rfl (fun ls hl => ?_)
          refine lv_goto (tgt := 4) hx hb dX2_weightFor_50 (by decide) ?_
          subst hBL1
          exact ihL1 _ _ _ _ ⟨by omega, hs⟩ ⟨hH, lv_sub hl [0, 1, 2, 3] rfl⟩
        · rw [if_neg c4] at hBL1
          refine lv_iload_n hx hb dX2_weightFor_36 rfl (lv_at hl 1 rfl) ?_
          refine lv_aload_n hx hb dX2_weightFor_37 rfl (lv_at hl 2 rfl) ?_
          refine kb_get (v := .ref (g 5)) hx hb hts hin2 hown hK hH 0 rfl rfl rfl 4 (by decide) (hts (.fieldLink RX2 24 "CockWar$Hill" "weights" "[I") (List.mem_of_getElem? (i := 4) rfl)) (fun _ h9 => h9) rfl dX2_weightFor_38 ?_
          refine lv_iload_n hx hb dX2_weightFor_41 rfl (lv_at hl 0 rfl) ?_
          refine kb_ci hH hA [5] (Wc := ([b_arr G (g 5) 6 (V.1 4)])) (Wc' := ([b_arr G (g 5) 6 (V.1 4)])) (WS' := (w_O2 G g V)) rfl (by decide) rfl rfl (va_runSN (As := [.ref (g 5), .int (nI iL1)]) (rest := [.int L1a]) ⟨hx, hb, hml, hown, hts⟩ (c_X7_at l G (g 5) 6 (V.1 4) (nI iL1) (by decide) rfl _) ⟨va_cnB 2 hts gX2_weightFor_X7_at_n54 rfl rfl rfl (kb_NM hN 20 rfl) (hts (.initialized RX7) (List.mem_of_getElem? (i := 6) rfl)) hd_X7_at ⟨Nat.le_of_ble_eq_true rfl, Nat.le_of_ble_eq_true rfl⟩, (hts (.static yX7_at) (List.mem_of_getElem? (i := 8) rfl)), trivial⟩ (kb_preS hH hK hN [5] rfl (by decide)) rfl rfl hl.1 rfl (lv_room (Nat.le_of_ble_eq_true rfl)) dX2_weightFor_42 ⟨Nat.le_of_ble_eq_true rfl, Nat.le_of_ble_eq_true rfl⟩) (fun H locs hH => ?_)
          refine lv_iadd hx hb dX2_weightFor_45 ?_
          refine lv_istore_n (lv' := [(2, .int (L1a + (f_X7_at 6 (V.1 4) (nI iL1)))), (3, .int (nI iL1)), (0, .ref (g 0)), (1, .int x0)]) hx hb dX2_weightFor_46 rfl hl (by decide) rfl (fun ls hl => ?_)
          refine lv_iinc (v := (nI (iL1 + 1))) (lv' := [(3, .int (nI (iL1 + 1))), (2, .int (L1a + (f_X7_at 6 (V.1 4) (nI iL1)))), (0, .ref (g 0)), (1, .int x0)]) hx hb dX2_weightFor_47 hl (k := 1) rfl (nI_1 _) (by decide) rfl (fun ls hl => ?_)
          refine lv_goto (tgt := 4) hx hb dX2_weightFor_50 (by decide) ?_
          subst hBL1
          exact ihL1 _ _ _ _ ⟨by omega, hs⟩ ⟨hH, lv_sub hl [0, 1, 2, 3] rfl⟩
  · obtain ⟨hH, hl⟩ := hX
    refine lv_iload_n hx hb dX2_weightFor_53 rfl (lv_at hl 0 rfl) ?_
    subst hF
    exact kb_iret hx hb hr hH rfl rfl dX2_weightFor_54 hlocks
def f_X2_copyFrom (V : OV) (V_p0 : OV) : (OV) := (kAp (f_X7_copyRow 10 (V_p0.1 0) 10 (V.1 0)) (fun q1 => (kAp (f_X7_copyRow 6 (V_p0.1 1) 6 (V.1 1)) (fun q2 => (kAp (f_X7_copyRow 6 (V_p0.1 2) 6 (V.1 2)) (fun q3 => (kAp (f_X7_copyRow 6 (V_p0.1 3) 6 (V.1 3)) (fun q4 => (kAp (f_X7_copyRow 6 (V_p0.1 4) 6 (V.1 4)) (fun q5 => (oI (oI (oI (oI (oI (oI (oA (oA (oA (oA (oA V 0 q1) 1 q2) 2 q3) 3 q4) 4 q5) 5 (V_p0.2.1 5)) 6 (V_p0.2.1 6)) 7 (V_p0.2.1 7)) 8 (V_p0.2.1 8)) 9 (V_p0.2.1 9)) 10 (V_p0.2.1 10))))))))))))
set_option maxHeartbeats 4000000 in
set_option maxRecDepth 100000 in
theorem c_X2_copyFrom (l : Launch) (G : Ge) (g : Nat → Nat) (V : OV) (g_p0 : Nat → Nat) (V_p0 : OV) {F : (OV)} (hF : f_X2_copyFrom V V_p0 = F) : CV l yX2_copyFrom wsX2_copyFrom { frames := 1, cells := 0, slots := 0, locals := 22 } [.ref (g 0), .ref (g_p0 0)] G (w_O2 G g V ++ w_O2 G g_p0 V_p0) (w_O2 G g F ++ w_O2 G g_p0 V_p0) := by
  intro sz
  refine Met.ofW (cc := cX2_copyFrom) (maxL := 2) (ret := none) (by decide) rfl ?_
  intro p e s m args below meth c s₁ B hml hv
  obtain ⟨rfl, hpre⟩ := hv
  obtain ⟨hsz, hH, hK, hN, hA⟩ := kb_start hpre
  subst hsz
  have hx := B.exec
  have hb := B.bytes
  have hr := B.returns
  have hts := atoms_spec (ws := wsX2_copyFrom) B.pre
  have hown : s.vm.findClass RX2 = some m.cls := findClass_of_methodNamed B.named
  have hlocks := B.notSynchronized
  generalize hAe : va_A (List.flatten (w_O2 G g V ++ w_O2 G g_p0 V_p0)) s.heap.size = A at hH hA ⊢
  have hl := lv_entry ([.ref (g 0), .ref (g_p0 0)]) (n := 2) (Nat.le_of_ble_eq_true rfl)
  rw [lg_entry_eq]
  generalize (lg_sl ([.ref (g 0), .ref (g_p0 0)]) ++ List.replicate (2 - (lg_sl ([.ref (g 0), .ref (g_p0 0)])).length) Slot.unset).toArray = ls at hl ⊢
  have hl : lv_has ls 2 [(0, .ref (g 0)), (1, .ref (g_p0 0))] := hl
  have hH : HP G A s.heap (w_O2 G g V ++ w_O2 G g_p0 V_p0) s.heap [] := hH
  have hin2 : ∀ w ∈ u_ws RX2 TX2 11, w ∈ wsX2_copyFrom := fun w h => List.mem_cons_of_mem _ (List.mem_append_right _ h)
  have hF : (kAp (f_X7_copyRow 10 (V_p0.1 0) 10 (V.1 0)) (fun q1 => (kAp (f_X7_copyRow 6 (V_p0.1 1) 6 (V.1 1)) (fun q2 => (kAp (f_X7_copyRow 6 (V_p0.1 2) 6 (V.1 2)) (fun q3 => (kAp (f_X7_copyRow 6 (V_p0.1 3) 6 (V.1 3)) (fun q4 => (kAp (f_X7_copyRow 6 (V_p0.1 4) 6 (V.1 4)) (fun q5 => (oI (oI (oI (oI (oI (oI (oA (oA (oA (oA (oA V 0 q1) 1 q2) 2 q3) 3 q4) 4 q5) 5 (V_p0.2.1 5)) 6 (V_p0.2.1 6)) 7 (V_p0.2.1 7)) 8 (V_p0.2.1 8)) 9 (V_p0.2.1 9)) 10 (V_p0.2.1 10)))))))))))) = F := hF
  refine lv_aload_n hx hb dX2_copyFrom_0 rfl (lv_at hl 1 rfl) ?_
  refine kb_get (v := .ref (g_p0 1)) hx hb hts hin2 hown hK hH 6 rfl rfl rfl 0 (by decide) (hts (.fieldLink RX2 9 "CockWar$Hill" "trees" "[I") (List.mem_of_getElem? (i := 1) rfl)) (fun _ h9 => h9) rfl dX2_copyFrom_1 ?_
  refine lv_aload_n hx hb dX2_copyFrom_4 rfl (lv_at hl 0 rfl) ?_
  refine kb_get (v := .ref (g 1)) hx hb hts hin2 hown hK hH 0 rfl rfl rfl 0 (by decide) (hts (.fieldLink RX2 9 "CockWar$Hill" "trees" "[I") (List.mem_of_getElem? (i := 1) rfl)) (fun _ h9 => h9) rfl dX2_copyFrom_5 ?_
  obtain ⟨q1, hq1⟩ : ∃ z, z = (f_X7_copyRow 10 (V_p0.1 0) 10 (V.1 0)) := ⟨_, rfl⟩
  have hF := kAp_eq hF hq1
  refine kb_cv hH hA [7, 1] (Wc := ([b_arr G (g_p0 1) 10 (V_p0.1 0)] ++ [b_arr G (g 1) 10 (V.1 0)])) (Wc' := ([b_arr G (g_p0 1) 10 (V_p0.1 0)] ++ [b_arr G (g 1) 10 q1])) (WS' := (w_O2 G g (oA V 0 q1) ++ w_O2 G g_p0 V_p0)) rfl (by decide) rfl rfl (va_runSN (As := [.ref (g_p0 1), .ref (g 1)]) (rest := []) ⟨hx, hb, hml, hown, hts⟩ (c_X7_copyRow l G (g_p0 1) 10 (V_p0.1 0) (g 1) 10 (V.1 0) (by decide) (by decide) hq1.symm _) ⟨va_cnB 2 hts gX2_copyFrom_X7_copyRow_n46 rfl rfl rfl (kb_NM hN 26 rfl) (hts (.initialized RX7) (List.mem_of_getElem? (i := 13) rfl)) hd_X7_copyRow ⟨Nat.le_of_ble_eq_true rfl, Nat.le_of_ble_eq_true rfl⟩, (hts (.static yX7_copyRow) (List.mem_of_getElem? (i := 12) rfl)), trivial⟩ (kb_preS hH hK hN [7, 1] rfl (by decide)) rfl rfl hl.1 rfl (lv_room (Nat.le_of_ble_eq_true rfl)) dX2_copyFrom_8 ⟨Nat.le_of_ble_eq_true rfl, Nat.le_of_ble_eq_true rfl⟩) (fun H locs hH => ?_)
  refine lv_aload_n hx hb dX2_copyFrom_11 rfl (lv_at hl 1 rfl) ?_
  refine kb_get (v := .ref (g_p0 2)) hx hb hts hin2 hown hK hH 6 rfl rfl rfl 1 (by decide) (hts (.fieldLink RX2 15 "CockWar$Hill" "cells" "[I") (List.mem_of_getElem? (i := 2) rfl)) (fun _ h9 => h9) rfl dX2_copyFrom_12 ?_
  refine lv_aload_n hx hb dX2_copyFrom_15 rfl (lv_at hl 0 rfl) ?_
  refine kb_get (v := .ref (g 2)) hx hb hts hin2 hown hK hH 0 rfl rfl rfl 1 (by decide) (hts (.fieldLink RX2 15 "CockWar$Hill" "cells" "[I") (List.mem_of_getElem? (i := 2) rfl)) (fun _ h9 => h9) rfl dX2_copyFrom_16 ?_
  obtain ⟨q2, hq2⟩ : ∃ z, z = (f_X7_copyRow 6 (V_p0.1 1) 6 (V.1 1)) := ⟨_, rfl⟩
  have hF := kAp_eq hF hq2
  refine kb_cv hH hA [8, 2] (Wc := ([b_arr G (g_p0 2) 6 (V_p0.1 1)] ++ [b_arr G (g 2) 6 (V.1 1)])) (Wc' := ([b_arr G (g_p0 2) 6 (V_p0.1 1)] ++ [b_arr G (g 2) 6 q2])) (WS' := (w_O2 G g (oA (oA V 0 q1) 1 q2) ++ w_O2 G g_p0 V_p0)) rfl (by decide) rfl rfl (va_runSN (As := [.ref (g_p0 2), .ref (g 2)]) (rest := []) ⟨hx, hb, hml, hown, hts⟩ (c_X7_copyRow l G (g_p0 2) 6 (V_p0.1 1) (g 2) 6 (V.1 1) (by decide) (by decide) hq2.symm _) ⟨va_cnB 2 hts gX2_copyFrom_X7_copyRow_n46 rfl rfl rfl (kb_NM hN 26 rfl) (hts (.initialized RX7) (List.mem_of_getElem? (i := 13) rfl)) hd_X7_copyRow ⟨Nat.le_of_ble_eq_true rfl, Nat.le_of_ble_eq_true rfl⟩, (hts (.static yX7_copyRow) (List.mem_of_getElem? (i := 12) rfl)), trivial⟩ (kb_preS hH hK hN [8, 2] rfl (by decide)) rfl rfl hl.1 rfl (lv_room (Nat.le_of_ble_eq_true rfl)) dX2_copyFrom_19 ⟨Nat.le_of_ble_eq_true rfl, Nat.le_of_ble_eq_true rfl⟩) (fun H locs hH => ?_)
  refine lv_aload_n hx hb dX2_copyFrom_22 rfl (lv_at hl 1 rfl) ?_
  refine kb_get (v := .ref (g_p0 3)) hx hb hts hin2 hown hK hH 6 rfl rfl rfl 2 (by decide) (hts (.fieldLink RX2 18 "CockWar$Hill" "heights" "[I") (List.mem_of_getElem? (i := 3) rfl)) (fun _ h9 => h9) rfl dX2_copyFrom_23 ?_
  refine lv_aload_n hx hb dX2_copyFrom_26 rfl (lv_at hl 0 rfl) ?_
  refine kb_get (v := .ref (g 3)) hx hb hts hin2 hown hK hH 0 rfl rfl rfl 2 (by decide) (hts (.fieldLink RX2 18 "CockWar$Hill" "heights" "[I") (List.mem_of_getElem? (i := 3) rfl)) (fun _ h9 => h9) rfl dX2_copyFrom_27 ?_
  obtain ⟨q3, hq3⟩ : ∃ z, z = (f_X7_copyRow 6 (V_p0.1 2) 6 (V.1 2)) := ⟨_, rfl⟩
  have hF := kAp_eq hF hq3
  refine kb_cv hH hA [9, 3] (Wc := ([b_arr G (g_p0 3) 6 (V_p0.1 2)] ++ [b_arr G (g 3) 6 (V.1 2)])) (Wc' := ([b_arr G (g_p0 3) 6 (V_p0.1 2)] ++ [b_arr G (g 3) 6 q3])) (WS' := (w_O2 G g (oA (oA (oA V 0 q1) 1 q2) 2 q3) ++ w_O2 G g_p0 V_p0)) rfl (by decide) rfl rfl (va_runSN (As := [.ref (g_p0 3), .ref (g 3)]) (rest := []) ⟨hx, hb, hml, hown, hts⟩ (c_X7_copyRow l G (g_p0 3) 6 (V_p0.1 2) (g 3) 6 (V.1 2) (by decide) (by decide) hq3.symm _) ⟨va_cnB 2 hts gX2_copyFrom_X7_copyRow_n46 rfl rfl rfl (kb_NM hN 26 rfl) (hts (.initialized RX7) (List.mem_of_getElem? (i := 13) rfl)) hd_X7_copyRow ⟨Nat.le_of_ble_eq_true rfl, Nat.le_of_ble_eq_true rfl⟩, (hts (.static yX7_copyRow) (List.mem_of_getElem? (i := 12) rfl)), trivial⟩ (kb_preS hH hK hN [9, 3] rfl (by decide)) rfl rfl hl.1 rfl (lv_room (Nat.le_of_ble_eq_true rfl)) dX2_copyFrom_30 ⟨Nat.le_of_ble_eq_true rfl, Nat.le_of_ble_eq_true rfl⟩) (fun H locs hH => ?_)
  refine lv_aload_n hx hb dX2_copyFrom_33 rfl (lv_at hl 1 rfl) ?_
  refine kb_get (v := .ref (g_p0 4)) hx hb hts hin2 hown hK hH 6 rfl rfl rfl 3 (by decide) (hts (.fieldLink RX2 21 "CockWar$Hill" "rusts" "[I") (List.mem_of_getElem? (i := 4) rfl)) (fun _ h9 => h9) rfl dX2_copyFrom_34 ?_
  refine lv_aload_n hx hb dX2_copyFrom_37 rfl (lv_at hl 0 rfl) ?_
  refine kb_get (v := .ref (g 4)) hx hb hts hin2 hown hK hH 0 rfl rfl rfl 3 (by decide) (hts (.fieldLink RX2 21 "CockWar$Hill" "rusts" "[I") (List.mem_of_getElem? (i := 4) rfl)) (fun _ h9 => h9) rfl dX2_copyFrom_38 ?_
  obtain ⟨q4, hq4⟩ : ∃ z, z = (f_X7_copyRow 6 (V_p0.1 3) 6 (V.1 3)) := ⟨_, rfl⟩
  have hF := kAp_eq hF hq4
  refine kb_cv hH hA [10, 4] (Wc := ([b_arr G (g_p0 4) 6 (V_p0.1 3)] ++ [b_arr G (g 4) 6 (V.1 3)])) (Wc' := ([b_arr G (g_p0 4) 6 (V_p0.1 3)] ++ [b_arr G (g 4) 6 q4])) (WS' := (w_O2 G g (oA (oA (oA (oA V 0 q1) 1 q2) 2 q3) 3 q4) ++ w_O2 G g_p0 V_p0)) rfl (by decide) rfl rfl (va_runSN (As := [.ref (g_p0 4), .ref (g 4)]) (rest := []) ⟨hx, hb, hml, hown, hts⟩ (c_X7_copyRow l G (g_p0 4) 6 (V_p0.1 3) (g 4) 6 (V.1 3) (by decide) (by decide) hq4.symm _) ⟨va_cnB 2 hts gX2_copyFrom_X7_copyRow_n46 rfl rfl rfl (kb_NM hN 26 rfl) (hts (.initialized RX7) (List.mem_of_getElem? (i := 13) rfl)) hd_X7_copyRow ⟨Nat.le_of_ble_eq_true rfl, Nat.le_of_ble_eq_true rfl⟩, (hts (.static yX7_copyRow) (List.mem_of_getElem? (i := 12) rfl)), trivial⟩ (kb_preS hH hK hN [10, 4] rfl (by decide)) rfl rfl hl.1 rfl (lv_room (Nat.le_of_ble_eq_true rfl)) dX2_copyFrom_41 ⟨Nat.le_of_ble_eq_true rfl, Nat.le_of_ble_eq_true rfl⟩) (fun H locs hH => ?_)
  refine lv_aload_n hx hb dX2_copyFrom_44 rfl (lv_at hl 1 rfl) ?_
  refine kb_get (v := .ref (g_p0 5)) hx hb hts hin2 hown hK hH 6 rfl rfl rfl 4 (by decide) (hts (.fieldLink RX2 24 "CockWar$Hill" "weights" "[I") (List.mem_of_getElem? (i := 5) rfl)) (fun _ h9 => h9) rfl dX2_copyFrom_45 ?_
  refine lv_aload_n hx hb dX2_copyFrom_48 rfl (lv_at hl 0 rfl) ?_
  refine kb_get (v := .ref (g 5)) hx hb hts hin2 hown hK hH 0 rfl rfl rfl 4 (by decide) (hts (.fieldLink RX2 24 "CockWar$Hill" "weights" "[I") (List.mem_of_getElem? (i := 5) rfl)) (fun _ h9 => h9) rfl dX2_copyFrom_49 ?_
  obtain ⟨q5, hq5⟩ : ∃ z, z = (f_X7_copyRow 6 (V_p0.1 4) 6 (V.1 4)) := ⟨_, rfl⟩
  have hF := kAp_eq hF hq5
  refine kb_cv hH hA [11, 5] (Wc := ([b_arr G (g_p0 5) 6 (V_p0.1 4)] ++ [b_arr G (g 5) 6 (V.1 4)])) (Wc' := ([b_arr G (g_p0 5) 6 (V_p0.1 4)] ++ [b_arr G (g 5) 6 q5])) (WS' := (w_O2 G g (oA (oA (oA (oA (oA V 0 q1) 1 q2) 2 q3) 3 q4) 4 q5) ++ w_O2 G g_p0 V_p0)) rfl (by decide) rfl rfl (va_runSN (As := [.ref (g_p0 5), .ref (g 5)]) (rest := []) ⟨hx, hb, hml, hown, hts⟩ (c_X7_copyRow l G (g_p0 5) 6 (V_p0.1 4) (g 5) 6 (V.1 4) (by decide) (by decide) hq5.symm _) ⟨va_cnB 2 hts gX2_copyFrom_X7_copyRow_n46 rfl rfl rfl (kb_NM hN 26 rfl) (hts (.initialized RX7) (List.mem_of_getElem? (i := 13) rfl)) hd_X7_copyRow ⟨Nat.le_of_ble_eq_true rfl, Nat.le_of_ble_eq_true rfl⟩, (hts (.static yX7_copyRow) (List.mem_of_getElem? (i := 12) rfl)), trivial⟩ (kb_preS hH hK hN [11, 5] rfl (by decide)) rfl rfl hl.1 rfl (lv_room (Nat.le_of_ble_eq_true rfl)) dX2_copyFrom_52 ⟨Nat.le_of_ble_eq_true rfl, Nat.le_of_ble_eq_true rfl⟩) (fun H locs hH => ?_)
  refine lv_aload_n hx hb dX2_copyFrom_55 rfl (lv_at hl 0 rfl) ?_
  refine lv_aload_n hx hb dX2_copyFrom_56 rfl (lv_at hl 1 rfl) ?_
  refine kb_get (v := .int (V_p0.2.1 5)) hx hb hts hin2 hown hK hH 6 rfl rfl rfl 5 (by decide) (hts (.fieldLink RX2 27 "CockWar$Hill" "cocks" "I") (List.mem_of_getElem? (i := 6) rfl)) (fun _ h9 => h9) rfl dX2_copyFrom_57 ?_
  refine kb_put (ty := .int) (v := .int (V_p0.2.1 5)) (WS' := (w_O2 G g (oI (oA (oA (oA (oA (oA V 0 q1) 1 q2) 2 q3) 3 q4) 4 q5) 5 (V_p0.2.1 5)) ++ w_O2 G g_p0 V_p0)) hx hb hts hin2 tyX2 tyX2_ok nmX2 hown hK hH 0 rfl rfl 5 (by decide) (hts (.fieldLink RX2 27 "CockWar$Hill" "cocks" "I") (List.mem_of_getElem? (i := 6) rfl)) (fun _ h9 => h9) rfl (by decide +kernel) rfl rfl (Nat.le_of_ble_eq_true rfl) rfl dX2_copyFrom_60 (fun H locs hH => ?_)
  refine lv_aload_n hx hb dX2_copyFrom_63 rfl (lv_at hl 0 rfl) ?_
  refine lv_aload_n hx hb dX2_copyFrom_64 rfl (lv_at hl 1 rfl) ?_
  refine kb_get (v := .int (V_p0.2.1 6)) hx hb hts hin2 hown hK hH 6 rfl rfl rfl 6 (by decide) (hts (.fieldLink RX2 31 "CockWar$Hill" "parishes" "I") (List.mem_of_getElem? (i := 7) rfl)) (fun _ h9 => h9) rfl dX2_copyFrom_65 ?_
  refine kb_put (ty := .int) (v := .int (V_p0.2.1 6)) (WS' := (w_O2 G g (oI (oI (oA (oA (oA (oA (oA V 0 q1) 1 q2) 2 q3) 3 q4) 4 q5) 5 (V_p0.2.1 5)) 6 (V_p0.2.1 6)) ++ w_O2 G g_p0 V_p0)) hx hb hts hin2 tyX2 tyX2_ok nmX2 hown hK hH 0 rfl rfl 6 (by decide) (hts (.fieldLink RX2 31 "CockWar$Hill" "parishes" "I") (List.mem_of_getElem? (i := 7) rfl)) (fun _ h9 => h9) rfl (by decide +kernel) rfl rfl (Nat.le_of_ble_eq_true rfl) rfl dX2_copyFrom_68 (fun H locs hH => ?_)
  refine lv_aload_n hx hb dX2_copyFrom_71 rfl (lv_at hl 0 rfl) ?_
  refine lv_aload_n hx hb dX2_copyFrom_72 rfl (lv_at hl 1 rfl) ?_
  refine kb_get (v := .int (V_p0.2.1 7)) hx hb hts hin2 hown hK hH 6 rfl rfl rfl 7 (by decide) (hts (.fieldLink RX2 34 "CockWar$Hill" "ways" "I") (List.mem_of_getElem? (i := 8) rfl)) (fun _ h9 => h9) rfl dX2_copyFrom_73 ?_
  refine kb_put (ty := .int) (v := .int (V_p0.2.1 7)) (WS' := (w_O2 G g (oI (oI (oI (oA (oA (oA (oA (oA V 0 q1) 1 q2) 2 q3) 3 q4) 4 q5) 5 (V_p0.2.1 5)) 6 (V_p0.2.1 6)) 7 (V_p0.2.1 7)) ++ w_O2 G g_p0 V_p0)) hx hb hts hin2 tyX2 tyX2_ok nmX2 hown hK hH 0 rfl rfl 7 (by decide) (hts (.fieldLink RX2 34 "CockWar$Hill" "ways" "I") (List.mem_of_getElem? (i := 8) rfl)) (fun _ h9 => h9) rfl (by decide +kernel) rfl rfl (Nat.le_of_ble_eq_true rfl) rfl dX2_copyFrom_76 (fun H locs hH => ?_)
  refine lv_aload_n hx hb dX2_copyFrom_79 rfl (lv_at hl 0 rfl) ?_
  refine lv_aload_n hx hb dX2_copyFrom_80 rfl (lv_at hl 1 rfl) ?_
  refine kb_get (v := .int (V_p0.2.1 8)) hx hb hts hin2 hown hK hH 6 rfl rfl rfl 8 (by decide) (hts (.fieldLink RX2 37 "CockWar$Hill" "held" "I") (List.mem_of_getElem? (i := 9) rfl)) (fun _ h9 => h9) rfl dX2_copyFrom_81 ?_
  refine kb_put (ty := .int) (v := .int (V_p0.2.1 8)) (WS' := (w_O2 G g (oI (oI (oI (oI (oA (oA (oA (oA (oA V 0 q1) 1 q2) 2 q3) 3 q4) 4 q5) 5 (V_p0.2.1 5)) 6 (V_p0.2.1 6)) 7 (V_p0.2.1 7)) 8 (V_p0.2.1 8)) ++ w_O2 G g_p0 V_p0)) hx hb hts hin2 tyX2 tyX2_ok nmX2 hown hK hH 0 rfl rfl 8 (by decide) (hts (.fieldLink RX2 37 "CockWar$Hill" "held" "I") (List.mem_of_getElem? (i := 9) rfl)) (fun _ h9 => h9) rfl (by decide +kernel) rfl rfl (Nat.le_of_ble_eq_true rfl) rfl dX2_copyFrom_84 (fun H locs hH => ?_)
  refine lv_aload_n hx hb dX2_copyFrom_87 rfl (lv_at hl 0 rfl) ?_
  refine lv_aload_n hx hb dX2_copyFrom_88 rfl (lv_at hl 1 rfl) ?_
  refine kb_get (v := .int (V_p0.2.1 9)) hx hb hts hin2 hown hK hH 6 rfl rfl rfl 9 (by decide) (hts (.fieldLink RX2 40 "CockWar$Hill" "brook" "I") (List.mem_of_getElem? (i := 10) rfl)) (fun _ h9 => h9) rfl dX2_copyFrom_89 ?_
  refine kb_put (ty := .int) (v := .int (V_p0.2.1 9)) (WS' := (w_O2 G g (oI (oI (oI (oI (oI (oA (oA (oA (oA (oA V 0 q1) 1 q2) 2 q3) 3 q4) 4 q5) 5 (V_p0.2.1 5)) 6 (V_p0.2.1 6)) 7 (V_p0.2.1 7)) 8 (V_p0.2.1 8)) 9 (V_p0.2.1 9)) ++ w_O2 G g_p0 V_p0)) hx hb hts hin2 tyX2 tyX2_ok nmX2 hown hK hH 0 rfl rfl 9 (by decide) (hts (.fieldLink RX2 40 "CockWar$Hill" "brook" "I") (List.mem_of_getElem? (i := 10) rfl)) (fun _ h9 => h9) rfl (by decide +kernel) rfl rfl (Nat.le_of_ble_eq_true rfl) rfl dX2_copyFrom_92 (fun H locs hH => ?_)
  refine lv_aload_n hx hb dX2_copyFrom_95 rfl (lv_at hl 0 rfl) ?_
  refine lv_aload_n hx hb dX2_copyFrom_96 rfl (lv_at hl 1 rfl) ?_
  refine kb_get (v := .int (V_p0.2.1 10)) hx hb hts hin2 hown hK hH 6 rfl rfl rfl 10 (by decide) (hts (.fieldLink RX2 43 "CockWar$Hill" "days" "I") (List.mem_of_getElem? (i := 11) rfl)) (fun _ h9 => h9) rfl dX2_copyFrom_97 ?_
  refine kb_put (ty := .int) (v := .int (V_p0.2.1 10)) (WS' := (w_O2 G g (oI (oI (oI (oI (oI (oI (oA (oA (oA (oA (oA V 0 q1) 1 q2) 2 q3) 3 q4) 4 q5) 5 (V_p0.2.1 5)) 6 (V_p0.2.1 6)) 7 (V_p0.2.1 7)) 8 (V_p0.2.1 8)) 9 (V_p0.2.1 9)) 10 (V_p0.2.1 10)) ++ w_O2 G g_p0 V_p0)) hx hb hts hin2 tyX2 tyX2_ok nmX2 hown hK hH 0 rfl rfl 10 (by decide) (hts (.fieldLink RX2 43 "CockWar$Hill" "days" "I") (List.mem_of_getElem? (i := 11) rfl)) (fun _ h9 => h9) rfl (by decide +kernel) rfl rfl (Nat.le_of_ble_eq_true rfl) rfl dX2_copyFrom_100 (fun H locs hH => ?_)
  subst hF
  exact kb_vret hx hb hr hH rfl dX2_copyFrom_103 hlocks
def f_X1_copyFrom (V : OV) (V_p0 : OV) : (OV) := (kAp (f_X7_copyRow 4 (V_p0.1 0) 4 (V.1 0)) (fun q1 => (kAp (f_X7_copyRow 4 (V_p0.1 1) 4 (V.1 1)) (fun q2 => (kAp (f_X7_copyRow 4 (V_p0.1 2) 4 (V.1 2)) (fun q3 => (oI (oA (oA (oA V 0 q1) 1 q2) 2 q3) 3 (V_p0.2.1 3))))))))
set_option maxHeartbeats 4000000 in
set_option maxRecDepth 100000 in
theorem c_X1_copyFrom (l : Launch) (G : Ge) (g : Nat → Nat) (V : OV) (g_p0 : Nat → Nat) (V_p0 : OV) {F : (OV)} (hF : f_X1_copyFrom V V_p0 = F) : CV l yX1_copyFrom wsX1_copyFrom { frames := 1, cells := 0, slots := 0, locals := 22 } [.ref (g 0), .ref (g_p0 0)] G (w_O1 G g V ++ w_O1 G g_p0 V_p0) (w_O1 G g F ++ w_O1 G g_p0 V_p0) := by
  intro sz
  refine Met.ofW (cc := cX1_copyFrom) (maxL := 2) (ret := none) (by decide) rfl ?_
  intro p e s m args below meth c s₁ B hml hv
  obtain ⟨rfl, hpre⟩ := hv
  obtain ⟨hsz, hH, hK, hN, hA⟩ := kb_start hpre
  subst hsz
  have hx := B.exec
  have hb := B.bytes
  have hr := B.returns
  have hts := atoms_spec (ws := wsX1_copyFrom) B.pre
  have hown : s.vm.findClass RX1 = some m.cls := findClass_of_methodNamed B.named
  have hlocks := B.notSynchronized
  generalize hAe : va_A (List.flatten (w_O1 G g V ++ w_O1 G g_p0 V_p0)) s.heap.size = A at hH hA ⊢
  have hl := lv_entry ([.ref (g 0), .ref (g_p0 0)]) (n := 2) (Nat.le_of_ble_eq_true rfl)
  rw [lg_entry_eq]
  generalize (lg_sl ([.ref (g 0), .ref (g_p0 0)]) ++ List.replicate (2 - (lg_sl ([.ref (g 0), .ref (g_p0 0)])).length) Slot.unset).toArray = ls at hl ⊢
  have hl : lv_has ls 2 [(0, .ref (g 0)), (1, .ref (g_p0 0))] := hl
  have hH : HP G A s.heap (w_O1 G g V ++ w_O1 G g_p0 V_p0) s.heap [] := hH
  have hin1 : ∀ w ∈ u_ws RX1 TX1 4, w ∈ wsX1_copyFrom := fun w h => List.mem_cons_of_mem _ (List.mem_append_right _ h)
  have hF : (kAp (f_X7_copyRow 4 (V_p0.1 0) 4 (V.1 0)) (fun q1 => (kAp (f_X7_copyRow 4 (V_p0.1 1) 4 (V.1 1)) (fun q2 => (kAp (f_X7_copyRow 4 (V_p0.1 2) 4 (V.1 2)) (fun q3 => (oI (oA (oA (oA V 0 q1) 1 q2) 2 q3) 3 (V_p0.2.1 3)))))))) = F := hF
  refine lv_aload_n hx hb dX1_copyFrom_0 rfl (lv_at hl 1 rfl) ?_
  refine kb_get (v := .ref (g_p0 1)) hx hb hts hin1 hown hK hH 4 rfl rfl rfl 0 (by decide) (hts (.fieldLink RX1 9 "CockWar$Air" "goals" "[I") (List.mem_of_getElem? (i := 1) rfl)) (fun _ h9 => h9) rfl dX1_copyFrom_1 ?_
  refine lv_aload_n hx hb dX1_copyFrom_4 rfl (lv_at hl 0 rfl) ?_
  refine kb_get (v := .ref (g 1)) hx hb hts hin1 hown hK hH 0 rfl rfl rfl 0 (by decide) (hts (.fieldLink RX1 9 "CockWar$Air" "goals" "[I") (List.mem_of_getElem? (i := 1) rfl)) (fun _ h9 => h9) rfl dX1_copyFrom_5 ?_
  obtain ⟨q1, hq1⟩ : ∃ z, z = (f_X7_copyRow 4 (V_p0.1 0) 4 (V.1 0)) := ⟨_, rfl⟩
  have hF := kAp_eq hF hq1
  refine kb_cv hH hA [5, 1] (Wc := ([b_arr G (g_p0 1) 4 (V_p0.1 0)] ++ [b_arr G (g 1) 4 (V.1 0)])) (Wc' := ([b_arr G (g_p0 1) 4 (V_p0.1 0)] ++ [b_arr G (g 1) 4 q1])) (WS' := (w_O1 G g (oA V 0 q1) ++ w_O1 G g_p0 V_p0)) rfl (by decide) rfl rfl (va_runSN (As := [.ref (g_p0 1), .ref (g 1)]) (rest := []) ⟨hx, hb, hml, hown, hts⟩ (c_X7_copyRow l G (g_p0 1) 4 (V_p0.1 0) (g 1) 4 (V.1 0) (by decide) (by decide) hq1.symm _) ⟨va_cnB 2 hts gX1_copyFrom_X7_copyRow_n21 rfl rfl rfl (kb_NM hN 28 rfl) (hts (.initialized RX7) (List.mem_of_getElem? (i := 6) rfl)) hd_X7_copyRow ⟨Nat.le_of_ble_eq_true rfl, Nat.le_of_ble_eq_true rfl⟩, (hts (.static yX7_copyRow) (List.mem_of_getElem? (i := 5) rfl)), trivial⟩ (kb_preS hH hK hN [5, 1] rfl (by decide)) rfl rfl hl.1 rfl (lv_room (Nat.le_of_ble_eq_true rfl)) dX1_copyFrom_8 ⟨Nat.le_of_ble_eq_true rfl, Nat.le_of_ble_eq_true rfl⟩) (fun H locs hH => ?_)
  refine lv_aload_n hx hb dX1_copyFrom_11 rfl (lv_at hl 1 rfl) ?_
  refine kb_get (v := .ref (g_p0 2)) hx hb hts hin1 hown hK hH 4 rfl rfl rfl 1 (by decide) (hts (.fieldLink RX1 15 "CockWar$Air" "strengths" "[I") (List.mem_of_getElem? (i := 2) rfl)) (fun _ h9 => h9) rfl dX1_copyFrom_12 ?_
  refine lv_aload_n hx hb dX1_copyFrom_15 rfl (lv_at hl 0 rfl) ?_
  refine kb_get (v := .ref (g 2)) hx hb hts hin1 hown hK hH 0 rfl rfl rfl 1 (by decide) (hts (.fieldLink RX1 15 "CockWar$Air" "strengths" "[I") (List.mem_of_getElem? (i := 2) rfl)) (fun _ h9 => h9) rfl dX1_copyFrom_16 ?_
  obtain ⟨q2, hq2⟩ : ∃ z, z = (f_X7_copyRow 4 (V_p0.1 1) 4 (V.1 1)) := ⟨_, rfl⟩
  have hF := kAp_eq hF hq2
  refine kb_cv hH hA [6, 2] (Wc := ([b_arr G (g_p0 2) 4 (V_p0.1 1)] ++ [b_arr G (g 2) 4 (V.1 1)])) (Wc' := ([b_arr G (g_p0 2) 4 (V_p0.1 1)] ++ [b_arr G (g 2) 4 q2])) (WS' := (w_O1 G g (oA (oA V 0 q1) 1 q2) ++ w_O1 G g_p0 V_p0)) rfl (by decide) rfl rfl (va_runSN (As := [.ref (g_p0 2), .ref (g 2)]) (rest := []) ⟨hx, hb, hml, hown, hts⟩ (c_X7_copyRow l G (g_p0 2) 4 (V_p0.1 1) (g 2) 4 (V.1 1) (by decide) (by decide) hq2.symm _) ⟨va_cnB 2 hts gX1_copyFrom_X7_copyRow_n21 rfl rfl rfl (kb_NM hN 28 rfl) (hts (.initialized RX7) (List.mem_of_getElem? (i := 6) rfl)) hd_X7_copyRow ⟨Nat.le_of_ble_eq_true rfl, Nat.le_of_ble_eq_true rfl⟩, (hts (.static yX7_copyRow) (List.mem_of_getElem? (i := 5) rfl)), trivial⟩ (kb_preS hH hK hN [6, 2] rfl (by decide)) rfl rfl hl.1 rfl (lv_room (Nat.le_of_ble_eq_true rfl)) dX1_copyFrom_19 ⟨Nat.le_of_ble_eq_true rfl, Nat.le_of_ble_eq_true rfl⟩) (fun H locs hH => ?_)
  refine lv_aload_n hx hb dX1_copyFrom_22 rfl (lv_at hl 1 rfl) ?_
  refine kb_get (v := .ref (g_p0 3)) hx hb hts hin1 hown hK hH 4 rfl rfl rfl 2 (by decide) (hts (.fieldLink RX1 18 "CockWar$Air" "days" "[I") (List.mem_of_getElem? (i := 3) rfl)) (fun _ h9 => h9) rfl dX1_copyFrom_23 ?_
  refine lv_aload_n hx hb dX1_copyFrom_26 rfl (lv_at hl 0 rfl) ?_
  refine kb_get (v := .ref (g 3)) hx hb hts hin1 hown hK hH 0 rfl rfl rfl 2 (by decide) (hts (.fieldLink RX1 18 "CockWar$Air" "days" "[I") (List.mem_of_getElem? (i := 3) rfl)) (fun _ h9 => h9) rfl dX1_copyFrom_27 ?_
  obtain ⟨q3, hq3⟩ : ∃ z, z = (f_X7_copyRow 4 (V_p0.1 2) 4 (V.1 2)) := ⟨_, rfl⟩
  have hF := kAp_eq hF hq3
  refine kb_cv hH hA [7, 3] (Wc := ([b_arr G (g_p0 3) 4 (V_p0.1 2)] ++ [b_arr G (g 3) 4 (V.1 2)])) (Wc' := ([b_arr G (g_p0 3) 4 (V_p0.1 2)] ++ [b_arr G (g 3) 4 q3])) (WS' := (w_O1 G g (oA (oA (oA V 0 q1) 1 q2) 2 q3) ++ w_O1 G g_p0 V_p0)) rfl (by decide) rfl rfl (va_runSN (As := [.ref (g_p0 3), .ref (g 3)]) (rest := []) ⟨hx, hb, hml, hown, hts⟩ (c_X7_copyRow l G (g_p0 3) 4 (V_p0.1 2) (g 3) 4 (V.1 2) (by decide) (by decide) hq3.symm _) ⟨va_cnB 2 hts gX1_copyFrom_X7_copyRow_n21 rfl rfl rfl (kb_NM hN 28 rfl) (hts (.initialized RX7) (List.mem_of_getElem? (i := 6) rfl)) hd_X7_copyRow ⟨Nat.le_of_ble_eq_true rfl, Nat.le_of_ble_eq_true rfl⟩, (hts (.static yX7_copyRow) (List.mem_of_getElem? (i := 5) rfl)), trivial⟩ (kb_preS hH hK hN [7, 3] rfl (by decide)) rfl rfl hl.1 rfl (lv_room (Nat.le_of_ble_eq_true rfl)) dX1_copyFrom_30 ⟨Nat.le_of_ble_eq_true rfl, Nat.le_of_ble_eq_true rfl⟩) (fun H locs hH => ?_)
  refine lv_aload_n hx hb dX1_copyFrom_33 rfl (lv_at hl 0 rfl) ?_
  refine lv_aload_n hx hb dX1_copyFrom_34 rfl (lv_at hl 1 rfl) ?_
  refine kb_get (v := .int (V_p0.2.1 3)) hx hb hts hin1 hown hK hH 4 rfl rfl rfl 3 (by decide) (hts (.fieldLink RX1 25 "CockWar$Air" "winds" "I") (List.mem_of_getElem? (i := 4) rfl)) (fun _ h9 => h9) rfl dX1_copyFrom_35 ?_
  refine kb_put (ty := .int) (v := .int (V_p0.2.1 3)) (WS' := (w_O1 G g (oI (oA (oA (oA V 0 q1) 1 q2) 2 q3) 3 (V_p0.2.1 3)) ++ w_O1 G g_p0 V_p0)) hx hb hts hin1 tyX1 tyX1_ok nmX1 hown hK hH 0 rfl rfl 3 (by decide) (hts (.fieldLink RX1 25 "CockWar$Air" "winds" "I") (List.mem_of_getElem? (i := 4) rfl)) (fun _ h9 => h9) rfl (by decide +kernel) rfl rfl (Nat.le_of_ble_eq_true rfl) rfl dX1_copyFrom_38 (fun H locs hH => ?_)
  subst hF
  exact kb_vret hx hb hr hH rfl dX1_copyFrom_41 hlocks
def f_X1_addWind (V : OV) (x0 : Int32) (x1 : Int32) (x2 : Int32) : (OV) := (kAp (f_X7_put 4 (V.1 0) (V.2.1 3) x0) (fun q1 => (kAp (f_X7_put 4 (V.1 1) (V.2.1 3) x1) (fun q2 => (kAp (f_X7_put 4 (V.1 2) (V.2.1 3) x2) (fun q3 => (oI (oA (oA (oA V 0 q1) 1 q2) 2 q3) 3 ((V.2.1 3) + (1 : Int32)))))))))
set_option maxHeartbeats 4000000 in
set_option maxRecDepth 100000 in
theorem c_X1_addWind (l : Launch) (G : Ge) (g : Nat → Nat) (V : OV) (x0 : Int32) (x1 : Int32) (x2 : Int32) {F : (OV)} (hF : f_X1_addWind V x0 x1 x2 = F) : CV l yX1_addWind wsX1_addWind { frames := 1, cells := 0, slots := 0, locals := 22 } [.ref (g 0), .int x0, .int x1, .int x2] G (w_O1 G g V) (w_O1 G g F) := by
  intro sz
  refine Met.ofW (cc := cX1_addWind) (maxL := 4) (ret := none) (by decide) rfl ?_
  intro p e s m args below meth c s₁ B hml hv
  obtain ⟨rfl, hpre⟩ := hv
  obtain ⟨hsz, hH, hK, hN, hA⟩ := kb_start hpre
  subst hsz
  have hx := B.exec
  have hb := B.bytes
  have hr := B.returns
  have hts := atoms_spec (ws := wsX1_addWind) B.pre
  have hown : s.vm.findClass RX1 = some m.cls := findClass_of_methodNamed B.named
  have hlocks := B.notSynchronized
  generalize hAe : va_A (List.flatten (w_O1 G g V)) s.heap.size = A at hH hA ⊢
  have hl := lv_entry ([.ref (g 0), .int x0, .int x1, .int x2]) (n := 4) (Nat.le_of_ble_eq_true rfl)
  rw [lg_entry_eq]
  generalize (lg_sl ([.ref (g 0), .int x0, .int x1, .int x2]) ++ List.replicate (4 - (lg_sl ([.ref (g 0), .int x0, .int x1, .int x2])).length) Slot.unset).toArray = ls at hl ⊢
  have hl : lv_has ls 4 [(0, .ref (g 0)), (1, .int x0), (2, .int x1), (3, .int x2)] := hl
  have hH : HP G A s.heap (w_O1 G g V) s.heap [] := hH
  have hin1 : ∀ w ∈ u_ws RX1 TX1 4, w ∈ wsX1_addWind := fun w h => List.mem_cons_of_mem _ (List.mem_append_right _ h)
  have hF : (kAp (f_X7_put 4 (V.1 0) (V.2.1 3) x0) (fun q1 => (kAp (f_X7_put 4 (V.1 1) (V.2.1 3) x1) (fun q2 => (kAp (f_X7_put 4 (V.1 2) (V.2.1 3) x2) (fun q3 => (oI (oA (oA (oA V 0 q1) 1 q2) 2 q3) 3 ((V.2.1 3) + (1 : Int32))))))))) = F := hF
  refine lv_aload_n hx hb dX1_addWind_0 rfl (lv_at hl 0 rfl) ?_
  refine kb_get (v := .ref (g 1)) hx hb hts hin1 hown hK hH 0 rfl rfl rfl 0 (by decide) (hts (.fieldLink RX1 9 "CockWar$Air" "goals" "[I") (List.mem_of_getElem? (i := 1) rfl)) (fun _ h9 => h9) rfl dX1_addWind_1 ?_
  refine lv_aload_n hx hb dX1_addWind_4 rfl (lv_at hl 0 rfl) ?_
  refine kb_get (v := .int (V.2.1 3)) hx hb hts hin1 hown hK hH 0 rfl rfl rfl 3 (by decide) (hts (.fieldLink RX1 25 "CockWar$Air" "winds" "I") (List.mem_of_getElem? (i := 2) rfl)) (fun _ h9 => h9) rfl dX1_addWind_5 ?_
  refine lv_iload_n hx hb dX1_addWind_8 rfl (lv_at hl 1 rfl) ?_
  obtain ⟨q1, hq1⟩ : ∃ z, z = (f_X7_put 4 (V.1 0) (V.2.1 3) x0) := ⟨_, rfl⟩
  have hF := kAp_eq hF hq1
  refine kb_cv hH hA [1] (Wc := ([b_arr G (g 1) 4 (V.1 0)])) (Wc' := ([b_arr G (g 1) 4 q1])) (WS' := (w_O1 G g (oA V 0 q1))) rfl (by decide) rfl rfl (va_runSN (As := [.ref (g 1), .int (V.2.1 3), .int x0]) (rest := []) ⟨hx, hb, hml, hown, hts⟩ (c_X7_put l G (g 1) 4 (V.1 0) (V.2.1 3) x0 (by decide) hq1.symm _) ⟨va_cnB 3 hts gX1_addWind_X7_put_n29 rfl rfl rfl (kb_NM hN 24 rfl) (hts (.initialized RX7) (List.mem_of_getElem? (i := 6) rfl)) hd_X7_put ⟨Nat.le_of_ble_eq_true rfl, Nat.le_of_ble_eq_true rfl⟩, (hts (.static yX7_put) (List.mem_of_getElem? (i := 5) rfl)), trivial⟩ (kb_preS hH hK hN [1] rfl (by decide)) rfl rfl hl.1 rfl (lv_room (Nat.le_of_ble_eq_true rfl)) dX1_addWind_9 ⟨Nat.le_of_ble_eq_true rfl, Nat.le_of_ble_eq_true rfl⟩) (fun H locs hH => ?_)
  refine lv_aload_n hx hb dX1_addWind_12 rfl (lv_at hl 0 rfl) ?_
  refine kb_get (v := .ref (g 2)) hx hb hts hin1 hown hK hH 0 rfl rfl rfl 1 (by decide) (hts (.fieldLink RX1 15 "CockWar$Air" "strengths" "[I") (List.mem_of_getElem? (i := 3) rfl)) (fun _ h9 => h9) rfl dX1_addWind_13 ?_
  refine lv_aload_n hx hb dX1_addWind_16 rfl (lv_at hl 0 rfl) ?_
  refine kb_get (v := .int (V.2.1 3)) hx hb hts hin1 hown hK hH 0 rfl rfl rfl 3 (by decide) (hts (.fieldLink RX1 25 "CockWar$Air" "winds" "I") (List.mem_of_getElem? (i := 2) rfl)) (fun _ h9 => h9) rfl dX1_addWind_17 ?_
  refine lv_iload_n hx hb dX1_addWind_20 rfl (lv_at hl 2 rfl) ?_
  obtain ⟨q2, hq2⟩ : ∃ z, z = (f_X7_put 4 (V.1 1) (V.2.1 3) x1) := ⟨_, rfl⟩
  have hF := kAp_eq hF hq2
  refine kb_cv hH hA [2] (Wc := ([b_arr G (g 2) 4 (V.1 1)])) (Wc' := ([b_arr G (g 2) 4 q2])) (WS' := (w_O1 G g (oA (oA V 0 q1) 1 q2))) rfl (by decide) rfl rfl (va_runSN (As := [.ref (g 2), .int (V.2.1 3), .int x1]) (rest := []) ⟨hx, hb, hml, hown, hts⟩ (c_X7_put l G (g 2) 4 (V.1 1) (V.2.1 3) x1 (by decide) hq2.symm _) ⟨va_cnB 3 hts gX1_addWind_X7_put_n29 rfl rfl rfl (kb_NM hN 24 rfl) (hts (.initialized RX7) (List.mem_of_getElem? (i := 6) rfl)) hd_X7_put ⟨Nat.le_of_ble_eq_true rfl, Nat.le_of_ble_eq_true rfl⟩, (hts (.static yX7_put) (List.mem_of_getElem? (i := 5) rfl)), trivial⟩ (kb_preS hH hK hN [2] rfl (by decide)) rfl rfl hl.1 rfl (lv_room (Nat.le_of_ble_eq_true rfl)) dX1_addWind_21 ⟨Nat.le_of_ble_eq_true rfl, Nat.le_of_ble_eq_true rfl⟩) (fun H locs hH => ?_)
  refine lv_aload_n hx hb dX1_addWind_24 rfl (lv_at hl 0 rfl) ?_
  refine kb_get (v := .ref (g 3)) hx hb hts hin1 hown hK hH 0 rfl rfl rfl 2 (by decide) (hts (.fieldLink RX1 18 "CockWar$Air" "days" "[I") (List.mem_of_getElem? (i := 4) rfl)) (fun _ h9 => h9) rfl dX1_addWind_25 ?_
  refine lv_aload_n hx hb dX1_addWind_28 rfl (lv_at hl 0 rfl) ?_
  refine kb_get (v := .int (V.2.1 3)) hx hb hts hin1 hown hK hH 0 rfl rfl rfl 3 (by decide) (hts (.fieldLink RX1 25 "CockWar$Air" "winds" "I") (List.mem_of_getElem? (i := 2) rfl)) (fun _ h9 => h9) rfl dX1_addWind_29 ?_
  refine lv_iload_n hx hb dX1_addWind_32 rfl (lv_at hl 3 rfl) ?_
  obtain ⟨q3, hq3⟩ : ∃ z, z = (f_X7_put 4 (V.1 2) (V.2.1 3) x2) := ⟨_, rfl⟩
  have hF := kAp_eq hF hq3
  refine kb_cv hH hA [3] (Wc := ([b_arr G (g 3) 4 (V.1 2)])) (Wc' := ([b_arr G (g 3) 4 q3])) (WS' := (w_O1 G g (oA (oA (oA V 0 q1) 1 q2) 2 q3))) rfl (by decide) rfl rfl (va_runSN (As := [.ref (g 3), .int (V.2.1 3), .int x2]) (rest := []) ⟨hx, hb, hml, hown, hts⟩ (c_X7_put l G (g 3) 4 (V.1 2) (V.2.1 3) x2 (by decide) hq3.symm _) ⟨va_cnB 3 hts gX1_addWind_X7_put_n29 rfl rfl rfl (kb_NM hN 24 rfl) (hts (.initialized RX7) (List.mem_of_getElem? (i := 6) rfl)) hd_X7_put ⟨Nat.le_of_ble_eq_true rfl, Nat.le_of_ble_eq_true rfl⟩, (hts (.static yX7_put) (List.mem_of_getElem? (i := 5) rfl)), trivial⟩ (kb_preS hH hK hN [3] rfl (by decide)) rfl rfl hl.1 rfl (lv_room (Nat.le_of_ble_eq_true rfl)) dX1_addWind_33 ⟨Nat.le_of_ble_eq_true rfl, Nat.le_of_ble_eq_true rfl⟩) (fun H locs hH => ?_)
  refine lv_aload_n hx hb dX1_addWind_36 rfl (lv_at hl 0 rfl) ?_
  refine lv_dup hx hb dX1_addWind_37 rfl ?_
  refine kb_get (v := .int (V.2.1 3)) hx hb hts hin1 hown hK hH 0 rfl rfl rfl 3 (by decide) (hts (.fieldLink RX1 25 "CockWar$Air" "winds" "I") (List.mem_of_getElem? (i := 2) rfl)) (fun _ h9 => h9) rfl dX1_addWind_38 ?_
  refine lv_iconst (v := 1) hx hb dX1_addWind_41 (by decide) ?_
  refine lv_iadd hx hb dX1_addWind_42 ?_
  refine kb_put (ty := .int) (v := .int ((V.2.1 3) + (1 : Int32))) (WS' := (w_O1 G g (oI (oA (oA (oA V 0 q1) 1 q2) 2 q3) 3 ((V.2.1 3) + (1 : Int32))))) hx hb hts hin1 tyX1 tyX1_ok nmX1 hown hK hH 0 rfl rfl 3 (by decide) (hts (.fieldLink RX1 25 "CockWar$Air" "winds" "I") (List.mem_of_getElem? (i := 2) rfl)) (fun _ h9 => h9) rfl (by decide +kernel) rfl rfl (Nat.le_of_ble_eq_true rfl) rfl dX1_addWind_43 (fun H locs hH => ?_)
  subst hF
  exact kb_vret hx hb hr hH rfl dX1_addWind_46 hlocks
def f_X1_hasWind (V : OV) (x0 : Int32) : (Int32) := (if x0 < 0 then (0 : Int32) else (if (V.2.1 3) ≤ x0 then (0 : Int32) else (1 : Int32)))
set_option maxHeartbeats 4000000 in
set_option maxRecDepth 100000 in
theorem c_X1_hasWind (l : Launch) (G : Ge) (g : Nat → Nat) (V : OV) (x0 : Int32) {F : (Int32)} (hF : f_X1_hasWind V x0 = F) : CI l yX1_hasWind wsX1_hasWind { frames := 0, cells := 0, slots := 0, locals := 0 } [.ref (g 0), .int x0] G (w_O1 G g V) (w_O1 G g V) F := by
  intro sz
  refine Met.ofW (cc := cX1_hasWind) (maxL := 2) (ret := (some .boolean)) (by decide) rfl ?_
  intro p e s m args below meth c s₁ B hml hv
  obtain ⟨rfl, hpre⟩ := hv
  obtain ⟨hsz, hH, hK, hN, hA⟩ := kb_start hpre
  subst hsz
  have hx := B.exec
  have hb := B.bytes
  have hr := B.returns
  have hts := atoms_spec (ws := wsX1_hasWind) B.pre
  have hown : s.vm.findClass RX1 = some m.cls := findClass_of_methodNamed B.named
  have hlocks := B.notSynchronized
  generalize hAe : va_A (List.flatten (w_O1 G g V)) s.heap.size = A at hH hA ⊢
  have hl := lv_entry ([.ref (g 0), .int x0]) (n := 2) (Nat.le_of_ble_eq_true rfl)
  rw [lg_entry_eq]
  generalize (lg_sl ([.ref (g 0), .int x0]) ++ List.replicate (2 - (lg_sl ([.ref (g 0), .int x0])).length) Slot.unset).toArray = ls at hl ⊢
  have hl : lv_has ls 2 [(0, .ref (g 0)), (1, .int x0)] := hl
  have hH : HP G A s.heap (w_O1 G g V) s.heap [] := hH
  have hin1 : ∀ w ∈ u_ws RX1 TX1 4, w ∈ wsX1_hasWind := fun w h => List.mem_cons_of_mem _ (List.mem_append_right _ h)
  have hF : (if x0 < 0 then (0 : Int32) else (if (V.2.1 3) ≤ x0 then (0 : Int32) else (1 : Int32))) = F := hF
  refine lv_iload_n hx hb dX1_hasWind_0 rfl (lv_at hl 1 rfl) ?_
  refine lv_if_lt (tgt := 16) hx hb dX1_hasWind_1 (by decide) (fun c1 => ?_) (fun c1 => ?_)
  · rw [if_pos c1] at hF
    refine lv_iconst (v := 0) hx hb dX1_hasWind_16 (by decide) ?_
    subst hF
    exact kb_zret hx hb hr hH rfl rfl (kb_nar _ (Or.inl rfl)) dX1_hasWind_17 hlocks
  · rw [if_neg c1] at hF
    refine lv_iload_n hx hb dX1_hasWind_4 rfl (lv_at hl 1 rfl) ?_
    refine lv_aload_n hx hb dX1_hasWind_5 rfl (lv_at hl 0 rfl) ?_
    refine kb_get (v := .int (V.2.1 3)) hx hb hts hin1 hown hK hH 0 rfl rfl rfl 3 (by decide) (hts (.fieldLink RX1 25 "CockWar$Air" "winds" "I") (List.mem_of_getElem? (i := 1) rfl)) (fun _ h9 => h9) rfl dX1_hasWind_6 ?_
    refine lv_icmp_ge (tgt := 16) hx hb dX1_hasWind_9 (by decide) (fun c2 => ?_) (fun c2 => ?_)
    · rw [if_pos c2] at hF
      refine lv_iconst (v := 0) hx hb dX1_hasWind_16 (by decide) ?_
      subst hF
      exact kb_zret hx hb hr hH rfl rfl (kb_nar _ (Or.inl rfl)) dX1_hasWind_17 hlocks
    · rw [if_neg c2] at hF
      refine lv_iconst (v := 1) hx hb dX1_hasWind_12 (by decide) ?_
      refine lv_goto (tgt := 17) hx hb dX1_hasWind_13 (by decide) ?_
      subst hF
      exact kb_zret hx hb hr hH rfl rfl (kb_nar _ (Or.inr rfl)) dX1_hasWind_17 hlocks
def f_X1_waysBehind (V : OV) (V_p0 : OV) (x1 : Int32) (x2 : Int32) (x3 : Int32) : (Int32) := (if (f_X7_at 4 (V.1 0) x1) = (1 : Int32) then ((V_p0.2.1 7) ||| ((f_X2_yieldingTo V_p0 (f_X7_at 4 (V.1 0) x1) (f_X7_at 4 (V.1 1) x1) x3) &&& (x2 ^^^ (-1 : Int32)))) else ((V_p0.2.1 7) &&& (((f_X2_yieldingTo V_p0 (f_X7_at 4 (V.1 0) x1) (f_X7_at 4 (V.1 1) x1) x3) &&& (x2 ^^^ (-1 : Int32))) ^^^ (-1 : Int32))))
set_option maxHeartbeats 4000000 in
set_option maxRecDepth 100000 in
theorem c_X1_waysBehind (l : Launch) (G : Ge) (g : Nat → Nat) (V : OV) (g_p0 : Nat → Nat) (V_p0 : OV) (x1 : Int32) (x2 : Int32) (x3 : Int32) {F : (Int32)} (hF : f_X1_waysBehind V V_p0 x1 x2 x3 = F) : CI l yX1_waysBehind wsX1_waysBehind { frames := 2, cells := 0, slots := 0, locals := 48 } [.ref (g 0), .ref (g_p0 0), .int x1, .int x2, .int x3] G (w_O1 G g V ++ w_O2 G g_p0 V_p0) (w_O1 G g V ++ w_O2 G g_p0 V_p0) F := by
  intro sz
  refine Met.ofW (cc := cX1_waysBehind) (maxL := 7) (ret := (some .int)) (by decide) rfl ?_
  intro p e s m args below meth c s₁ B hml hv
  obtain ⟨rfl, hpre⟩ := hv
  obtain ⟨hsz, hH, hK, hN, hA⟩ := kb_start hpre
  subst hsz
  have hx := B.exec
  have hb := B.bytes
  have hr := B.returns
  have hts := atoms_spec (ws := wsX1_waysBehind) B.pre
  have hown : s.vm.findClass RX1 = some m.cls := findClass_of_methodNamed B.named
  have hlocks := B.notSynchronized
  generalize hAe : va_A (List.flatten (w_O1 G g V ++ w_O2 G g_p0 V_p0)) s.heap.size = A at hH hA ⊢
  have hl := lv_entry ([.ref (g 0), .ref (g_p0 0), .int x1, .int x2, .int x3]) (n := 7) (Nat.le_of_ble_eq_true rfl)
  rw [lg_entry_eq]
  generalize (lg_sl ([.ref (g 0), .ref (g_p0 0), .int x1, .int x2, .int x3]) ++ List.replicate (7 - (lg_sl ([.ref (g 0), .ref (g_p0 0), .int x1, .int x2, .int x3])).length) Slot.unset).toArray = ls at hl ⊢
  have hl : lv_has ls 7 [(0, .ref (g 0)), (1, .ref (g_p0 0)), (2, .int x1), (3, .int x2), (4, .int x3)] := hl
  have hH : HP G A s.heap (w_O1 G g V ++ w_O2 G g_p0 V_p0) s.heap [] := hH
  have hin1 : ∀ w ∈ u_ws RX1 TX1 4, w ∈ wsX1_waysBehind := fun w h => List.mem_cons_of_mem _ (List.mem_append_left _ (List.mem_append_right _ h))
  have hin2 : ∀ w ∈ u_ws RX2 TX2 11, w ∈ wsX1_waysBehind := fun w h => List.mem_cons_of_mem _ (List.mem_append_right _ h)
  have hF : (if (f_X7_at 4 (V.1 0) x1) = (1 : Int32) then ((V_p0.2.1 7) ||| ((f_X2_yieldingTo V_p0 (f_X7_at 4 (V.1 0) x1) (f_X7_at 4 (V.1 1) x1) x3) &&& (x2 ^^^ (-1 : Int32)))) else ((V_p0.2.1 7) &&& (((f_X2_yieldingTo V_p0 (f_X7_at 4 (V.1 0) x1) (f_X7_at 4 (V.1 1) x1) x3) &&& (x2 ^^^ (-1 : Int32))) ^^^ (-1 : Int32)))) = F := hF
  refine lv_aload_n hx hb dX1_waysBehind_0 rfl (lv_at hl 0 rfl) ?_
  refine kb_get (v := .ref (g 1)) hx hb hts hin1 hown hK hH 0 rfl rfl rfl 0 (by decide) (hts (.fieldLink RX1 9 "CockWar$Air" "goals" "[I") (List.mem_of_getElem? (i := 1) rfl)) (fun _ h9 => h9) rfl dX1_waysBehind_1 ?_
  refine lv_iload_n hx hb dX1_waysBehind_4 rfl (lv_at hl 2 rfl) ?_
  refine kb_ci hH hA [1] (Wc := ([b_arr G (g 1) 4 (V.1 0)])) (Wc' := ([b_arr G (g 1) 4 (V.1 0)])) (WS' := (w_O1 G g V ++ w_O2 G g_p0 V_p0)) rfl (by decide) rfl rfl (va_runSN (As := [.ref (g 1), .int x1]) (rest := []) ⟨hx, hb, hml, hown, hts⟩ (c_X7_at l G (g 1) 4 (V.1 0) x1 (by decide) rfl _) ⟨va_cnB 2 hts gX1_waysBehind_X7_at_n33 rfl rfl rfl (kb_NM hN 34 rfl) (hts (.initialized RX7) (List.mem_of_getElem? (i := 4) rfl)) hd_X7_at ⟨Nat.le_of_ble_eq_true rfl, Nat.le_of_ble_eq_true rfl⟩, (hts (.static yX7_at) (List.mem_of_getElem? (i := 3) rfl)), trivial⟩ (kb_preS hH hK hN [1] rfl (by decide)) rfl rfl hl.1 rfl (lv_room (Nat.le_of_ble_eq_true rfl)) dX1_waysBehind_5 ⟨Nat.le_of_ble_eq_true rfl, Nat.le_of_ble_eq_true rfl⟩) (fun H locs hH => ?_)
  refine lv_istore (lv' := [(5, .int (f_X7_at 4 (V.1 0) x1)), (0, .ref (g 0)), (1, .ref (g_p0 0)), (2, .int x1), (3, .int x2), (4, .int x3)]) hx hb dX1_waysBehind_8 hl (by decide) rfl (fun ls hl => ?_)
  refine lv_aload_n hx hb dX1_waysBehind_10 rfl (lv_at hl 2 rfl) ?_
  refine lv_iload hx hb dX1_waysBehind_11 (lv_at hl 0 rfl) ?_
  refine lv_aload_n hx hb dX1_waysBehind_13 rfl (lv_at hl 1 rfl) ?_
  refine kb_get (v := .ref (g 2)) hx hb hts hin1 hown hK hH 0 rfl rfl rfl 1 (by decide) (hts (.fieldLink RX1 15 "CockWar$Air" "strengths" "[I") (List.mem_of_getElem? (i := 2) rfl)) (fun _ h9 => h9) rfl dX1_waysBehind_14 ?_
  refine lv_iload_n hx hb dX1_waysBehind_17 rfl (lv_at hl 3 rfl) ?_
  refine kb_ci hH hA [2] (Wc := ([b_arr G (g 2) 4 (V.1 1)])) (Wc' := ([b_arr G (g 2) 4 (V.1 1)])) (WS' := (w_O1 G g V ++ w_O2 G g_p0 V_p0)) rfl (by decide) rfl rfl (va_runSN (As := [.ref (g 2), .int x1]) (rest := [.int (f_X7_at 4 (V.1 0) x1), .ref (g_p0 0)]) ⟨hx, hb, hml, hown, hts⟩ (c_X7_at l G (g 2) 4 (V.1 1) x1 (by decide) rfl _) ⟨va_cnB 2 hts gX1_waysBehind_X7_at_n33 rfl rfl rfl (kb_NM hN 34 rfl) (hts (.initialized RX7) (List.mem_of_getElem? (i := 4) rfl)) hd_X7_at ⟨Nat.le_of_ble_eq_true rfl, Nat.le_of_ble_eq_true rfl⟩, (hts (.static yX7_at) (List.mem_of_getElem? (i := 3) rfl)), trivial⟩ (kb_preS hH hK hN [2] rfl (by decide)) rfl rfl hl.1 rfl (lv_room (Nat.le_of_ble_eq_true rfl)) dX1_waysBehind_18 ⟨Nat.le_of_ble_eq_true rfl, Nat.le_of_ble_eq_true rfl⟩) (fun H locs hH => ?_)
  refine lv_iload hx hb dX1_waysBehind_21 (lv_at hl 5 rfl) ?_
  refine kb_ci hH hA [4, 5, 6, 7, 8, 9] (Wc := (w_O2 G g_p0 V_p0)) (Wc' := (w_O2 G g_p0 V_p0)) (WS' := (w_O1 G g V ++ w_O2 G g_p0 V_p0)) rfl (by decide) rfl rfl (va_runVN (C := RX2) (As := [.int (f_X7_at 4 (V.1 0) x1), .int (f_X7_at 4 (V.1 1) x1), .int x3]) (rest := []) ⟨hx, hb, hml, hown, hts⟩ (c_X2_yieldingTo l G g_p0 V_p0 (f_X7_at 4 (V.1 0) x1) (f_X7_at 4 (V.1 1) x1) x3 rfl _) ⟨va_cnB 3 hts gX1_waysBehind_X2_yieldingTo_n37 rfl rfl rfl (kb_NM hN 35 rfl) (hts (.initialized RX2) (List.mem_of_getElem? (i := 7) rfl)) hd_X2_yieldingTo ⟨Nat.le_of_ble_eq_true rfl, Nat.le_of_ble_eq_true rfl⟩, (hts (.instanceMethod yX2_yieldingTo) (List.mem_of_getElem? (i := 6) rfl)), (hts (.selects RX2 yX2_yieldingTo yX2_yieldingTo) (List.mem_of_getElem? (i := 8) rfl))⟩ (kb_preV hH hK hN [4, 5, 6, 7, 8, 9] rfl (by decide) 4 rfl rfl rfl rfl) rfl rfl hl.1 rfl (lv_room (Nat.le_of_ble_eq_true rfl)) dX1_waysBehind_23 ⟨Nat.le_of_ble_eq_true rfl, Nat.le_of_ble_eq_true rfl⟩) (fun H locs hH => ?_)
  refine lv_iload_n hx hb dX1_waysBehind_26 rfl (lv_at hl 4 rfl) ?_
  refine lv_iconst (v := -1) hx hb dX1_waysBehind_27 (by decide) ?_
  refine lv_ixor hx hb dX1_waysBehind_28 ?_
  refine lv_iand hx hb dX1_waysBehind_29 ?_
  refine lv_istore (lv' := [(6, .int ((f_X2_yieldingTo V_p0 (f_X7_at 4 (V.1 0) x1) (f_X7_at 4 (V.1 1) x1) x3) &&& (x2 ^^^ (-1 : Int32)))), (5, .int (f_X7_at 4 (V.1 0) x1)), (0, .ref (g 0)), (1, .ref (g_p0 0)), (2, .int x1), (3, .int x2), (4, .int x3)]) hx hb dX1_waysBehind_30 hl (by decide) rfl (fun ls hl => ?_)
  refine lv_iload hx hb dX1_waysBehind_32 (lv_at hl 1 rfl) ?_
  refine lv_iconst (v := 1) hx hb dX1_waysBehind_34 (by decide) ?_
  refine lv_icmp_ne (tgt := 48) hx hb dX1_waysBehind_35 (by decide) (fun c1 => ?_) (fun c1 => ?_)
  · rw [if_neg c1] at hF
    refine lv_aload_n hx hb dX1_waysBehind_48 rfl (lv_at hl 3 rfl) ?_
    refine kb_getN (v := .int (V_p0.2.1 7)) hx hb hts hin2 hown hK hH 4 rfl rfl rfl 7 (by decide) (kb_NF hN 13 rfl) (fun _ h9 => h9) rfl dX1_waysBehind_49 ?_
    refine lv_iload hx hb dX1_waysBehind_52 (lv_at hl 0 rfl) ?_
    refine lv_iconst (v := -1) hx hb dX1_waysBehind_54 (by decide) ?_
    refine lv_ixor hx hb dX1_waysBehind_55 ?_
    refine lv_iand hx hb dX1_waysBehind_56 ?_
    subst hF
    exact kb_iret hx hb hr hH rfl rfl dX1_waysBehind_57 hlocks
  · rw [if_pos c1] at hF
    refine lv_aload_n hx hb dX1_waysBehind_38 rfl (lv_at hl 3 rfl) ?_
    refine kb_getN (v := .int (V_p0.2.1 7)) hx hb hts hin2 hown hK hH 4 rfl rfl rfl 7 (by decide) (kb_NF hN 13 rfl) (fun _ h9 => h9) rfl dX1_waysBehind_39 ?_
    refine lv_iload hx hb dX1_waysBehind_42 (lv_at hl 0 rfl) ?_
    refine lv_ior hx hb dX1_waysBehind_44 ?_
    refine lv_goto (tgt := 57) hx hb dX1_waysBehind_45 (by decide) ?_
    subst hF
    exact kb_iret hx hb hr hH rfl rfl dX1_waysBehind_57 hlocks
def f_X1_brookUnder (V : OV) (V_p0 : OV) (x1 : Int32) (x2 : Int32) (x3 : Int32) : (Int32) := (f_X2_brookBy V_p0 (f_X1_waysBehind V V_p0 x1 x2 x3))
set_option maxHeartbeats 4000000 in
set_option maxRecDepth 100000 in
theorem c_X1_brookUnder (l : Launch) (G : Ge) (g : Nat → Nat) (V : OV) (g_p0 : Nat → Nat) (V_p0 : OV) (x1 : Int32) (x2 : Int32) (x3 : Int32) {F : (Int32)} (hF : f_X1_brookUnder V V_p0 x1 x2 x3 = F) : CI l yX1_brookUnder wsX1_brookUnder { frames := 3, cells := 0, slots := 0, locals := 74 } [.ref (g 0), .ref (g_p0 0), .int x1, .int x2, .int x3] G (w_O1 G g V ++ w_O2 G g_p0 V_p0) (w_O1 G g V ++ w_O2 G g_p0 V_p0) F := by
  intro sz
  refine Met.ofW (cc := cX1_brookUnder) (maxL := 5) (ret := (some .int)) (by decide) rfl ?_
  intro p e s m args below meth c s₁ B hml hv
  obtain ⟨rfl, hpre⟩ := hv
  obtain ⟨hsz, hH, hK, hN, hA⟩ := kb_start hpre
  subst hsz
  have hx := B.exec
  have hb := B.bytes
  have hr := B.returns
  have hts := atoms_spec (ws := wsX1_brookUnder) B.pre
  have hown : s.vm.findClass RX1 = some m.cls := findClass_of_methodNamed B.named
  have hlocks := B.notSynchronized
  generalize hAe : va_A (List.flatten (w_O1 G g V ++ w_O2 G g_p0 V_p0)) s.heap.size = A at hH hA ⊢
  have hl := lv_entry ([.ref (g 0), .ref (g_p0 0), .int x1, .int x2, .int x3]) (n := 5) (Nat.le_of_ble_eq_true rfl)
  rw [lg_entry_eq]
  generalize (lg_sl ([.ref (g 0), .ref (g_p0 0), .int x1, .int x2, .int x3]) ++ List.replicate (5 - (lg_sl ([.ref (g 0), .ref (g_p0 0), .int x1, .int x2, .int x3])).length) Slot.unset).toArray = ls at hl ⊢
  have hl : lv_has ls 5 [(0, .ref (g 0)), (1, .ref (g_p0 0)), (2, .int x1), (3, .int x2), (4, .int x3)] := hl
  have hH : HP G A s.heap (w_O1 G g V ++ w_O2 G g_p0 V_p0) s.heap [] := hH
  have hF : (f_X2_brookBy V_p0 (f_X1_waysBehind V V_p0 x1 x2 x3)) = F := hF
  refine lv_aload_n hx hb dX1_brookUnder_0 rfl (lv_at hl 1 rfl) ?_
  refine lv_aload_n hx hb dX1_brookUnder_1 rfl (lv_at hl 0 rfl) ?_
  refine lv_aload_n hx hb dX1_brookUnder_2 rfl (lv_at hl 1 rfl) ?_
  refine lv_iload_n hx hb dX1_brookUnder_3 rfl (lv_at hl 2 rfl) ?_
  refine lv_iload_n hx hb dX1_brookUnder_4 rfl (lv_at hl 3 rfl) ?_
  refine lv_iload hx hb dX1_brookUnder_5 (lv_at hl 4 rfl) ?_
  refine kb_ci hH hA [0, 1, 2, 3, 4, 5, 6, 7, 8, 9] (Wc := (w_O1 G g V ++ w_O2 G g_p0 V_p0)) (Wc' := (w_O1 G g V ++ w_O2 G g_p0 V_p0)) (WS' := (w_O1 G g V ++ w_O2 G g_p0 V_p0)) rfl (by decide) rfl rfl (va_runV (As := [.ref (g_p0 0), .int x1, .int x2, .int x3]) (rest := [.ref (g_p0 0)]) ⟨hx, hb, hml, hown, hts⟩ (c_X1_waysBehind l G g V g_p0 V_p0 x1 x2 x3 rfl _) (cwV 4 hts gX1_brookUnder_X1_waysBehind rfl rfl rfl he_X1_waysBehind ⟨Nat.le_of_ble_eq_true rfl, Nat.le_of_ble_eq_true rfl⟩) (kb_preV hH hK hN [0, 1, 2, 3, 4, 5, 6, 7, 8, 9] rfl (by decide) 0 rfl rfl rfl rfl) rfl rfl hl.1 rfl (lv_room (Nat.le_of_ble_eq_true rfl)) dX1_brookUnder_7 ⟨Nat.le_of_ble_eq_true rfl, Nat.le_of_ble_eq_true rfl⟩) (fun H locs hH => ?_)
  refine kb_ci hH hA [4, 5, 6, 7, 8, 9] (Wc := (w_O2 G g_p0 V_p0)) (Wc' := (w_O2 G g_p0 V_p0)) (WS' := (w_O1 G g V ++ w_O2 G g_p0 V_p0)) rfl (by decide) rfl rfl (va_runVN (C := RX2) (As := [.int (f_X1_waysBehind V V_p0 x1 x2 x3)]) (rest := []) ⟨hx, hb, hml, hown, hts⟩ (c_X2_brookBy l G g_p0 V_p0 (f_X1_waysBehind V V_p0 x1 x2 x3) rfl _) ⟨va_cnB 1 hts gX1_brookUnder_X2_brookBy_n50 rfl rfl rfl (kb_NM hN 40 rfl) (hts (.initialized RX2) (List.mem_of_getElem? (i := 12) rfl)) hd_X2_brookBy ⟨Nat.le_of_ble_eq_true rfl, Nat.le_of_ble_eq_true rfl⟩, (hts (.instanceMethod yX2_brookBy) (List.mem_of_getElem? (i := 22) rfl)), (hts (.selects RX2 yX2_brookBy yX2_brookBy) (List.mem_of_getElem? (i := 23) rfl))⟩ (kb_preV hH hK hN [4, 5, 6, 7, 8, 9] rfl (by decide) 4 rfl rfl rfl rfl) rfl rfl hl.1 rfl (lv_room (Nat.le_of_ble_eq_true rfl)) dX1_brookUnder_10 ⟨Nat.le_of_ble_eq_true rfl, Nat.le_of_ble_eq_true rfl⟩) (fun H locs hH => ?_)
  subst hF
  exact kb_iret hx hb hr hH rfl rfl dX1_brookUnder_13 hlocks
def f_X1_blowOver (V : OV) (V_p0 : OV) (x1 : Int32) : (Int32 × OV) := ((f_X2_brookBy (oI V_p0 7 (f_X1_waysBehind V V_p0 x1 (V_p0.2.1 8) (0 : Int32))) (f_X1_waysBehind V V_p0 x1 (V_p0.2.1 8) (0 : Int32))), (oI (oI (oI (oI V_p0 7 (f_X1_waysBehind V V_p0 x1 (V_p0.2.1 8) (0 : Int32))) 8 (0 : Int32)) 9 (f_X2_brookBy (oI V_p0 7 (f_X1_waysBehind V V_p0 x1 (V_p0.2.1 8) (0 : Int32))) (f_X1_waysBehind V V_p0 x1 (V_p0.2.1 8) (0 : Int32)))) 10 ((V_p0.2.1 10) + (1 : Int32))))
set_option maxHeartbeats 4000000 in
set_option maxRecDepth 100000 in
theorem c_X1_blowOver (l : Launch) (G : Ge) (g : Nat → Nat) (V : OV) (g_p0 : Nat → Nat) (V_p0 : OV) (x1 : Int32) {F : (Int32 × OV)} (hF : f_X1_blowOver V V_p0 x1 = F) : CI l yX1_blowOver wsX1_blowOver { frames := 3, cells := 0, slots := 0, locals := 74 } [.ref (g 0), .ref (g_p0 0), .int x1] G (w_O1 G g V ++ w_O2 G g_p0 V_p0) (w_O1 G g V ++ w_O2 G g_p0 F.2) F.1 := by
  intro sz
  refine Met.ofW (cc := cX1_blowOver) (maxL := 3) (ret := (some .int)) (by decide) rfl ?_
  intro p e s m args below meth c s₁ B hml hv
  obtain ⟨rfl, hpre⟩ := hv
  obtain ⟨hsz, hH, hK, hN, hA⟩ := kb_start hpre
  subst hsz
  have hx := B.exec
  have hb := B.bytes
  have hr := B.returns
  have hts := atoms_spec (ws := wsX1_blowOver) B.pre
  have hown : s.vm.findClass RX1 = some m.cls := findClass_of_methodNamed B.named
  have hlocks := B.notSynchronized
  generalize hAe : va_A (List.flatten (w_O1 G g V ++ w_O2 G g_p0 V_p0)) s.heap.size = A at hH hA ⊢
  have hl := lv_entry ([.ref (g 0), .ref (g_p0 0), .int x1]) (n := 3) (Nat.le_of_ble_eq_true rfl)
  rw [lg_entry_eq]
  generalize (lg_sl ([.ref (g 0), .ref (g_p0 0), .int x1]) ++ List.replicate (3 - (lg_sl ([.ref (g 0), .ref (g_p0 0), .int x1])).length) Slot.unset).toArray = ls at hl ⊢
  have hl : lv_has ls 3 [(0, .ref (g 0)), (1, .ref (g_p0 0)), (2, .int x1)] := hl
  have hH : HP G A s.heap (w_O1 G g V ++ w_O2 G g_p0 V_p0) s.heap [] := hH
  have hin2 : ∀ w ∈ u_ws RX2 TX2 11, w ∈ wsX1_blowOver := fun w h => List.mem_cons_of_mem _ (List.mem_append_left _ (List.mem_append_right _ h))
  have hF : ((f_X2_brookBy (oI V_p0 7 (f_X1_waysBehind V V_p0 x1 (V_p0.2.1 8) (0 : Int32))) (f_X1_waysBehind V V_p0 x1 (V_p0.2.1 8) (0 : Int32))), (oI (oI (oI (oI V_p0 7 (f_X1_waysBehind V V_p0 x1 (V_p0.2.1 8) (0 : Int32))) 8 (0 : Int32)) 9 (f_X2_brookBy (oI V_p0 7 (f_X1_waysBehind V V_p0 x1 (V_p0.2.1 8) (0 : Int32))) (f_X1_waysBehind V V_p0 x1 (V_p0.2.1 8) (0 : Int32)))) 10 ((V_p0.2.1 10) + (1 : Int32)))) = F := hF
  refine lv_aload_n hx hb dX1_blowOver_0 rfl (lv_at hl 1 rfl) ?_
  refine lv_aload_n hx hb dX1_blowOver_1 rfl (lv_at hl 0 rfl) ?_
  refine lv_aload_n hx hb dX1_blowOver_2 rfl (lv_at hl 1 rfl) ?_
  refine lv_iload_n hx hb dX1_blowOver_3 rfl (lv_at hl 2 rfl) ?_
  refine lv_aload_n hx hb dX1_blowOver_4 rfl (lv_at hl 1 rfl) ?_
  refine kb_getN (v := .int (V_p0.2.1 8)) hx hb hts hin2 hown hK hH 4 rfl rfl rfl 8 (by decide) (kb_NF hN 15 rfl) (fun _ h9 => h9) rfl dX1_blowOver_5 ?_
  refine lv_iconst (v := 0) hx hb dX1_blowOver_8 (by decide) ?_
  refine kb_ci hH hA [0, 1, 2, 3, 4, 5, 6, 7, 8, 9] (Wc := (w_O1 G g V ++ w_O2 G g_p0 V_p0)) (Wc' := (w_O1 G g V ++ w_O2 G g_p0 V_p0)) (WS' := (w_O1 G g V ++ w_O2 G g_p0 V_p0)) rfl (by decide) rfl rfl (va_runV (As := [.ref (g_p0 0), .int x1, .int (V_p0.2.1 8), .int (0 : Int32)]) (rest := [.ref (g_p0 0)]) ⟨hx, hb, hml, hown, hts⟩ (c_X1_waysBehind l G g V g_p0 V_p0 x1 (V_p0.2.1 8) (0 : Int32) rfl _) (cwV 4 hts gX1_blowOver_X1_waysBehind rfl rfl rfl he_X1_waysBehind ⟨Nat.le_of_ble_eq_true rfl, Nat.le_of_ble_eq_true rfl⟩) (kb_preV hH hK hN [0, 1, 2, 3, 4, 5, 6, 7, 8, 9] rfl (by decide) 0 rfl rfl rfl rfl) rfl rfl hl.1 rfl (lv_room (Nat.le_of_ble_eq_true rfl)) dX1_blowOver_9 ⟨Nat.le_of_ble_eq_true rfl, Nat.le_of_ble_eq_true rfl⟩) (fun H locs hH => ?_)
  refine kb_putN (ty := .int) (v := .int (f_X1_waysBehind V V_p0 x1 (V_p0.2.1 8) (0 : Int32))) (WS' := (w_O1 G g V ++ w_O2 G g_p0 (oI V_p0 7 (f_X1_waysBehind V V_p0 x1 (V_p0.2.1 8) (0 : Int32))))) hx hb hts hin2 tyX2 tyX2_ok nmX2 hown hK hH 4 rfl rfl 7 (by decide) (kb_NF hN 13 rfl) (fun _ h9 => h9) rfl (by decide +kernel) rfl rfl (Nat.le_of_ble_eq_true rfl) rfl dX1_blowOver_12 (fun H locs hH => ?_)
  refine lv_aload_n hx hb dX1_blowOver_15 rfl (lv_at hl 1 rfl) ?_
  refine lv_aload_n hx hb dX1_blowOver_16 rfl (lv_at hl 1 rfl) ?_
  refine lv_aload_n hx hb dX1_blowOver_17 rfl (lv_at hl 1 rfl) ?_
  refine kb_getN (v := .int (f_X1_waysBehind V V_p0 x1 (V_p0.2.1 8) (0 : Int32))) hx hb hts hin2 hown hK hH 4 rfl rfl rfl 7 (by decide) (kb_NF hN 13 rfl) (fun _ h9 => h9) rfl dX1_blowOver_18 ?_
  refine kb_ci hH hA [4, 5, 6, 7, 8, 9] (Wc := (w_O2 G g_p0 (oI V_p0 7 (f_X1_waysBehind V V_p0 x1 (V_p0.2.1 8) (0 : Int32))))) (Wc' := (w_O2 G g_p0 (oI V_p0 7 (f_X1_waysBehind V V_p0 x1 (V_p0.2.1 8) (0 : Int32))))) (WS' := (w_O1 G g V ++ w_O2 G g_p0 (oI V_p0 7 (f_X1_waysBehind V V_p0 x1 (V_p0.2.1 8) (0 : Int32))))) rfl (by decide) rfl rfl (va_runVN (C := RX2) (As := [.int (f_X1_waysBehind V V_p0 x1 (V_p0.2.1 8) (0 : Int32))]) (rest := [.ref (g_p0 0)]) ⟨hx, hb, hml, hown, hts⟩ (c_X2_brookBy l G g_p0 (oI V_p0 7 (f_X1_waysBehind V V_p0 x1 (V_p0.2.1 8) (0 : Int32))) (f_X1_waysBehind V V_p0 x1 (V_p0.2.1 8) (0 : Int32)) rfl _) ⟨va_cnB 1 hts gX1_blowOver_X2_brookBy_n50 rfl rfl rfl (kb_NM hN 40 rfl) (hts (.initialized RX2) (List.mem_of_getElem? (i := 12) rfl)) hd_X2_brookBy ⟨Nat.le_of_ble_eq_true rfl, Nat.le_of_ble_eq_true rfl⟩, (hts (.instanceMethod yX2_brookBy) (List.mem_of_getElem? (i := 22) rfl)), (hts (.selects RX2 yX2_brookBy yX2_brookBy) (List.mem_of_getElem? (i := 23) rfl))⟩ (kb_preV hH hK hN [4, 5, 6, 7, 8, 9] rfl (by decide) 4 rfl rfl rfl rfl) rfl rfl hl.1 rfl (lv_room (Nat.le_of_ble_eq_true rfl)) dX1_blowOver_21 ⟨Nat.le_of_ble_eq_true rfl, Nat.le_of_ble_eq_true rfl⟩) (fun H locs hH => ?_)
  refine kb_putN (ty := .int) (v := .int (f_X2_brookBy (oI V_p0 7 (f_X1_waysBehind V V_p0 x1 (V_p0.2.1 8) (0 : Int32))) (f_X1_waysBehind V V_p0 x1 (V_p0.2.1 8) (0 : Int32)))) (WS' := (w_O1 G g V ++ w_O2 G g_p0 (oI (oI V_p0 7 (f_X1_waysBehind V V_p0 x1 (V_p0.2.1 8) (0 : Int32))) 9 (f_X2_brookBy (oI V_p0 7 (f_X1_waysBehind V V_p0 x1 (V_p0.2.1 8) (0 : Int32))) (f_X1_waysBehind V V_p0 x1 (V_p0.2.1 8) (0 : Int32)))))) hx hb hts hin2 tyX2 tyX2_ok nmX2 hown hK hH 4 rfl rfl 9 (by decide) (kb_NF hN 17 rfl) (fun _ h9 => h9) rfl (by decide +kernel) rfl rfl (Nat.le_of_ble_eq_true rfl) rfl dX1_blowOver_24 (fun H locs hH => ?_)
  refine lv_aload_n hx hb dX1_blowOver_27 rfl (lv_at hl 1 rfl) ?_
  refine lv_iconst (v := 0) hx hb dX1_blowOver_28 (by decide) ?_
  refine kb_putN (ty := .int) (v := .int (0 : Int32)) (WS' := (w_O1 G g V ++ w_O2 G g_p0 (oI (oI (oI V_p0 7 (f_X1_waysBehind V V_p0 x1 (V_p0.2.1 8) (0 : Int32))) 8 (0 : Int32)) 9 (f_X2_brookBy (oI V_p0 7 (f_X1_waysBehind V V_p0 x1 (V_p0.2.1 8) (0 : Int32))) (f_X1_waysBehind V V_p0 x1 (V_p0.2.1 8) (0 : Int32)))))) hx hb hts hin2 tyX2 tyX2_ok nmX2 hown hK hH 4 rfl rfl 8 (by decide) (kb_NF hN 15 rfl) (fun _ h9 => h9) rfl (by decide +kernel) rfl rfl (Nat.le_of_ble_eq_true rfl) rfl dX1_blowOver_29 (fun H locs hH => ?_)
  refine lv_aload_n hx hb dX1_blowOver_32 rfl (lv_at hl 1 rfl) ?_
  refine lv_dup hx hb dX1_blowOver_33 rfl ?_
  refine kb_getN (v := .int (V_p0.2.1 10)) hx hb hts hin2 hown hK hH 4 rfl rfl rfl 10 (by decide) (kb_NF hN 20 rfl) (fun _ h9 => h9) rfl dX1_blowOver_34 ?_
  refine lv_iconst (v := 1) hx hb dX1_blowOver_37 (by decide) ?_
  refine lv_iadd hx hb dX1_blowOver_38 ?_
  refine kb_putN (ty := .int) (v := .int ((V_p0.2.1 10) + (1 : Int32))) (WS' := (w_O1 G g V ++ w_O2 G g_p0 (oI (oI (oI (oI V_p0 7 (f_X1_waysBehind V V_p0 x1 (V_p0.2.1 8) (0 : Int32))) 8 (0 : Int32)) 9 (f_X2_brookBy (oI V_p0 7 (f_X1_waysBehind V V_p0 x1 (V_p0.2.1 8) (0 : Int32))) (f_X1_waysBehind V V_p0 x1 (V_p0.2.1 8) (0 : Int32)))) 10 ((V_p0.2.1 10) + (1 : Int32))))) hx hb hts hin2 tyX2 tyX2_ok nmX2 hown hK hH 4 rfl rfl 10 (by decide) (kb_NF hN 20 rfl) (fun _ h9 => h9) rfl (by decide +kernel) rfl rfl (Nat.le_of_ble_eq_true rfl) rfl dX1_blowOver_39 (fun H locs hH => ?_)
  refine lv_aload_n hx hb dX1_blowOver_42 rfl (lv_at hl 1 rfl) ?_
  refine kb_getN (v := .int (f_X2_brookBy (oI V_p0 7 (f_X1_waysBehind V V_p0 x1 (V_p0.2.1 8) (0 : Int32))) (f_X1_waysBehind V V_p0 x1 (V_p0.2.1 8) (0 : Int32)))) hx hb hts hin2 hown hK hH 4 rfl rfl rfl 9 (by decide) (kb_NF hN 17 rfl) (fun _ h9 => h9) rfl dX1_blowOver_43 ?_
  subst hF
  exact kb_iret hx hb hr hH rfl rfl dX1_blowOver_46 hlocks
def f_X1_yearOf_L1 (V : OV) (V_p0 : OV) (x1 : Int32) (x2 : Int32) (iL1 : Nat) (s : (Int32)) : (Int32) := (if (f_X1_brookUnder V V_p0 (nI iL1) (V_p0.2.1 8) x2) = x1 then (s + (f_X7_at 4 (V.1 2) (nI iL1))) else s)
def f_X1_yearOf (V : OV) (V_p0 : OV) (x1 : Int32) (x2 : Int32) : (Int32) := (kAp (lpu (f_X1_yearOf_L1 V V_p0 x1 x2) (cN (V.2.1 3)) 0 (0 : Int32)) (fun z4 => z4))
set_option maxHeartbeats 4000000 in
set_option maxRecDepth 100000 in
theorem c_X1_yearOf (l : Launch) (G : Ge) (g : Nat → Nat) (V : OV) (g_p0 : Nat → Nat) (V_p0 : OV) (x1 : Int32) (x2 : Int32) {F : (Int32)} (hF : f_X1_yearOf V V_p0 x1 x2 = F) : CI l yX1_yearOf wsX1_yearOf { frames := 4, cells := 0, slots := 0, locals := 98 } [.ref (g 0), .ref (g_p0 0), .int x1, .int x2] G (w_O1 G g V ++ w_O2 G g_p0 V_p0) (w_O1 G g V ++ w_O2 G g_p0 V_p0) F := by
  intro sz
  refine Met.ofW (cc := cX1_yearOf) (maxL := 6) (ret := (some .int)) (by decide) rfl ?_
  intro p e s m args below meth c s₁ B hml hv
  obtain ⟨rfl, hpre⟩ := hv
  obtain ⟨hsz, hH, hK, hN, hA⟩ := kb_start hpre
  subst hsz
  have hx := B.exec
  have hb := B.bytes
  have hr := B.returns
  have hts := atoms_spec (ws := wsX1_yearOf) B.pre
  have hown : s.vm.findClass RX1 = some m.cls := findClass_of_methodNamed B.named
  have hlocks := B.notSynchronized
  generalize hAe : va_A (List.flatten (w_O1 G g V ++ w_O2 G g_p0 V_p0)) s.heap.size = A at hH hA ⊢
  have hl := lv_entry ([.ref (g 0), .ref (g_p0 0), .int x1, .int x2]) (n := 6) (Nat.le_of_ble_eq_true rfl)
  rw [lg_entry_eq]
  generalize (lg_sl ([.ref (g 0), .ref (g_p0 0), .int x1, .int x2]) ++ List.replicate (6 - (lg_sl ([.ref (g 0), .ref (g_p0 0), .int x1, .int x2])).length) Slot.unset).toArray = ls at hl ⊢
  have hl : lv_has ls 6 [(0, .ref (g 0)), (1, .ref (g_p0 0)), (2, .int x1), (3, .int x2)] := hl
  have hH : HP G A s.heap (w_O1 G g V ++ w_O2 G g_p0 V_p0) s.heap [] := hH
  have hin1 : ∀ w ∈ u_ws RX1 TX1 4, w ∈ wsX1_yearOf := fun w h => List.mem_cons_of_mem _ (List.mem_append_left _ (List.mem_append_right _ h))
  have hin2 : ∀ w ∈ u_ws RX2 TX2 11, w ∈ wsX1_yearOf := fun w h => List.mem_cons_of_mem _ (List.mem_append_right _ h)
  have hF : (kAp (lpu (f_X1_yearOf_L1 V V_p0 x1 x2) (cN (V.2.1 3)) 0 (0 : Int32)) (fun z4 => z4)) = F := hF
  refine lv_iconst (v := 0) hx hb dX1_yearOf_0 (by decide) ?_
  refine lv_istore (lv' := [(4, .int (0 : Int32)), (0, .ref (g 0)), (1, .ref (g_p0 0)), (2, .int x1), (3, .int x2)]) hx hb dX1_yearOf_1 hl (by decide) rfl (fun ls hl => ?_)
  refine lv_iconst (v := 0) hx hb dX1_yearOf_3 (by decide) ?_
  refine lv_istore (lv' := [(5, .int (0 : Int32)), (4, .int (0 : Int32)), (0, .ref (g 0)), (1, .ref (g_p0 0)), (2, .int x1), (3, .int x2)]) hx hb dX1_yearOf_4 hl (by decide) rfl (fun ls hl => ?_)
  obtain ⟨SFL1, hSFL1⟩ : ∃ z, z = (lpu (f_X1_yearOf_L1 V V_p0 x1 x2) (cN (V.2.1 3)) 0 (0 : Int32)) := ⟨_, rfl⟩
  have hF := kAp_eq hF hSFL1
  refine kb_cut (fun H locs ls => HP G A s.heap (w_O1 G g V ++ w_O2 G g_p0 V_p0) H locs ∧ lv_has ls 6 [(4, .int SFL1)]) 51 [] (fun EXL1 => ?_) (fun H locs ls hX => ?_)
  · refine kb_loop (σ := (Int32)) (fun n i x => n + i = (cN (V.2.1 3)) ∧ lpu (f_X1_yearOf_L1 V V_p0 x1 x2) n i x = SFL1) (fun iL1 x H locs ls => HP G A s.heap (w_O1 G g V ++ w_O2 G g_p0 V_p0) H locs ∧ lv_has ls 6 [(5, .int (nI iL1)), (4, .int x), (0, .ref (g 0)), (1, .ref (g_p0 0)), (2, .int x1), (3, .int x2)]) (fun iL1 x H locs ls hI hX => ?_) (fun n iL1 x hI ihL1 H locs ls hX => ?_) (cN (V.2.1 3)) 0 (0 : Int32) _ _ _ ⟨Nat.add_zero _, hSFL1.symm⟩ ⟨hH, lv_sub hl [0, 1, 2, 3, 4, 5] rfl⟩
    · obtain ⟨L1a, exL1a⟩ : ∃ z, z = x := ⟨_, rfl⟩
      subst exL1a
      have hH : HP G A s.heap (w_O1 G g V ++ w_O2 G g_p0 V_p0) H locs := hX.1
      have hl : lv_has ls 6 [(5, .int (nI iL1)), (4, .int L1a), (0, .ref (g 0)), (1, .ref (g_p0 0)), (2, .int x1), (3, .int x2)] := hX.2
      obtain ⟨hiL1, hs⟩ := hI
      have hiL1 : iL1 = (cN (V.2.1 3)) := by omega
      refine lv_iload hx hb dX1_yearOf_6 (lv_at hl 0 rfl) ?_
      refine lv_aload_n hx hb dX1_yearOf_8 rfl (lv_at hl 2 rfl) ?_
      refine kb_get (v := .int (V.2.1 3)) hx hb hts hin1 hown hK hH 0 rfl rfl rfl 3 (by decide) (hts (.fieldLink RX1 25 "CockWar$Air" "winds" "I") (List.mem_of_getElem? (i := 1) rfl)) (fun _ h9 => h9) rfl dX1_yearOf_9 ?_
      refine lv_icmp_ge (tgt := 51) hx hb dX1_yearOf_12 (by decide) (fun _ => ?_) (fun c => absurd (cN_end hiL1) c)
      exact EXL1 _ _ _ ⟨by subst hs; exact hH, by subst hs; exact lv_sub hl [1] rfl⟩
    · obtain ⟨L1a, exL1a⟩ : ∃ z, z = x := ⟨_, rfl⟩
      subst exL1a
      have hH : HP G A s.heap (w_O1 G g V ++ w_O2 G g_p0 V_p0) H locs := hX.1
      have hl : lv_has ls 6 [(5, .int (nI iL1)), (4, .int L1a), (0, .ref (g 0)), (1, .ref (g_p0 0)), (2, .int x1), (3, .int x2)] := hX.2
      obtain ⟨hiL1, hs⟩ := hI
      have hltL1 : iL1 < (cN (V.2.1 3)) := by omega
      obtain ⟨BVL1, hBd⟩ : ∃ z, (f_X1_yearOf_L1 V V_p0 x1 x2) iL1 L1a = z := ⟨_, rfl⟩
      have hs : lpu (f_X1_yearOf_L1 V V_p0 x1 x2) n (iL1 + 1) BVL1 = SFL1 := by rw [← hBd]; exact hs
      have hBL1 : (if (f_X1_brookUnder V V_p0 (nI iL1) (V_p0.2.1 8) x2) = x1 then (L1a + (f_X7_at 4 (V.1 2) (nI iL1))) else L1a) = BVL1 := hBd
      refine lv_iload hx hb dX1_yearOf_6 (lv_at hl 0 rfl) ?_
      refine lv_aload_n hx hb dX1_yearOf_8 rfl (lv_at hl 2 rfl) ?_
      refine kb_get (v := .int (V.2.1 3)) hx hb hts hin1 hown hK hH 0 rfl rfl rfl 3 (by decide) (hts (.fieldLink RX1 25 "CockWar$Air" "winds" "I") (List.mem_of_getElem? (i := 1) rfl)) (fun _ h9 => h9) rfl dX1_yearOf_9 ?_
      refine lv_icmp_ge (tgt := 51) hx hb dX1_yearOf_12 (by decide) (fun c => absurd c (cN_ge hltL1)) (fun c2 => ?_)
      refine lv_aload_n hx hb dX1_yearOf_15 rfl (lv_at hl 2 rfl) ?_
      refine lv_aload_n hx hb dX1_yearOf_16 rfl (lv_at hl 3 rfl) ?_
      refine lv_iload hx hb dX1_yearOf_17 (lv_at hl 0 rfl) ?_
      refine lv_aload_n hx hb dX1_yearOf_19 rfl (lv_at hl 3 rfl) ?_
      refine kb_getN (v := .int (V_p0.2.1 8)) hx hb hts hin2 hown hK hH 4 rfl rfl rfl 8 (by decide) (kb_NF hN 15 rfl) (fun _ h9 => h9) rfl dX1_yearOf_20 ?_
      refine lv_iload_n hx hb dX1_yearOf_23 rfl (lv_at hl 5 rfl) ?_
      refine kb_ci hH hA [0, 1, 2, 3, 4, 5, 6, 7, 8, 9] (Wc := (w_O1 G g V ++ w_O2 G g_p0 V_p0)) (Wc' := (w_O1 G g V ++ w_O2 G g_p0 V_p0)) (WS' := (w_O1 G g V ++ w_O2 G g_p0 V_p0)) rfl (by decide) rfl rfl (va_runV (As := [.ref (g_p0 0), .int (nI iL1), .int (V_p0.2.1 8), .int x2]) (rest := []) ⟨hx, hb, hml, hown, hts⟩ (c_X1_brookUnder l G g V g_p0 V_p0 (nI iL1) (V_p0.2.1 8) x2 rfl _) (cwV 4 hts gX1_yearOf_X1_brookUnder rfl rfl rfl he_X1_brookUnder ⟨Nat.le_of_ble_eq_true rfl, Nat.le_of_ble_eq_true rfl⟩) (kb_preV hH hK hN [0, 1, 2, 3, 4, 5, 6, 7, 8, 9] rfl (by decide) 0 rfl rfl rfl rfl) rfl rfl hl.1 rfl (lv_room (Nat.le_of_ble_eq_true rfl)) dX1_yearOf_24 ⟨Nat.le_of_ble_eq_true rfl, Nat.le_of_ble_eq_true rfl⟩) (fun H locs hH => ?_)
      refine lv_iload_n hx hb dX1_yearOf_27 rfl (lv_at hl 4 rfl) ?_
      refine lv_icmp_ne (tgt := 45) hx hb dX1_yearOf_28 (by decide) (fun c3 => ?_) (fun c3 => ?_)
      · rw [if_neg c3] at hBL1
        refine lv_iinc (v := (nI (iL1 + 1))) (lv' := [(5, .int (nI (iL1 + 1))), (4, .int L1a), (0, .ref (g 0)), (1, .ref (g_p0 0)), (2, .int x1), (3, .int x2)]) hx hb dX1_yearOf_45 hl (k := 0) rfl (nI_1 _) (by decide) rfl (fun ls hl => ?_)
        refine lv_goto (tgt := 6) hx hb dX1_yearOf_48 (by decide) ?_
        subst hBL1
        exact ihL1 _ _ _ _ ⟨by omega, hs⟩ ⟨hH, lv_sub hl [0, 1, 2, 3, 4, 5] rfl⟩
      · rw [if_pos c3] at hBL1
        refine lv_iload hx hb dX1_yearOf_31 (lv_at hl 1 rfl) ?_
        refine lv_aload_n hx hb dX1_yearOf_33 rfl (lv_at hl 2 rfl) ?_
        refine kb_get (v := .ref (g 3)) hx hb hts hin1 hown hK hH 0 rfl rfl rfl 2 (by decide) (hts (.fieldLink RX1 18 "CockWar$Air" "days" "[I") (List.mem_of_getElem? (i := 2) rfl)) (fun _ h9 => h9) rfl dX1_yearOf_34 ?_
        refine lv_iload hx hb dX1_yearOf_37 (lv_at hl 0 rfl) ?_
        refine kb_ci hH hA [3] (Wc := ([b_arr G (g 3) 4 (V.1 2)])) (Wc' := ([b_arr G (g 3) 4 (V.1 2)])) (WS' := (w_O1 G g V ++ w_O2 G g_p0 V_p0)) rfl (by decide) rfl rfl (va_runSN (As := [.ref (g 3), .int (nI iL1)]) (rest := [.int L1a]) ⟨hx, hb, hml, hown, hts⟩ (c_X7_at l G (g 3) 4 (V.1 2) (nI iL1) (by decide) rfl _) ⟨va_cnB 2 hts gX1_yearOf_X7_at_n33 rfl rfl rfl (kb_NM hN 34 rfl) (hts (.initialized RX7) (List.mem_of_getElem? (i := 15) rfl)) hd_X7_at ⟨Nat.le_of_ble_eq_true rfl, Nat.le_of_ble_eq_true rfl⟩, (hts (.static yX7_at) (List.mem_of_getElem? (i := 14) rfl)), trivial⟩ (kb_preS hH hK hN [3] rfl (by decide)) rfl rfl hl.1 rfl (lv_room (Nat.le_of_ble_eq_true rfl)) dX1_yearOf_39 ⟨Nat.le_of_ble_eq_true rfl, Nat.le_of_ble_eq_true rfl⟩) (fun H locs hH => ?_)
        refine lv_iadd hx hb dX1_yearOf_42 ?_
        refine lv_istore (lv' := [(4, .int (L1a + (f_X7_at 4 (V.1 2) (nI iL1)))), (5, .int (nI iL1)), (0, .ref (g 0)), (1, .ref (g_p0 0)), (2, .int x1), (3, .int x2)]) hx hb dX1_yearOf_43 hl (by decide) rfl (fun ls hl => ?_)
        refine lv_iinc (v := (nI (iL1 + 1))) (lv' := [(5, .int (nI (iL1 + 1))), (4, .int (L1a + (f_X7_at 4 (V.1 2) (nI iL1)))), (0, .ref (g 0)), (1, .ref (g_p0 0)), (2, .int x1), (3, .int x2)]) hx hb dX1_yearOf_45 hl (k := 1) rfl (nI_1 _) (by decide) rfl (fun ls hl => ?_)
        refine lv_goto (tgt := 6) hx hb dX1_yearOf_48 (by decide) ?_
        subst hBL1
        exact ihL1 _ _ _ _ ⟨by omega, hs⟩ ⟨hH, lv_sub hl [0, 1, 2, 3, 4, 5] rfl⟩
  · obtain ⟨hH, hl⟩ := hX
    refine lv_iload hx hb dX1_yearOf_51 (lv_at hl 0 rfl) ?_
    subst hF
    exact kb_iret hx hb hr hH rfl rfl dX1_yearOf_53 hlocks
def f_X1_daysInAll_L1 (V : OV) (iL1 : Nat) (s : (Int32)) : (Int32) := (s + (f_X7_at 4 (V.1 2) (nI iL1)))
def f_X1_daysInAll (V : OV) : (Int32) := (kAp (lpu (f_X1_daysInAll_L1 V) (cN (V.2.1 3)) 0 (0 : Int32)) (fun z3 => z3))
set_option maxHeartbeats 4000000 in
set_option maxRecDepth 100000 in
theorem c_X1_daysInAll (l : Launch) (G : Ge) (g : Nat → Nat) (V : OV) {F : (Int32)} (hF : f_X1_daysInAll V = F) : CI l yX1_daysInAll wsX1_daysInAll { frames := 1, cells := 0, slots := 0, locals := 21 } [.ref (g 0)] G (w_O1 G g V) (w_O1 G g V) F := by
  intro sz
  refine Met.ofW (cc := cX1_daysInAll) (maxL := 3) (ret := (some .int)) (by decide) rfl ?_
  intro p e s m args below meth c s₁ B hml hv
  obtain ⟨rfl, hpre⟩ := hv
  obtain ⟨hsz, hH, hK, hN, hA⟩ := kb_start hpre
  subst hsz
  have hx := B.exec
  have hb := B.bytes
  have hr := B.returns
  have hts := atoms_spec (ws := wsX1_daysInAll) B.pre
  have hown : s.vm.findClass RX1 = some m.cls := findClass_of_methodNamed B.named
  have hlocks := B.notSynchronized
  generalize hAe : va_A (List.flatten (w_O1 G g V)) s.heap.size = A at hH hA ⊢
  have hl := lv_entry ([.ref (g 0)]) (n := 3) (Nat.le_of_ble_eq_true rfl)
  rw [lg_entry_eq]
  generalize (lg_sl ([.ref (g 0)]) ++ List.replicate (3 - (lg_sl ([.ref (g 0)])).length) Slot.unset).toArray = ls at hl ⊢
  have hl : lv_has ls 3 [(0, .ref (g 0))] := hl
  have hH : HP G A s.heap (w_O1 G g V) s.heap [] := hH
  have hin1 : ∀ w ∈ u_ws RX1 TX1 4, w ∈ wsX1_daysInAll := fun w h => List.mem_cons_of_mem _ (List.mem_append_right _ h)
  have hF : (kAp (lpu (f_X1_daysInAll_L1 V) (cN (V.2.1 3)) 0 (0 : Int32)) (fun z3 => z3)) = F := hF
  refine lv_iconst (v := 0) hx hb dX1_daysInAll_0 (by decide) ?_
  refine lv_istore_n (lv' := [(1, .int (0 : Int32)), (0, .ref (g 0))]) hx hb dX1_daysInAll_1 rfl hl (by decide) rfl (fun ls hl => ?_)
  refine lv_iconst (v := 0) hx hb dX1_daysInAll_2 (by decide) ?_
  refine lv_istore_n (lv' := [(2, .int (0 : Int32)), (1, .int (0 : Int32)), (0, .ref (g 0))]) hx hb dX1_daysInAll_3 rfl hl (by decide) rfl (fun ls hl => ?_)
  obtain ⟨SFL1, hSFL1⟩ : ∃ z, z = (lpu (f_X1_daysInAll_L1 V) (cN (V.2.1 3)) 0 (0 : Int32)) := ⟨_, rfl⟩
  have hF := kAp_eq hF hSFL1
  refine kb_cut (fun H locs ls => HP G A s.heap (w_O1 G g V) H locs ∧ lv_has ls 3 [(1, .int SFL1)]) 29 [] (fun EXL1 => ?_) (fun H locs ls hX => ?_)
  · refine kb_loop (σ := (Int32)) (fun n i x => n + i = (cN (V.2.1 3)) ∧ lpu (f_X1_daysInAll_L1 V) n i x = SFL1) (fun iL1 x H locs ls => HP G A s.heap (w_O1 G g V) H locs ∧ lv_has ls 3 [(2, .int (nI iL1)), (1, .int x), (0, .ref (g 0))]) (fun iL1 x H locs ls hI hX => ?_) (fun n iL1 x hI ihL1 H locs ls hX => ?_) (cN (V.2.1 3)) 0 (0 : Int32) _ _ _ ⟨Nat.add_zero _, hSFL1.symm⟩ ⟨hH, lv_sub hl [0, 1, 2] rfl⟩
    · obtain ⟨L1a, exL1a⟩ : ∃ z, z = x := ⟨_, rfl⟩
      subst exL1a
      have hH : HP G A s.heap (w_O1 G g V) H locs := hX.1
      have hl : lv_has ls 3 [(2, .int (nI iL1)), (1, .int L1a), (0, .ref (g 0))] := hX.2
      obtain ⟨hiL1, hs⟩ := hI
      have hiL1 : iL1 = (cN (V.2.1 3)) := by omega
      refine lv_iload_n hx hb dX1_daysInAll_4 rfl (lv_at hl 0 rfl) ?_
      refine lv_aload_n hx hb dX1_daysInAll_5 rfl (lv_at hl 2 rfl) ?_
      refine kb_get (v := .int (V.2.1 3)) hx hb hts hin1 hown hK hH 0 rfl rfl rfl 3 (by decide) (hts (.fieldLink RX1 25 "CockWar$Air" "winds" "I") (List.mem_of_getElem? (i := 1) rfl)) (fun _ h9 => h9) rfl dX1_daysInAll_6 ?_
      refine lv_icmp_ge (tgt := 29) hx hb dX1_daysInAll_9 (by decide) (fun _ => ?_) (fun c => absurd (cN_end hiL1) c)
      exact EXL1 _ _ _ ⟨by subst hs; exact hH, by subst hs; exact lv_sub hl [1] rfl⟩
    · obtain ⟨L1a, exL1a⟩ : ∃ z, z = x := ⟨_, rfl⟩
      subst exL1a
      have hH : HP G A s.heap (w_O1 G g V) H locs := hX.1
      have hl : lv_has ls 3 [(2, .int (nI iL1)), (1, .int L1a), (0, .ref (g 0))] := hX.2
      obtain ⟨hiL1, hs⟩ := hI
      have hltL1 : iL1 < (cN (V.2.1 3)) := by omega
      obtain ⟨BVL1, hBd⟩ : ∃ z, (f_X1_daysInAll_L1 V) iL1 L1a = z := ⟨_, rfl⟩
      have hs : lpu (f_X1_daysInAll_L1 V) n (iL1 + 1) BVL1 = SFL1 := by rw [← hBd]; exact hs
      have hBL1 : (L1a + (f_X7_at 4 (V.1 2) (nI iL1))) = BVL1 := hBd
      refine lv_iload_n hx hb dX1_daysInAll_4 rfl (lv_at hl 0 rfl) ?_
      refine lv_aload_n hx hb dX1_daysInAll_5 rfl (lv_at hl 2 rfl) ?_
      refine kb_get (v := .int (V.2.1 3)) hx hb hts hin1 hown hK hH 0 rfl rfl rfl 3 (by decide) (hts (.fieldLink RX1 25 "CockWar$Air" "winds" "I") (List.mem_of_getElem? (i := 1) rfl)) (fun _ h9 => h9) rfl dX1_daysInAll_6 ?_
      refine lv_icmp_ge (tgt := 29) hx hb dX1_daysInAll_9 (by decide) (fun c => absurd c (cN_ge hltL1)) (fun c2 => ?_)
      refine lv_iload_n hx hb dX1_daysInAll_12 rfl (lv_at hl 1 rfl) ?_
      refine lv_aload_n hx hb dX1_daysInAll_13 rfl (lv_at hl 2 rfl) ?_
      refine kb_get (v := .ref (g 3)) hx hb hts hin1 hown hK hH 0 rfl rfl rfl 2 (by decide) (hts (.fieldLink RX1 18 "CockWar$Air" "days" "[I") (List.mem_of_getElem? (i := 2) rfl)) (fun _ h9 => h9) rfl dX1_daysInAll_14 ?_
      refine lv_iload_n hx hb dX1_daysInAll_17 rfl (lv_at hl 0 rfl) ?_
      refine kb_ci hH hA [3] (Wc := ([b_arr G (g 3) 4 (V.1 2)])) (Wc' := ([b_arr G (g 3) 4 (V.1 2)])) (WS' := (w_O1 G g V)) rfl (by decide) rfl rfl (va_runSN (As := [.ref (g 3), .int (nI iL1)]) (rest := [.int L1a]) ⟨hx, hb, hml, hown, hts⟩ (c_X7_at l G (g 3) 4 (V.1 2) (nI iL1) (by decide) rfl _) ⟨va_cnB 2 hts gX1_daysInAll_X7_at_n33 rfl rfl rfl (kb_NM hN 34 rfl) (hts (.initialized RX7) (List.mem_of_getElem? (i := 4) rfl)) hd_X7_at ⟨Nat.le_of_ble_eq_true rfl, Nat.le_of_ble_eq_true rfl⟩, (hts (.static yX7_at) (List.mem_of_getElem? (i := 3) rfl)), trivial⟩ (kb_preS hH hK hN [3] rfl (by decide)) rfl rfl hl.1 rfl (lv_room (Nat.le_of_ble_eq_true rfl)) dX1_daysInAll_18 ⟨Nat.le_of_ble_eq_true rfl, Nat.le_of_ble_eq_true rfl⟩) (fun H locs hH => ?_)
      refine lv_iadd hx hb dX1_daysInAll_21 ?_
      refine lv_istore_n (lv' := [(1, .int (L1a + (f_X7_at 4 (V.1 2) (nI iL1)))), (2, .int (nI iL1)), (0, .ref (g 0))]) hx hb dX1_daysInAll_22 rfl hl (by decide) rfl (fun ls hl => ?_)
      refine lv_iinc (v := (nI (iL1 + 1))) (lv' := [(2, .int (nI (iL1 + 1))), (1, .int (L1a + (f_X7_at 4 (V.1 2) (nI iL1)))), (0, .ref (g 0))]) hx hb dX1_daysInAll_23 hl (k := 1) rfl (nI_1 _) (by decide) rfl (fun ls hl => ?_)
      refine lv_goto (tgt := 4) hx hb dX1_daysInAll_26 (by decide) ?_
      subst hBL1
      exact ihL1 _ _ _ _ ⟨by omega, hs⟩ ⟨hH, lv_sub hl [0, 1, 2] rfl⟩
  · obtain ⟨hH, hl⟩ := hX
    refine lv_iload_n hx hb dX1_daysInAll_29 rfl (lv_at hl 0 rfl) ?_
    subst hF
    exact kb_iret hx hb hr hH rfl rfl dX1_daysInAll_30 hlocks
def f_X1_windOfDay_L1 (V : OV) (iL1 : Nat) (s : (Int32)) : (Int32) ⊕ (Int32) := (if 0 ≤ (s - (f_X7_at 4 (V.1 2) (nI iL1))) then (Sum.inl (s - (f_X7_at 4 (V.1 2) (nI iL1)))) else (Sum.inr (nI iL1)))
def f_X1_windOfDay (V : OV) (x0 : Int32) : (Int32) := (kAx (lpx (f_X1_windOfDay_L1 V) (cN (V.2.1 3)) 0 x0) (fun z4 => (0 : Int32)))
set_option maxHeartbeats 4000000 in
set_option maxRecDepth 100000 in
theorem c_X1_windOfDay (l : Launch) (G : Ge) (g : Nat → Nat) (V : OV) (x0 : Int32) {F : (Int32)} (hF : f_X1_windOfDay V x0 = F) : CI l yX1_windOfDay wsX1_windOfDay { frames := 1, cells := 0, slots := 0, locals := 21 } [.ref (g 0), .int x0] G (w_O1 G g V) (w_O1 G g V) F := by
  intro sz
  refine Met.ofW (cc := cX1_windOfDay) (maxL := 4) (ret := (some .int)) (by decide) rfl ?_
  intro p e s m args below meth c s₁ B hml hv
  obtain ⟨rfl, hpre⟩ := hv
  obtain ⟨hsz, hH, hK, hN, hA⟩ := kb_start hpre
  subst hsz
  have hx := B.exec
  have hb := B.bytes
  have hr := B.returns
  have hts := atoms_spec (ws := wsX1_windOfDay) B.pre
  have hown : s.vm.findClass RX1 = some m.cls := findClass_of_methodNamed B.named
  have hlocks := B.notSynchronized
  generalize hAe : va_A (List.flatten (w_O1 G g V)) s.heap.size = A at hH hA ⊢
  have hl := lv_entry ([.ref (g 0), .int x0]) (n := 4) (Nat.le_of_ble_eq_true rfl)
  rw [lg_entry_eq]
  generalize (lg_sl ([.ref (g 0), .int x0]) ++ List.replicate (4 - (lg_sl ([.ref (g 0), .int x0])).length) Slot.unset).toArray = ls at hl ⊢
  have hl : lv_has ls 4 [(0, .ref (g 0)), (1, .int x0)] := hl
  have hH : HP G A s.heap (w_O1 G g V) s.heap [] := hH
  have hin1 : ∀ w ∈ u_ws RX1 TX1 4, w ∈ wsX1_windOfDay := fun w h => List.mem_cons_of_mem _ (List.mem_append_right _ h)
  have hF : (kAx (lpx (f_X1_windOfDay_L1 V) (cN (V.2.1 3)) 0 x0) (fun z4 => (0 : Int32))) = F := hF
  refine lv_iload_n hx hb dX1_windOfDay_0 rfl (lv_at hl 1 rfl) ?_
  refine lv_istore_n (lv' := [(2, .int x0), (0, .ref (g 0)), (1, .int x0)]) hx hb dX1_windOfDay_1 rfl hl (by decide) rfl (fun ls hl => ?_)
  refine lv_iconst (v := 0) hx hb dX1_windOfDay_2 (by decide) ?_
  refine lv_istore_n (lv' := [(3, .int (0 : Int32)), (2, .int x0), (0, .ref (g 0)), (1, .int x0)]) hx hb dX1_windOfDay_3 rfl hl (by decide) rfl (fun ls hl => ?_)
  obtain ⟨SFL1, hSFL1⟩ : ∃ z, z = (lpx (f_X1_windOfDay_L1 V) (cN (V.2.1 3)) 0 x0) := ⟨_, rfl⟩
  rw [← hSFL1] at hF
  refine kb_cut (fun H locs ls => ∃ z4 : (Int32), SFL1 = Sum.inl z4 ∧ HP G A s.heap (w_O1 G g V) H locs ∧ lv_has ls 4 []) 35 [] (fun EXL1 => ?_) (fun H locs ls hX => ?_)
  · refine kb_loop (σ := (Int32)) (fun n i x => n + i = (cN (V.2.1 3)) ∧ lpx (f_X1_windOfDay_L1 V) n i x = SFL1) (fun iL1 x H locs ls => HP G A s.heap (w_O1 G g V) H locs ∧ lv_has ls 4 [(3, .int (nI iL1)), (2, .int x), (0, .ref (g 0))]) (fun iL1 x H locs ls hI hX => ?_) (fun n iL1 x hI ihL1 H locs ls hX => ?_) (cN (V.2.1 3)) 0 x0 _ _ _ ⟨Nat.add_zero _, hSFL1.symm⟩ ⟨hH, lv_sub hl [0, 1, 2] rfl⟩
    · obtain ⟨L1a, exL1a⟩ : ∃ z, z = x := ⟨_, rfl⟩
      subst exL1a
      have hH : HP G A s.heap (w_O1 G g V) H locs := hX.1
      have hl : lv_has ls 4 [(3, .int (nI iL1)), (2, .int L1a), (0, .ref (g 0))] := hX.2
      obtain ⟨hiL1, hs⟩ := hI
      have hiL1 : iL1 = (cN (V.2.1 3)) := by omega
      refine lv_iload_n hx hb dX1_windOfDay_4 rfl (lv_at hl 0 rfl) ?_
      refine lv_aload_n hx hb dX1_windOfDay_5 rfl (lv_at hl 2 rfl) ?_
      refine kb_get (v := .int (V.2.1 3)) hx hb hts hin1 hown hK hH 0 rfl rfl rfl 3 (by decide) (hts (.fieldLink RX1 25 "CockWar$Air" "winds" "I") (List.mem_of_getElem? (i := 1) rfl)) (fun _ h9 => h9) rfl dX1_windOfDay_6 ?_
      refine lv_icmp_ge (tgt := 35) hx hb dX1_windOfDay_9 (by decide) (fun _ => ?_) (fun c => absurd (cN_end hiL1) c)
      exact EXL1 _ _ _ ⟨_, hs.symm, hH, lv_sub hl [] rfl⟩
    · obtain ⟨L1a, exL1a⟩ : ∃ z, z = x := ⟨_, rfl⟩
      subst exL1a
      have hH : HP G A s.heap (w_O1 G g V) H locs := hX.1
      have hl : lv_has ls 4 [(3, .int (nI iL1)), (2, .int L1a), (0, .ref (g 0))] := hX.2
      obtain ⟨hiL1, hs⟩ := hI
      have hltL1 : iL1 < (cN (V.2.1 3)) := by omega
      obtain ⟨BVL1, hBd⟩ : ∃ z, (f_X1_windOfDay_L1 V) iL1 L1a = z := ⟨_, rfl⟩
      have hBL1 : (if 0 ≤ (L1a - (f_X7_at 4 (V.1 2) (nI iL1))) then (Sum.inl (L1a - (f_X7_at 4 (V.1 2) (nI iL1)))) else (Sum.inr (nI iL1))) = BVL1 := hBd
      refine lv_iload_n hx hb dX1_windOfDay_4 rfl (lv_at hl 0 rfl) ?_
      refine lv_aload_n hx hb dX1_windOfDay_5 rfl (lv_at hl 2 rfl) ?_
      refine kb_get (v := .int (V.2.1 3)) hx hb hts hin1 hown hK hH 0 rfl rfl rfl 3 (by decide) (hts (.fieldLink RX1 25 "CockWar$Air" "winds" "I") (List.mem_of_getElem? (i := 1) rfl)) (fun _ h9 => h9) rfl dX1_windOfDay_6 ?_
      refine lv_icmp_ge (tgt := 35) hx hb dX1_windOfDay_9 (by decide) (fun c => absurd c (cN_ge hltL1)) (fun c2 => ?_)
      refine lv_iload_n hx hb dX1_windOfDay_12 rfl (lv_at hl 1 rfl) ?_
      refine lv_aload_n hx hb dX1_windOfDay_13 rfl (lv_at hl 2 rfl) ?_
      refine kb_get (v := .ref (g 3)) hx hb hts hin1 hown hK hH 0 rfl rfl rfl 2 (by decide) (hts (.fieldLink RX1 18 "CockWar$Air" "days" "[I") (List.mem_of_getElem? (i := 2) rfl)) (fun _ h9 => h9) rfl dX1_windOfDay_14 ?_
      refine lv_iload_n hx hb dX1_windOfDay_17 rfl (lv_at hl 0 rfl) ?_
      refine kb_ci hH hA [3] (Wc := ([b_arr G (g 3) 4 (V.1 2)])) (Wc' := ([b_arr G (g 3) 4 (V.1 2)])) (WS' := (w_O1 G g V)) rfl (by decide) rfl rfl (va_runSN (As := [.ref (g 3), .int (nI iL1)]) (rest := [.int L1a]) ⟨hx, hb, hml, hown, hts⟩ (c_X7_at l G (g 3) 4 (V.1 2) (nI iL1) (by decide) rfl _) ⟨va_cnB 2 hts gX1_windOfDay_X7_at_n33 rfl rfl rfl (kb_NM hN 34 rfl) (hts (.initialized RX7) (List.mem_of_getElem? (i := 4) rfl)) hd_X7_at ⟨Nat.le_of_ble_eq_true rfl, Nat.le_of_ble_eq_true rfl⟩, (hts (.static yX7_at) (List.mem_of_getElem? (i := 3) rfl)), trivial⟩ (kb_preS hH hK hN [3] rfl (by decide)) rfl rfl hl.1 rfl (lv_room (Nat.le_of_ble_eq_true rfl)) dX1_windOfDay_18 ⟨Nat.le_of_ble_eq_true rfl, Nat.le_of_ble_eq_true rfl⟩) (fun H locs hH => ?_)
      refine lv_isub hx hb dX1_windOfDay_21 ?_
      refine lv_istore_n (lv' := [(2, .int (L1a - (f_X7_at 4 (V.1 2) (nI iL1)))), (3, .int (nI iL1)), (0, .ref (g 0))]) hx hb dX1_windOfDay_22 rfl hl (by decide) rfl (fun ls hl => ?_)
      refine lv_iload_n hx hb dX1_windOfDay_23 rfl (lv_at hl 0 rfl) ?_
      refine lv_if_ge (tgt := 29) hx hb dX1_windOfDay_24 (by decide) (fun c3 => ?_) (fun c3 => ?_)
      · rw [if_pos c3] at hBL1
        refine lv_iinc (v := (nI (iL1 + 1))) (lv' := [(3, .int (nI (iL1 + 1))), (2, .int (L1a - (f_X7_at 4 (V.1 2) (nI iL1)))), (0, .ref (g 0))]) hx hb dX1_windOfDay_29 hl (k := 1) rfl (nI_1 _) (by decide) rfl (fun ls hl => ?_)
        refine lv_goto (tgt := 4) hx hb dX1_windOfDay_32 (by decide) ?_
        have hs := lpx_l hs (hBd.trans hBL1.symm)
        exact ihL1 _ _ _ _ ⟨by omega, hs⟩ ⟨hH, lv_sub hl [0, 1, 2] rfl⟩
      · rw [if_neg c3] at hBL1
        refine lv_iload_n hx hb dX1_windOfDay_27 rfl (lv_at hl 1 rfl) ?_
        have hx2 := lpx_r hs (hBd.trans hBL1.symm)
        have hF := kAx_r hF hx2
        subst hF
        exact kb_iret hx hb hr hH rfl rfl dX1_windOfDay_28 hlocks
  · obtain ⟨z4, hzz4, hH, hl⟩ := hX
    have hF := kAx_l hF hzz4
    refine lv_iconst (v := 0) hx hb dX1_windOfDay_35 (by decide) ?_
    subst hF
    exact kb_iret hx hb hr hH rfl rfl dX1_windOfDay_36 hlocks
