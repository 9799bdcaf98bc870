theorem hd_X5_add : yX5_add.cls ≠ "java/lang/invoke/MethodHandle" ∧ yX5_add.cls ≠ "java/lang/invoke/VarHandle" ∧ (parseMethodDescriptor yX5_add.desc).map (fun d => d.parameters.length) = some 2 := by decide +kernel
theorem he_X5_add : yX5_add.cls = RX5 ∧ yX5_add.cls ≠ "java/lang/invoke/MethodHandle" ∧ yX5_add.cls ≠ "java/lang/invoke/VarHandle" ∧ (parseMethodDescriptor yX5_add.desc).map (fun d => d.parameters.length) = some 2 := ⟨rfl, hd_X5_add⟩
theorem hd_X5_agree : yX5_agree.cls ≠ "java/lang/invoke/MethodHandle" ∧ yX5_agree.cls ≠ "java/lang/invoke/VarHandle" ∧ (parseMethodDescriptor yX5_agree.desc).map (fun d => d.parameters.length) = some 2 := by decide +kernel
theorem he_X5_agree : yX5_agree.cls = RX5 ∧ yX5_agree.cls ≠ "java/lang/invoke/MethodHandle" ∧ yX5_agree.cls ≠ "java/lang/invoke/VarHandle" ∧ (parseMethodDescriptor yX5_agree.desc).map (fun d => d.parameters.length) = some 2 := ⟨rfl, hd_X5_agree⟩
theorem hd_X3_tryOne : yX3_tryOne.cls ≠ "java/lang/invoke/MethodHandle" ∧ yX3_tryOne.cls ≠ "java/lang/invoke/VarHandle" ∧ (parseMethodDescriptor yX3_tryOne.desc).map (fun d => d.parameters.length) = some 4 := by decide +kernel
theorem he_X3_tryOne : yX3_tryOne.cls = RX3 ∧ yX3_tryOne.cls ≠ "java/lang/invoke/MethodHandle" ∧ yX3_tryOne.cls ≠ "java/lang/invoke/VarHandle" ∧ (parseMethodDescriptor yX3_tryOne.desc).map (fun d => d.parameters.length) = some 4 := ⟨rfl, hd_X3_tryOne⟩
theorem hd_X3_tryTrees : yX3_tryTrees.cls ≠ "java/lang/invoke/MethodHandle" ∧ yX3_tryTrees.cls ≠ "java/lang/invoke/VarHandle" ∧ (parseMethodDescriptor yX3_tryTrees.desc).map (fun d => d.parameters.length) = some 4 := by decide +kernel
theorem he_X3_tryTrees : yX3_tryTrees.cls = RX3 ∧ yX3_tryTrees.cls ≠ "java/lang/invoke/MethodHandle" ∧ yX3_tryTrees.cls ≠ "java/lang/invoke/VarHandle" ∧ (parseMethodDescriptor yX3_tryTrees.desc).map (fun d => d.parameters.length) = some 4 := ⟨rfl, hd_X3_tryTrees⟩
theorem hd_X3_seek : yX3_seek.cls ≠ "java/lang/invoke/MethodHandle" ∧ yX3_seek.cls ≠ "java/lang/invoke/VarHandle" ∧ (parseMethodDescriptor yX3_seek.desc).map (fun d => d.parameters.length) = some 3 := by decide +kernel
theorem he_X3_seek : yX3_seek.cls = RX3 ∧ yX3_seek.cls ≠ "java/lang/invoke/MethodHandle" ∧ yX3_seek.cls ≠ "java/lang/invoke/VarHandle" ∧ (parseMethodDescriptor yX3_seek.desc).map (fun d => d.parameters.length) = some 3 := ⟨rfl, hd_X3_seek⟩
theorem hd_X0_forget : yX0_forget.cls ≠ "java/lang/invoke/MethodHandle" ∧ yX0_forget.cls ≠ "java/lang/invoke/VarHandle" ∧ (parseMethodDescriptor yX0_forget.desc).map (fun d => d.parameters.length) = some 0 := by decide +kernel
theorem he_X0_forget : yX0_forget.cls = RX0 ∧ yX0_forget.cls ≠ "java/lang/invoke/MethodHandle" ∧ yX0_forget.cls ≠ "java/lang/invoke/VarHandle" ∧ (parseMethodDescriptor yX0_forget.desc).map (fun d => d.parameters.length) = some 0 := ⟨rfl, hd_X0_forget⟩
theorem hd_X0_remember : yX0_remember.cls ≠ "java/lang/invoke/MethodHandle" ∧ yX0_remember.cls ≠ "java/lang/invoke/VarHandle" ∧ (parseMethodDescriptor yX0_remember.desc).map (fun d => d.parameters.length) = some 1 := by decide +kernel
theorem he_X0_remember : yX0_remember.cls = RX0 ∧ yX0_remember.cls ≠ "java/lang/invoke/MethodHandle" ∧ yX0_remember.cls ≠ "java/lang/invoke/VarHandle" ∧ (parseMethodDescriptor yX0_remember.desc).map (fun d => d.parameters.length) = some 1 := ⟨rfl, hd_X0_remember⟩
theorem hd_X0_takeBack : yX0_takeBack.cls ≠ "java/lang/invoke/MethodHandle" ∧ yX0_takeBack.cls ≠ "java/lang/invoke/VarHandle" ∧ (parseMethodDescriptor yX0_takeBack.desc).map (fun d => d.parameters.length) = some 1 := by decide +kernel
theorem he_X0_takeBack : yX0_takeBack.cls = RX0 ∧ yX0_takeBack.cls ≠ "java/lang/invoke/MethodHandle" ∧ yX0_takeBack.cls ≠ "java/lang/invoke/VarHandle" ∧ (parseMethodDescriptor yX0_takeBack.desc).map (fun d => d.parameters.length) = some 1 := ⟨rfl, hd_X0_takeBack⟩
theorem hd_X6_forget : yX6_forget.cls ≠ "java/lang/invoke/MethodHandle" ∧ yX6_forget.cls ≠ "java/lang/invoke/VarHandle" ∧ (parseMethodDescriptor yX6_forget.desc).map (fun d => d.parameters.length) = some 0 := by decide +kernel
theorem he_X6_forget : yX6_forget.cls = RX6 ∧ yX6_forget.cls ≠ "java/lang/invoke/MethodHandle" ∧ yX6_forget.cls ≠ "java/lang/invoke/VarHandle" ∧ (parseMethodDescriptor yX6_forget.desc).map (fun d => d.parameters.length) = some 0 := ⟨rfl, hd_X6_forget⟩
theorem hd_X6_store : yX6_store.cls ≠ "java/lang/invoke/MethodHandle" ∧ yX6_store.cls ≠ "java/lang/invoke/VarHandle" ∧ (parseMethodDescriptor yX6_store.desc).map (fun d => d.parameters.length) = some 2 := by decide +kernel
theorem he_X6_store : yX6_store.cls = RX6 ∧ yX6_store.cls ≠ "java/lang/invoke/MethodHandle" ∧ yX6_store.cls ≠ "java/lang/invoke/VarHandle" ∧ (parseMethodDescriptor yX6_store.desc).map (fun d => d.parameters.length) = some 2 := ⟨rfl, hd_X6_store⟩
theorem hd_X6_fetch : yX6_fetch.cls ≠ "java/lang/invoke/MethodHandle" ∧ yX6_fetch.cls ≠ "java/lang/invoke/VarHandle" ∧ (parseMethodDescriptor yX6_fetch.desc).map (fun d => d.parameters.length) = some 2 := by decide +kernel
theorem he_X6_fetch : yX6_fetch.cls = RX6 ∧ yX6_fetch.cls ≠ "java/lang/invoke/MethodHandle" ∧ yX6_fetch.cls ≠ "java/lang/invoke/VarHandle" ∧ (parseMethodDescriptor yX6_fetch.desc).map (fun d => d.parameters.length) = some 2 := ⟨rfl, hd_X6_fetch⟩
theorem hd_J6_bitCount_0f7a4 : yJ6_bitCount_0f7a4.cls ≠ "java/lang/invoke/MethodHandle" ∧ yJ6_bitCount_0f7a4.cls ≠ "java/lang/invoke/VarHandle" ∧ (parseMethodDescriptor yJ6_bitCount_0f7a4.desc).map (fun d => d.parameters.length) = some 1 := by decide +kernel
theorem he_J6_bitCount_0f7a4 : yJ6_bitCount_0f7a4.cls = RJ6 ∧ yJ6_bitCount_0f7a4.cls ≠ "java/lang/invoke/MethodHandle" ∧ yJ6_bitCount_0f7a4.cls ≠ "java/lang/invoke/VarHandle" ∧ (parseMethodDescriptor yJ6_bitCount_0f7a4.desc).map (fun d => d.parameters.length) = some 1 := ⟨rfl, hd_J6_bitCount_0f7a4⟩
def f_X5_add (V : OV) (x0 : Int32) (x1 : Int32) : (Int32 × OV) := (if (V.2.1 2) < (6 : Int32) then (kAp (f_X7_put 6 (V.1 0) (V.2.1 2) x0) (fun q2 => (kAp (f_X7_put 6 (V.1 1) (V.2.1 2) x1) (fun q3 => (((V.2.1 2) + (1 : Int32)), (oI (oA (oA V 0 q2) 1 q3) 2 ((V.2.1 2) + (1 : Int32)))))))) else ((-4 : Int32), V))
set_option maxHeartbeats 4000000 in
set_option maxRecDepth 100000 in
theorem c_X5_add (l : Launch) (G : Ge) (g : Nat → Nat) (V : OV) (x0 : Int32) (x1 : Int32) {F : (Int32 × OV)} (hF : f_X5_add V x0 x1 = F) : CI l yX5_add wsX5_add { frames := 1, cells := 0, slots := 0, locals := 22 } [.ref (g 0), .int x0, .int x1] G (w_O5 G g V) (w_O5 G g F.2) F.1 := by
  intro sz
  refine Met.ofW (cc := cX5_add) (maxL := 3) (ret := (some .int)) (by decide) rfl ?_
  intro p e s m args below meth c s₁ B hml hv
  obtain ⟨rfl, hpre⟩ := hv
  obtain ⟨hsz, hH, hK, hN, hA⟩ := kb_start hpre
  subst hsz
  have hx := B.exec
  have hb := B.bytes
  have hr := B.returns
  have hts := atoms_spec (ws := wsX5_add) B.pre
  have hown : s.vm.findClass RX5 = some m.cls := findClass_of_methodNamed B.named
  have hlocks := B.notSynchronized
  generalize hAe : va_A (List.flatten (w_O5 G g V)) s.heap.size = A at hH hA ⊢
  have hl := lv_entry ([.ref (g 0), .int x0, .int x1]) (n := 3) (Nat.le_of_ble_eq_true rfl)
  rw [lg_entry_eq]
  generalize (lg_sl ([.ref (g 0), .int x0, .int x1]) ++ List.replicate (3 - (lg_sl ([.ref (g 0), .int x0, .int x1])).length) Slot.unset).toArray = ls at hl ⊢
  have hl : lv_has ls 3 [(0, .ref (g 0)), (1, .int x0), (2, .int x1)] := hl
  have hH : HP G A s.heap (w_O5 G g V) s.heap [] := hH
  have hin5 : ∀ w ∈ u_ws RX5 TX5 3, w ∈ wsX5_add := fun w h => List.mem_cons_of_mem _ (List.mem_append_right _ h)
  have hF : (if (V.2.1 2) < (6 : Int32) then (kAp (f_X7_put 6 (V.1 0) (V.2.1 2) x0) (fun q2 => (kAp (f_X7_put 6 (V.1 1) (V.2.1 2) x1) (fun q3 => (((V.2.1 2) + (1 : Int32)), (oI (oA (oA V 0 q2) 1 q3) 2 ((V.2.1 2) + (1 : Int32)))))))) else ((-4 : Int32), V)) = F := hF
  refine lv_aload_n hx hb dX5_add_0 rfl (lv_at hl 0 rfl) ?_
  refine kb_get (v := .int (V.2.1 2)) hx hb hts hin5 hown hK hH 0 rfl rfl rfl 2 (by decide) (hts (.fieldLink RX5 18 "CockWar$Sights" "number" "I") (List.mem_of_getElem? (i := 1) rfl)) (fun _ h9 => h9) rfl dX5_add_1 ?_
  refine lv_bipush (v := 6) hx hb dX5_add_4 (by decide) ?_
  refine lv_icmp_lt (tgt := 12) hx hb dX5_add_6 (by decide) (fun c1 => ?_) (fun c1 => ?_)
  · rw [if_pos c1] at hF
    refine lv_aload_n hx hb dX5_add_12 rfl (lv_at hl 0 rfl) ?_
    refine kb_get (v := .ref (g 1)) hx hb hts hin5 hown hK hH 0 rfl rfl rfl 0 (by decide) (hts (.fieldLink RX5 9 "CockWar$Sights" "cocks" "[I") (List.mem_of_getElem? (i := 2) rfl)) (fun _ h9 => h9) rfl dX5_add_13 ?_
    refine lv_aload_n hx hb dX5_add_16 rfl (lv_at hl 0 rfl) ?_
    refine kb_get (v := .int (V.2.1 2)) hx hb hts hin5 hown hK hH 0 rfl rfl rfl 2 (by decide) (hts (.fieldLink RX5 18 "CockWar$Sights" "number" "I") (List.mem_of_getElem? (i := 1) rfl)) (fun _ h9 => h9) rfl dX5_add_17 ?_
    refine lv_iload_n hx hb dX5_add_20 rfl (lv_at hl 1 rfl) ?_
    obtain ⟨q2, hq2⟩ : ∃ z, z = (f_X7_put 6 (V.1 0) (V.2.1 2) x0) := ⟨_, rfl⟩
    have hF := kAp_eq hF hq2
    refine kb_cv hH hA [1] (Wc := ([b_arr G (g 1) 6 (V.1 0)])) (Wc' := ([b_arr G (g 1) 6 q2])) (WS' := (w_O5 G g (oA V 0 q2))) rfl (by decide) rfl rfl (va_runSN (As := [.ref (g 1), .int (V.2.1 2), .int x0]) (rest := []) ⟨hx, hb, hml, hown, hts⟩ (c_X7_put l G (g 1) 6 (V.1 0) (V.2.1 2) x0 (by decide) hq2.symm _) ⟨va_cnB 3 hts gX5_add_X7_put_n22 rfl rfl rfl (kb_NM hN 56 rfl) (hts (.initialized RX7) (List.mem_of_getElem? (i := 5) rfl)) hd_X7_put ⟨Nat.le_of_ble_eq_true rfl, Nat.le_of_ble_eq_true rfl⟩, (hts (.static yX7_put) (List.mem_of_getElem? (i := 4) rfl)), trivial⟩ (kb_preS hH hK hN [1] rfl (by decide)) rfl rfl hl.1 rfl (lv_room (Nat.le_of_ble_eq_true rfl)) dX5_add_21 ⟨Nat.le_of_ble_eq_true rfl, Nat.le_of_ble_eq_true rfl⟩) (fun H locs hH => ?_)
    refine lv_aload_n hx hb dX5_add_24 rfl (lv_at hl 0 rfl) ?_
    refine kb_get (v := .ref (g 2)) hx hb hts hin5 hown hK hH 0 rfl rfl rfl 1 (by decide) (hts (.fieldLink RX5 15 "CockWar$Sights" "ways" "[I") (List.mem_of_getElem? (i := 3) rfl)) (fun _ h9 => h9) rfl dX5_add_25 ?_
    refine lv_aload_n hx hb dX5_add_28 rfl (lv_at hl 0 rfl) ?_
    refine kb_get (v := .int (V.2.1 2)) hx hb hts hin5 hown hK hH 0 rfl rfl rfl 2 (by decide) (hts (.fieldLink RX5 18 "CockWar$Sights" "number" "I") (List.mem_of_getElem? (i := 1) rfl)) (fun _ h9 => h9) rfl dX5_add_29 ?_
    refine lv_iload_n hx hb dX5_add_32 rfl (lv_at hl 2 rfl) ?_
    obtain ⟨q3, hq3⟩ : ∃ z, z = (f_X7_put 6 (V.1 1) (V.2.1 2) x1) := ⟨_, rfl⟩
    have hF := kAp_eq hF hq3
    refine kb_cv hH hA [2] (Wc := ([b_arr G (g 2) 6 (V.1 1)])) (Wc' := ([b_arr G (g 2) 6 q3])) (WS' := (w_O5 G g (oA (oA V 0 q2) 1 q3))) rfl (by decide) rfl rfl (va_runSN (As := [.ref (g 2), .int (V.2.1 2), .int x1]) (rest := []) ⟨hx, hb, hml, hown, hts⟩ (c_X7_put l G (g 2) 6 (V.1 1) (V.2.1 2) x1 (by decide) hq3.symm _) ⟨va_cnB 3 hts gX5_add_X7_put_n22 rfl rfl rfl (kb_NM hN 56 rfl) (hts (.initialized RX7) (List.mem_of_getElem? (i := 5) rfl)) hd_X7_put ⟨Nat.le_of_ble_eq_true rfl, Nat.le_of_ble_eq_true rfl⟩, (hts (.static yX7_put) (List.mem_of_getElem? (i := 4) rfl)), trivial⟩ (kb_preS hH hK hN [2] rfl (by decide)) rfl rfl hl.1 rfl (lv_room (Nat.le_of_ble_eq_true rfl)) dX5_add_33 ⟨Nat.le_of_ble_eq_true rfl, Nat.le_of_ble_eq_true rfl⟩) (fun H locs hH => ?_)
    refine lv_aload_n hx hb dX5_add_36 rfl (lv_at hl 0 rfl) ?_
    refine lv_dup hx hb dX5_add_37 rfl ?_
    refine kb_get (v := .int (V.2.1 2)) hx hb hts hin5 hown hK hH 0 rfl rfl rfl 2 (by decide) (hts (.fieldLink RX5 18 "CockWar$Sights" "number" "I") (List.mem_of_getElem? (i := 1) rfl)) (fun _ h9 => h9) rfl dX5_add_38 ?_
    refine lv_iconst (v := 1) hx hb dX5_add_41 (by decide) ?_
    refine lv_iadd hx hb dX5_add_42 ?_
    refine kb_put (ty := .int) (v := .int ((V.2.1 2) + (1 : Int32))) (WS' := (w_O5 G g (oI (oA (oA V 0 q2) 1 q3) 2 ((V.2.1 2) + (1 : Int32))))) hx hb hts hin5 tyX5 tyX5_ok nmX5 hown hK hH 0 rfl rfl 2 (by decide) (hts (.fieldLink RX5 18 "CockWar$Sights" "number" "I") (List.mem_of_getElem? (i := 1) rfl)) (fun _ h9 => h9) rfl (by decide +kernel) rfl rfl (Nat.le_of_ble_eq_true rfl) rfl dX5_add_43 (fun H locs hH => ?_)
    refine lv_aload_n hx hb dX5_add_46 rfl (lv_at hl 0 rfl) ?_
    refine kb_get (v := .int ((V.2.1 2) + (1 : Int32))) hx hb hts hin5 hown hK hH 0 rfl rfl rfl 2 (by decide) (hts (.fieldLink RX5 18 "CockWar$Sights" "number" "I") (List.mem_of_getElem? (i := 1) rfl)) (fun _ h9 => h9) rfl dX5_add_47 ?_
    subst hF
    exact kb_iret hx hb hr hH rfl rfl dX5_add_50 hlocks
  · rw [if_neg c1] at hF
    refine lv_bipush (v := -4) hx hb dX5_add_9 (by decide) ?_
    subst hF
    exact kb_iret hx hb hr hH rfl rfl dX5_add_11 hlocks
def f_X5_agree_L1 (V : OV) (V_p0 : OV) (x1 : Int32) (iL1 : Nat) (s : (Unit)) : (Unit) ⊕ (Int32) := (if (f_X2_hasCock V_p0 (f_X7_at 6 (V.1 0) (nI iL1))) = 0 then (Sum.inl ()) else (if (f_X7_bit x1 (f_X7_at 6 (V.1 0) (nI iL1))) = (f_X7_at 6 (V.1 1) (nI iL1)) then (Sum.inl ()) else (Sum.inr (0 : Int32))))
def f_X5_agree (V : OV) (V_p0 : OV) (x1 : Int32) : (Int32) := (kAx (lpx (f_X5_agree_L1 V V_p0 x1) (cN (V.2.1 2)) 0 ()) (fun z5 => (1 : Int32)))
set_option maxHeartbeats 4000000 in
set_option maxRecDepth 100000 in
theorem c_X5_agree (l : Launch) (G : Ge) (g : Nat → Nat) (V : OV) (g_p0 : Nat → Nat) (V_p0 : OV) (x1 : Int32) {F : (Int32)} (hF : f_X5_agree V V_p0 x1 = F) : CI l yX5_agree wsX5_agree { frames := 1, cells := 0, slots := 0, locals := 21 } [.ref (g 0), .ref (g_p0 0), .int x1] G (w_O5 G g V ++ w_O2 G g_p0 V_p0) (w_O5 G g V ++ w_O2 G g_p0 V_p0) F := by
  intro sz
  refine Met.ofW (cc := cX5_agree) (maxL := 5) (ret := (some .boolean)) (by decide) rfl ?_
  intro p e s m args below meth c s₁ B hml hv
  obtain ⟨rfl, hpre⟩ := hv
  obtain ⟨hsz, hH, hK, hN, hA⟩ := kb_start hpre
  subst hsz
  have hx := B.exec
  have hb := B.bytes
  have hr := B.returns
  have hts := atoms_spec (ws := wsX5_agree) B.pre
  have hown : s.vm.findClass RX5 = some m.cls := findClass_of_methodNamed B.named
  have hlocks := B.notSynchronized
  generalize hAe : va_A (List.flatten (w_O5 G g V ++ w_O2 G g_p0 V_p0)) s.heap.size = A at hH hA ⊢
  have hl := lv_entry ([.ref (g 0), .ref (g_p0 0), .int x1]) (n := 5) (Nat.le_of_ble_eq_true rfl)
  rw [lg_entry_eq]
  generalize (lg_sl ([.ref (g 0), .ref (g_p0 0), .int x1]) ++ List.replicate (5 - (lg_sl ([.ref (g 0), .ref (g_p0 0), .int x1])).length) Slot.unset).toArray = ls at hl ⊢
  have hl : lv_has ls 5 [(0, .ref (g 0)), (1, .ref (g_p0 0)), (2, .int x1)] := hl
  have hH : HP G A s.heap (w_O5 G g V ++ w_O2 G g_p0 V_p0) s.heap [] := hH
  have hin5 : ∀ w ∈ u_ws RX5 TX5 3, w ∈ wsX5_agree := fun w h => List.mem_cons_of_mem _ (List.mem_append_left _ (List.mem_append_right _ h))
  have hF : (kAx (lpx (f_X5_agree_L1 V V_p0 x1) (cN (V.2.1 2)) 0 ()) (fun z5 => (1 : Int32))) = F := hF
  refine lv_iconst (v := 0) hx hb dX5_agree_0 (by decide) ?_
  refine lv_istore_n (lv' := [(3, .int (0 : Int32)), (0, .ref (g 0)), (1, .ref (g_p0 0)), (2, .int x1)]) hx hb dX5_agree_1 rfl hl (by decide) rfl (fun ls hl => ?_)
  obtain ⟨SFL1, hSFL1⟩ : ∃ z, z = (lpx (f_X5_agree_L1 V V_p0 x1) (cN (V.2.1 2)) 0 ()) := ⟨_, rfl⟩
  rw [← hSFL1] at hF
  refine kb_cut (fun H locs ls => ∃ z5 : (Unit), SFL1 = Sum.inl z5 ∧ HP G A s.heap (w_O5 G g V ++ w_O2 G g_p0 V_p0) H locs ∧ lv_has ls 5 []) 54 [] (fun EXL1 => ?_) (fun H locs ls hX => ?_)
  · refine kb_loop (σ := (Unit)) (fun n i x => n + i = (cN (V.2.1 2)) ∧ lpx (f_X5_agree_L1 V V_p0 x1) n i x = SFL1) (fun iL1 x H locs ls => HP G A s.heap (w_O5 G g V ++ w_O2 G g_p0 V_p0) H locs ∧ lv_has ls 5 [(3, .int (nI iL1)), (0, .ref (g 0)), (1, .ref (g_p0 0)), (2, .int x1)]) (fun iL1 x H locs ls hI hX => ?_) (fun n iL1 x hI ihL1 H locs ls hX => ?_) (cN (V.2.1 2)) 0 () _ _ _ ⟨Nat.add_zero _, hSFL1.symm⟩ ⟨hH, lv_sub hl [0, 1, 2, 3] rfl⟩
    · have hH : HP G A s.heap (w_O5 G g V ++ w_O2 G g_p0 V_p0) H locs := hX.1
      have hl : lv_has ls 5 [(3, .int (nI iL1)), (0, .ref (g 0)), (1, .ref (g_p0 0)), (2, .int x1)] := hX.2
      obtain ⟨hiL1, hs⟩ := hI
      have hiL1 : iL1 = (cN (V.2.1 2)) := by omega
      refine lv_iload_n hx hb dX5_agree_2 rfl (lv_at hl 0 rfl) ?_
      refine lv_aload_n hx hb dX5_agree_3 rfl (lv_at hl 1 rfl) ?_
      refine kb_get (v := .int (V.2.1 2)) hx hb hts hin5 hown hK hH 0 rfl rfl rfl 2 (by decide) (hts (.fieldLink RX5 18 "CockWar$Sights" "number" "I") (List.mem_of_getElem? (i := 1) rfl)) (fun _ h9 => h9) rfl dX5_agree_4 ?_
      refine lv_icmp_ge (tgt := 54) hx hb dX5_agree_7 (by decide) (fun _ => ?_) (fun c => absurd (cN_end hiL1) c)
      exact EXL1 _ _ _ ⟨_, hs.symm, hH, lv_sub hl [] rfl⟩
    · have hH : HP G A s.heap (w_O5 G g V ++ w_O2 G g_p0 V_p0) H locs := hX.1
      have hl : lv_has ls 5 [(3, .int (nI iL1)), (0, .ref (g 0)), (1, .ref (g_p0 0)), (2, .int x1)] := hX.2
      obtain ⟨hiL1, hs⟩ := hI
      have hltL1 : iL1 < (cN (V.2.1 2)) := by omega
      obtain ⟨BVL1, hBd⟩ : ∃ z, (f_X5_agree_L1 V V_p0 x1) iL1 x = z := ⟨_, rfl⟩
      have hBL1 : (if (f_X2_hasCock V_p0 (f_X7_at 6 (V.1 0) (nI iL1))) = 0 then (Sum.inl ()) else (if (f_X7_bit x1 (f_X7_at 6 (V.1 0) (nI iL1))) = (f_X7_at 6 (V.1 1) (nI iL1)) then (Sum.inl ()) else (Sum.inr (0 : Int32)))) = BVL1 := hBd
      refine lv_iload_n hx hb dX5_agree_2 rfl (lv_at hl 0 rfl) ?_
      refine lv_aload_n hx hb dX5_agree_3 rfl (lv_at hl 1 rfl) ?_
      refine kb_get (v := .int (V.2.1 2)) hx hb hts hin5 hown hK hH 0 rfl rfl rfl 2 (by decide) (hts (.fieldLink RX5 18 "CockWar$Sights" "number" "I") (List.mem_of_getElem? (i := 1) rfl)) (fun _ h9 => h9) rfl dX5_agree_4 ?_
      refine lv_icmp_ge (tgt := 54) hx hb dX5_agree_7 (by decide) (fun c => absurd c (cN_ge hltL1)) (fun c2 => ?_)
      refine lv_aload_n hx hb dX5_agree_10 rfl (lv_at hl 1 rfl) ?_
      refine kb_get (v := .ref (g 1)) hx hb hts hin5 hown hK hH 0 rfl rfl rfl 0 (by decide) (hts (.fieldLink RX5 9 "CockWar$Sights" "cocks" "[I") (List.mem_of_getElem? (i := 2) rfl)) (fun _ h9 => h9) rfl dX5_agree_11 ?_
      refine lv_iload_n hx hb dX5_agree_14 rfl (lv_at hl 0 rfl) ?_
      refine kb_ci hH hA [1] (Wc := ([b_arr G (g 1) 6 (V.1 0)])) (Wc' := ([b_arr G (g 1) 6 (V.1 0)])) (WS' := (w_O5 G g V ++ w_O2 G g_p0 V_p0)) rfl (by decide) rfl rfl (va_runSN (As := [.ref (g 1), .int (nI iL1)]) (rest := []) ⟨hx, hb, hml, hown, hts⟩ (c_X7_at l G (g 1) 6 (V.1 0) (nI iL1) (by decide) rfl _) ⟨va_cnB 2 hts gX5_agree_X7_at_n26 rfl rfl rfl (kb_NM hN 58 rfl) (hts (.initialized RX7) (List.mem_of_getElem? (i := 5) rfl)) hd_X7_at ⟨Nat.le_of_ble_eq_true rfl, Nat.le_of_ble_eq_true rfl⟩, (hts (.static yX7_at) (List.mem_of_getElem? (i := 4) rfl)), trivial⟩ (kb_preS hH hK hN [1] rfl (by decide)) rfl rfl hl.1 rfl (lv_room (Nat.le_of_ble_eq_true rfl)) dX5_agree_15 ⟨Nat.le_of_ble_eq_true rfl, Nat.le_of_ble_eq_true rfl⟩) (fun H locs hH => ?_)
      refine lv_istore (lv' := [(4, .int (f_X7_at 6 (V.1 0) (nI iL1))), (3, .int (nI iL1)), (0, .ref (g 0)), (1, .ref (g_p0 0)), (2, .int x1)]) hx hb dX5_agree_18 hl (by decide) rfl (fun ls hl => ?_)
      refine lv_aload_n hx hb dX5_agree_20 rfl (lv_at hl 3 rfl) ?_
      refine lv_iload hx hb dX5_agree_21 (lv_at hl 0 rfl) ?_
      refine kb_ci hH hA [3, 4, 5, 6, 7, 8] (Wc := (w_O2 G g_p0 V_p0)) (Wc' := (w_O2 G g_p0 V_p0)) (WS' := (w_O5 G g V ++ w_O2 G g_p0 V_p0)) rfl (by decide) rfl rfl (va_runVN (C := RX2) (As := [.int (f_X7_at 6 (V.1 0) (nI iL1))]) (rest := []) ⟨hx, hb, hml, hown, hts⟩ (c_X2_hasCock l G g_p0 V_p0 (f_X7_at 6 (V.1 0) (nI iL1)) rfl _) ⟨va_cnB 1 hts gX5_agree_X2_hasCock_n30 rfl rfl rfl (kb_NM hN 59 rfl) (hts (.initialized RX2) (List.mem_of_getElem? (i := 8) rfl)) hd_X2_hasCock ⟨Nat.le_of_ble_eq_true rfl, Nat.le_of_ble_eq_true rfl⟩, (hts (.instanceMethod yX2_hasCock) (List.mem_of_getElem? (i := 7) rfl)), (hts (.selects RX2 yX2_hasCock yX2_hasCock) (List.mem_of_getElem? (i := 9) rfl))⟩ (kb_preV hH hK hN [3, 4, 5, 6, 7, 8] rfl (by decide) 3 rfl rfl rfl rfl) rfl rfl hl.1 rfl (lv_room (Nat.le_of_ble_eq_true rfl)) dX5_agree_23 ⟨Nat.le_of_ble_eq_true rfl, Nat.le_of_ble_eq_true rfl⟩) (fun H locs hH => ?_)
      refine lv_if_eq (tgt := 48) hx hb dX5_agree_26 (by decide) (fun c3 => ?_) (fun c3 => ?_)
      · rw [if_pos c3] at hBL1
        refine lv_iinc (v := (nI (iL1 + 1))) (lv' := [(3, .int (nI (iL1 + 1))), (4, .int (f_X7_at 6 (V.1 0) (nI iL1))), (0, .ref (g 0)), (1, .ref (g_p0 0)), (2, .int x1)]) hx hb dX5_agree_48 hl (k := 1) rfl (nI_1 _) (by decide) rfl (fun ls hl => ?_)
        refine lv_goto (tgt := 2) hx hb dX5_agree_51 (by decide) ?_
        have hs := lpx_l hs (hBd.trans hBL1.symm)
        exact ihL1 _ _ _ _ ⟨by omega, hs⟩ ⟨hH, lv_sub hl [0, 2, 3, 4] rfl⟩
      · rw [if_neg c3] at hBL1
        refine lv_iload_n hx hb dX5_agree_29 rfl (lv_at hl 4 rfl) ?_
        refine lv_iload hx hb dX5_agree_30 (lv_at hl 0 rfl) ?_
        refine kb_ci hH hA [] (Wc := ([] : List va_W)) (Wc' := ([] : List va_W)) (WS' := (w_O5 G g V ++ w_O2 G g_p0 V_p0)) rfl (by decide) rfl rfl (va_runSN (As := [.int x1, .int (f_X7_at 6 (V.1 0) (nI iL1))]) (rest := []) ⟨hx, hb, hml, hown, hts⟩ (c_X7_bit l G x1 (f_X7_at 6 (V.1 0) (nI iL1)) rfl _) ⟨va_cnB 2 hts gX5_agree_X7_bit_n36 rfl rfl rfl (kb_NM hN 60 rfl) (hts (.initialized RX7) (List.mem_of_getElem? (i := 5) rfl)) hd_X7_bit ⟨Nat.le_of_ble_eq_true rfl, Nat.le_of_ble_eq_true rfl⟩, (hts (.static yX7_bit) (List.mem_of_getElem? (i := 12) rfl)), trivial⟩ (kb_preS hH hK hN [] rfl (by decide)) rfl rfl hl.1 rfl (lv_room (Nat.le_of_ble_eq_true rfl)) dX5_agree_32 ⟨Nat.le_of_ble_eq_true rfl, Nat.le_of_ble_eq_true rfl⟩) (fun H locs hH => ?_)
        refine lv_aload_n hx hb dX5_agree_35 rfl (lv_at hl 2 rfl) ?_
        refine kb_get (v := .ref (g 2)) hx hb hts hin5 hown hK hH 0 rfl rfl rfl 1 (by decide) (hts (.fieldLink RX5 15 "CockWar$Sights" "ways" "[I") (List.mem_of_getElem? (i := 3) rfl)) (fun _ h9 => h9) rfl dX5_agree_36 ?_
        refine lv_iload_n hx hb dX5_agree_39 rfl (lv_at hl 1 rfl) ?_
        refine kb_ci hH hA [2] (Wc := ([b_arr G (g 2) 6 (V.1 1)])) (Wc' := ([b_arr G (g 2) 6 (V.1 1)])) (WS' := (w_O5 G g V ++ w_O2 G g_p0 V_p0)) rfl (by decide) rfl rfl (va_runSN (As := [.ref (g 2), .int (nI iL1)]) (rest := [.int (f_X7_bit x1 (f_X7_at 6 (V.1 0) (nI iL1)))]) ⟨hx, hb, hml, hown, hts⟩ (c_X7_at l G (g 2) 6 (V.1 1) (nI iL1) (by decide) rfl _) ⟨va_cnB 2 hts gX5_agree_X7_at_n26 rfl rfl rfl (kb_NM hN 58 rfl) (hts (.initialized RX7) (List.mem_of_getElem? (i := 5) rfl)) hd_X7_at ⟨Nat.le_of_ble_eq_true rfl, Nat.le_of_ble_eq_true rfl⟩, (hts (.static yX7_at) (List.mem_of_getElem? (i := 4) rfl)), trivial⟩ (kb_preS hH hK hN [2] rfl (by decide)) rfl rfl hl.1 rfl (lv_room (Nat.le_of_ble_eq_true rfl)) dX5_agree_40 ⟨Nat.le_of_ble_eq_true rfl, Nat.le_of_ble_eq_true rfl⟩) (fun H locs hH => ?_)
        refine lv_icmp_eq (tgt := 48) hx hb dX5_agree_43 (by decide) (fun c4 => ?_) (fun c4 => ?_)
        · rw [if_pos c4] at hBL1
          refine lv_iinc (v := (nI (iL1 + 1))) (lv' := [(3, .int (nI (iL1 + 1))), (4, .int (f_X7_at 6 (V.1 0) (nI iL1))), (0, .ref (g 0)), (1, .ref (g_p0 0)), (2, .int x1)]) hx hb dX5_agree_48 hl (k := 1) rfl (nI_1 _) (by decide) rfl (fun ls hl => ?_)
          refine lv_goto (tgt := 2) hx hb dX5_agree_51 (by decide) ?_
          have hs := lpx_l hs (hBd.trans hBL1.symm)
          exact ihL1 _ _ _ _ ⟨by omega, hs⟩ ⟨hH, lv_sub hl [0, 2, 3, 4] rfl⟩
        · rw [if_neg c4] at hBL1
          refine lv_iconst (v := 0) hx hb dX5_agree_46 (by decide) ?_
          have hx2 := lpx_r hs (hBd.trans hBL1.symm)
          have hF := kAx_r hF hx2
          subst hF
          exact kb_zret hx hb hr hH rfl rfl (kb_nar _ (Or.inl rfl)) dX5_agree_47 hlocks
  · obtain ⟨z5, hzz5, hH, hl⟩ := hX
    have hF := kAx_l hF hzz5
    refine lv_iconst (v := 1) hx hb dX5_agree_54 (by decide) ?_
    subst hF
    exact kb_zret hx hb hr hH rfl rfl (kb_nar _ (Or.inr rfl)) dX5_agree_55 hlocks
def f_X3_tryOne (V : OV) (x0 : Int32) (x1 : Int32) (x2 : Int32) (x3 : Int32) : (OV) := (if x0 ≤ (V.2.1 1) then V else (oI (oI (oI (oI V 1 x0) 2 x1) 3 x2) 4 x3))
set_option maxHeartbeats 4000000 in
set_option maxRecDepth 100000 in
theorem c_X3_tryOne (l : Launch) (G : Ge) (g : Nat → Nat) (a_trial : Nat) (V : OV) (x0 : Int32) (x1 : Int32) (x2 : Int32) (x3 : Int32) {F : (OV)} (hF : f_X3_tryOne V x0 x1 x2 x3 = F) : CV l yX3_tryOne wsX3_tryOne { frames := 0, cells := 0, slots := 0, locals := 0 } [.ref (g 0), .int x0, .int x1, .int x2, .int x3] G (w_O3 G g a_trial V) (w_O3 G g a_trial F) := by
  intro sz
  refine Met.ofW (cc := cX3_tryOne) (maxL := 5) (ret := none) (by decide) rfl ?_
  intro p e s m args below meth c s₁ B hml hv
  obtain ⟨rfl, hpre⟩ := hv
  obtain ⟨hsz, hH, hK, hN, hA⟩ := kb_start hpre
  subst hsz
  have hx := B.exec
  have hb := B.bytes
  have hr := B.returns
  have hts := atoms_spec (ws := wsX3_tryOne) B.pre
  have hown : s.vm.findClass RX3 = some m.cls := findClass_of_methodNamed B.named
  have hlocks := B.notSynchronized
  generalize hAe : va_A (List.flatten (w_O3 G g a_trial V)) s.heap.size = A at hH hA ⊢
  have hl := lv_entry ([.ref (g 0), .int x0, .int x1, .int x2, .int x3]) (n := 5) (Nat.le_of_ble_eq_true rfl)
  rw [lg_entry_eq]
  generalize (lg_sl ([.ref (g 0), .int x0, .int x1, .int x2, .int x3]) ++ List.replicate (5 - (lg_sl ([.ref (g 0), .int x0, .int x1, .int x2, .int x3])).length) Slot.unset).toArray = ls at hl ⊢
  have hl : lv_has ls 5 [(0, .ref (g 0)), (1, .int x0), (2, .int x1), (3, .int x2), (4, .int x3)] := hl
  have hH : HP G A s.heap (w_O3 G g a_trial V) s.heap [] := hH
  have hin3 : ∀ w ∈ u_ws RX3 TX3 5, w ∈ wsX3_tryOne := fun w h => List.mem_cons_of_mem _ (List.mem_append_right _ h)
  have hF : (if x0 ≤ (V.2.1 1) then V else (oI (oI (oI (oI V 1 x0) 2 x1) 3 x2) 4 x3)) = F := hF
  refine lv_iload_n hx hb dX3_tryOne_0 rfl (lv_at hl 1 rfl) ?_
  refine lv_aload_n hx hb dX3_tryOne_1 rfl (lv_at hl 0 rfl) ?_
  refine kb_get (v := .int (V.2.1 1)) hx hb hts hin3 hown hK hH 0 rfl rfl rfl 1 (by decide) (hts (.fieldLink RX3 18 "CockWar$Plan" "days" "I") (List.mem_of_getElem? (i := 1) rfl)) (fun _ h9 => h9) rfl dX3_tryOne_2 ?_
  refine lv_icmp_le (tgt := 29) hx hb dX3_tryOne_5 (by decide) (fun c1 => ?_) (fun c1 => ?_)
  · rw [if_pos c1] at hF
    subst hF
    exact kb_vret hx hb hr hH rfl dX3_tryOne_29 hlocks
  · rw [if_neg c1] at hF
    refine lv_aload_n hx hb dX3_tryOne_8 rfl (lv_at hl 0 rfl) ?_
    refine lv_iload_n hx hb dX3_tryOne_9 rfl (lv_at hl 1 rfl) ?_
    refine kb_put (ty := .int) (v := .int x0) (WS' := (w_O3 G g a_trial (oI V 1 x0))) hx hb hts hin3 tyX3 tyX3_ok nmX3 hown hK hH 0 rfl rfl 1 (by decide) (hts (.fieldLink RX3 18 "CockWar$Plan" "days" "I") (List.mem_of_getElem? (i := 1) rfl)) (fun _ h9 => h9) rfl (by decide +kernel) rfl rfl (Nat.le_of_ble_eq_true rfl) rfl dX3_tryOne_10 (fun H locs hH => ?_)
    refine lv_aload_n hx hb dX3_tryOne_13 rfl (lv_at hl 0 rfl) ?_
    refine lv_iload_n hx hb dX3_tryOne_14 rfl (lv_at hl 2 rfl) ?_
    refine kb_put (ty := .int) (v := .int x1) (WS' := (w_O3 G g a_trial (oI (oI V 1 x0) 2 x1))) hx hb hts hin3 tyX3 tyX3_ok nmX3 hown hK hH 0 rfl rfl 2 (by decide) (hts (.fieldLink RX3 69 "CockWar$Plan" "cock" "I") (List.mem_of_getElem? (i := 2) rfl)) (fun _ h9 => h9) rfl (by decide +kernel) rfl rfl (Nat.le_of_ble_eq_true rfl) rfl dX3_tryOne_15 (fun H locs hH => ?_)
    refine lv_aload_n hx hb dX3_tryOne_18 rfl (lv_at hl 0 rfl) ?_
    refine lv_iload_n hx hb dX3_tryOne_19 rfl (lv_at hl 3 rfl) ?_
    refine kb_put (ty := .int) (v := .int x2) (WS' := (w_O3 G g a_trial (oI (oI (oI V 1 x0) 2 x1) 3 x2))) hx hb hts hin3 tyX3 tyX3_ok nmX3 hown hK hH 0 rfl rfl 3 (by decide) (hts (.fieldLink RX3 72 "CockWar$Plan" "cell" "I") (List.mem_of_getElem? (i := 3) rfl)) (fun _ h9 => h9) rfl (by decide +kernel) rfl rfl (Nat.le_of_ble_eq_true rfl) rfl dX3_tryOne_20 (fun H locs hH => ?_)
    refine lv_aload_n hx hb dX3_tryOne_23 rfl (lv_at hl 0 rfl) ?_
    refine lv_iload hx hb dX3_tryOne_24 (lv_at hl 4 rfl) ?_
    refine kb_put (ty := .int) (v := .int x3) (WS' := (w_O3 G g a_trial (oI (oI (oI (oI V 1 x0) 2 x1) 3 x2) 4 x3))) hx hb hts hin3 tyX3 tyX3_ok nmX3 hown hK hH 0 rfl rfl 4 (by decide) (hts (.fieldLink RX3 75 "CockWar$Plan" "tree" "I") (List.mem_of_getElem? (i := 4) rfl)) (fun _ h9 => h9) rfl (by decide +kernel) rfl rfl (Nat.le_of_ble_eq_true rfl) rfl dX3_tryOne_26 (fun H locs hH => ?_)
    subst hF
    exact kb_vret hx hb hr hH rfl dX3_tryOne_29 hlocks
def f_X3_tryTrees_L2 (V_p0 : OV) (V_trial : OV) (x1 : Int32) (x2 : Int32) (x3 : Int32) (iL2 : Nat) (s : (OV)) : (OV) := (if (f_X7_at 10 (V_trial.1 0) (nI iL2)) ≤ 0 then s else (kAp (f_X3_tryOne s (f_X1_yearOf V_p0 V_trial x1 ((1 : Int32) <<< ((nI iL2) &&& 31))) x2 x3 (nI iL2)) (fun q5 => q5)))
def f_X3_tryTrees (V : OV) (V_p0 : OV) (V_trial : OV) (x1 : Int32) (x2 : Int32) (x3 : Int32) : (OV) := (kAp (f_X3_tryOne V (f_X1_yearOf V_p0 V_trial x1 (0 : Int32)) x2 x3 (-9 : Int32)) (fun q1 => (kAp (lpu (f_X3_tryTrees_L2 V_p0 V_trial x1 x2 x3) (cN (10 : Int32)) 0 q1) (fun z6 => z6))))
set_option maxHeartbeats 4000000 in
set_option maxRecDepth 100000 in
theorem c_X3_tryTrees (l : Launch) (G : Ge) (g : Nat → Nat) (V : OV) (g_p0 : Nat → Nat) (V_p0 : OV) (g_trial : Nat → Nat) (V_trial : OV) (x1 : Int32) (x2 : Int32) (x3 : Int32) {F : (OV)} (hF : f_X3_tryTrees V V_p0 V_trial x1 x2 x3 = F) : CV l yX3_tryTrees wsX3_tryTrees { frames := 5, cells := 0, slots := 0, locals := 123 } [.ref (g 0), .ref (g_p0 0), .int x1, .int x2, .int x3] G (w_O3 G g (g_trial 0) V ++ w_O1 G g_p0 V_p0 ++ w_O2 G g_trial V_trial) (w_O3 G g (g_trial 0) F ++ w_O1 G g_p0 V_p0 ++ w_O2 G g_trial V_trial) := by
  intro sz
  refine Met.ofW (cc := cX3_tryTrees) (maxL := 6) (ret := none) (by decide) rfl ?_
  intro p e s m args below meth c s₁ B hml hv
  obtain ⟨rfl, hpre⟩ := hv
  obtain ⟨hsz, hH, hK, hN, hA⟩ := kb_start hpre
  subst hsz
  have hx := B.exec
  have hb := B.bytes
  have hr := B.returns
  have hts := atoms_spec (ws := wsX3_tryTrees) B.pre
  have hown : s.vm.findClass RX3 = some m.cls := findClass_of_methodNamed B.named
  have hlocks := B.notSynchronized
  generalize hAe : va_A (List.flatten (w_O3 G g (g_trial 0) V ++ w_O1 G g_p0 V_p0 ++ w_O2 G g_trial V_trial)) s.heap.size = A at hH hA ⊢
  have hl := lv_entry ([.ref (g 0), .ref (g_p0 0), .int x1, .int x2, .int x3]) (n := 6) (Nat.le_of_ble_eq_true rfl)
  rw [lg_entry_eq]
  generalize (lg_sl ([.ref (g 0), .ref (g_p0 0), .int x1, .int x2, .int x3]) ++ List.replicate (6 - (lg_sl ([.ref (g 0), .ref (g_p0 0), .int x1, .int x2, .int x3])).length) Slot.unset).toArray = ls at hl ⊢
  have hl : lv_has ls 6 [(0, .ref (g 0)), (1, .ref (g_p0 0)), (2, .int x1), (3, .int x2), (4, .int x3)] := hl
  have hH : HP G A s.heap (w_O3 G g (g_trial 0) V ++ w_O1 G g_p0 V_p0 ++ w_O2 G g_trial V_trial) s.heap [] := hH
  have hin2 : ∀ w ∈ u_ws RX2 TX2 11, w ∈ wsX3_tryTrees := fun w h => List.mem_cons_of_mem _ (List.mem_append_left _ (List.mem_append_right _ h))
  have hin3 : ∀ w ∈ u_ws RX3 TX3 5, w ∈ wsX3_tryTrees := fun w h => List.mem_cons_of_mem _ (List.mem_append_left _ (List.mem_append_left _ (List.mem_append_right _ h)))
  have hF : (kAp (f_X3_tryOne V (f_X1_yearOf V_p0 V_trial x1 (0 : Int32)) x2 x3 (-9 : Int32)) (fun q1 => (kAp (lpu (f_X3_tryTrees_L2 V_p0 V_trial x1 x2 x3) (cN (10 : Int32)) 0 q1) (fun z6 => z6)))) = F := hF
  refine lv_aload_n hx hb dX3_tryTrees_0 rfl (lv_at hl 0 rfl) ?_
  refine lv_aload_n hx hb dX3_tryTrees_1 rfl (lv_at hl 1 rfl) ?_
  refine lv_aload_n hx hb dX3_tryTrees_2 rfl (lv_at hl 0 rfl) ?_
  refine kb_get (v := .ref (g_trial 0)) hx hb hts hin3 hown hK hH 0 rfl rfl rfl 0 (by decide) (hts (.fieldLink RX3 12 "CockWar$Plan" "trial" "LCockWar$Hill;") (List.mem_of_getElem? (i := 1) rfl)) (fun _ h9 => h9) rfl dX3_tryTrees_3 ?_
  refine lv_iload_n hx hb dX3_tryTrees_6 rfl (lv_at hl 2 rfl) ?_
  refine lv_iconst (v := 0) hx hb dX3_tryTrees_7 (by decide) ?_
  refine kb_ci hH hA [1, 2, 3, 4, 5, 6, 7, 8, 9, 10] (Wc := (w_O1 G g_p0 V_p0 ++ w_O2 G g_trial V_trial)) (Wc' := (w_O1 G g_p0 V_p0 ++ w_O2 G g_trial V_trial)) (WS' := (w_O3 G g (g_trial 0) V ++ w_O1 G g_p0 V_p0 ++ w_O2 G g_trial V_trial)) rfl (by decide) rfl rfl (va_runVN (C := RX1) (As := [.ref (g_trial 0), .int x1, .int (0 : Int32)]) (rest := [.ref (g 0)]) ⟨hx, hb, hml, hown, hts⟩ (c_X1_yearOf l G g_p0 V_p0 g_trial V_trial x1 (0 : Int32) rfl _) ⟨va_cnB 3 hts gX3_tryTrees_X1_yearOf_n56 rfl rfl rfl (kb_NM hN 47 rfl) (hts (.initialized RX1) (List.mem_of_getElem? (i := 3) rfl)) hd_X1_yearOf ⟨Nat.le_of_ble_eq_true rfl, Nat.le_of_ble_eq_true rfl⟩, (hts (.instanceMethod yX1_yearOf) (List.mem_of_getElem? (i := 2) rfl)), (hts (.selects RX1 yX1_yearOf yX1_yearOf) (List.mem_of_getElem? (i := 4) rfl))⟩ (kb_preV hH hK hN [1, 2, 3, 4, 5, 6, 7, 8, 9, 10] rfl (by decide) 1 rfl rfl rfl rfl) rfl rfl hl.1 rfl (lv_room (Nat.le_of_ble_eq_true rfl)) dX3_tryTrees_8 ⟨Nat.le_of_ble_eq_true rfl, Nat.le_of_ble_eq_true rfl⟩) (fun H locs hH => ?_)
  refine lv_iload_n hx hb dX3_tryTrees_11 rfl (lv_at hl 3 rfl) ?_
  refine lv_iload hx hb dX3_tryTrees_12 (lv_at hl 4 rfl) ?_
  refine lv_bipush (v := -9) hx hb dX3_tryTrees_14 (by decide) ?_
  obtain ⟨q1, hq1⟩ : ∃ z, z = (f_X3_tryOne V (f_X1_yearOf V_p0 V_trial x1 (0 : Int32)) x2 x3 (-9 : Int32)) := ⟨_, rfl⟩
  have hF := kAp_eq hF hq1
  refine kb_cv hH hA [0] (Wc := (w_O3 G g (g_trial 0) V)) (Wc' := (w_O3 G g (g_trial 0) q1)) (WS' := (w_O3 G g (g_trial 0) q1 ++ w_O1 G g_p0 V_p0 ++ w_O2 G g_trial V_trial)) rfl (by decide) rfl rfl (va_runV (As := [.int (f_X1_yearOf V_p0 V_trial x1 (0 : Int32)), .int x2, .int x3, .int (-9 : Int32)]) (rest := []) ⟨hx, hb, hml, hown, hts⟩ (c_X3_tryOne l G g (g_trial 0) V (f_X1_yearOf V_p0 V_trial x1 (0 : Int32)) x2 x3 (-9 : Int32) hq1.symm _) (cwV 4 hts gX3_tryTrees_X3_tryOne rfl rfl rfl he_X3_tryOne ⟨Nat.le_of_ble_eq_true rfl, Nat.le_of_ble_eq_true rfl⟩) (kb_preV hH hK hN [0] rfl (by decide) 0 rfl rfl rfl rfl) rfl rfl hl.1 rfl (lv_room (Nat.le_of_ble_eq_true rfl)) dX3_tryTrees_16 ⟨Nat.le_of_ble_eq_true rfl, Nat.le_of_ble_eq_true rfl⟩) (fun H locs hH => ?_)
  refine lv_iconst (v := 0) hx hb dX3_tryTrees_19 (by decide) ?_
  refine lv_istore (lv' := [(5, .int (0 : Int32)), (0, .ref (g 0)), (1, .ref (g_p0 0)), (2, .int x1), (3, .int x2), (4, .int x3)]) hx hb dX3_tryTrees_20 hl (by decide) rfl (fun ls hl => ?_)
  obtain ⟨SFL2, hSFL2⟩ : ∃ z, z = (lpu (f_X3_tryTrees_L2 V_p0 V_trial x1 x2 x3) (cN (10 : Int32)) 0 q1) := ⟨_, rfl⟩
  have hF := kAp_eq hF hSFL2
  refine kb_cut (fun H locs ls => HP G A s.heap (w_O3 G g (g_trial 0) SFL2 ++ w_O1 G g_p0 V_p0 ++ w_O2 G g_trial V_trial) H locs ∧ lv_has ls 6 []) 72 [] (fun EXL2 => ?_) (fun H locs ls hX => ?_)
  · refine kb_loop (σ := (OV)) (fun n i x => n + i = (cN (10 : Int32)) ∧ lpu (f_X3_tryTrees_L2 V_p0 V_trial x1 x2 x3) n i x = SFL2) (fun iL2 x H locs ls => HP G A s.heap (w_O3 G g (g_trial 0) x ++ w_O1 G g_p0 V_p0 ++ w_O2 G g_trial V_trial) H locs ∧ lv_has ls 6 [(5, .int (nI iL2)), (0, .ref (g 0)), (1, .ref (g_p0 0)), (2, .int x1), (3, .int x2), (4, .int x3)]) (fun iL2 x H locs ls hI hX => ?_) (fun n iL2 x hI ihL2 H locs ls hX => ?_) (cN (10 : Int32)) 0 q1 _ _ _ ⟨Nat.add_zero _, hSFL2.symm⟩ ⟨hH, lv_sub hl [0, 1, 2, 3, 4, 5] rfl⟩
    · obtain ⟨L2a, exL2a⟩ : ∃ z, z = x := ⟨_, rfl⟩
      subst exL2a
      have hH : HP G A s.heap (w_O3 G g (g_trial 0) L2a ++ w_O1 G g_p0 V_p0 ++ w_O2 G g_trial V_trial) H locs := hX.1
      have hl : lv_has ls 6 [(5, .int (nI iL2)), (0, .ref (g 0)), (1, .ref (g_p0 0)), (2, .int x1), (3, .int x2), (4, .int x3)] := hX.2
      obtain ⟨hiL2, hs⟩ := hI
      have hiL2 : iL2 = (cN (10 : Int32)) := by omega
      refine lv_iload hx hb dX3_tryTrees_22 (lv_at hl 0 rfl) ?_
      refine lv_bipush (v := 10) hx hb dX3_tryTrees_24 (by decide) ?_
      refine lv_icmp_ge (tgt := 72) hx hb dX3_tryTrees_26 (by decide) (fun _ => ?_) (fun c => absurd (cN_end hiL2) c)
      exact EXL2 _ _ _ ⟨by subst hs; exact hH, by subst hs; exact lv_sub hl [] rfl⟩
    · obtain ⟨L2a, exL2a⟩ : ∃ z, z = x := ⟨_, rfl⟩
      subst exL2a
      have hH : HP G A s.heap (w_O3 G g (g_trial 0) L2a ++ w_O1 G g_p0 V_p0 ++ w_O2 G g_trial V_trial) H locs := hX.1
      have hl : lv_has ls 6 [(5, .int (nI iL2)), (0, .ref (g 0)), (1, .ref (g_p0 0)), (2, .int x1), (3, .int x2), (4, .int x3)] := hX.2
      obtain ⟨hiL2, hs⟩ := hI
      have hltL2 : iL2 < (cN (10 : Int32)) := by omega
      obtain ⟨BVL2, hBd⟩ : ∃ z, (f_X3_tryTrees_L2 V_p0 V_trial x1 x2 x3) iL2 L2a = z := ⟨_, rfl⟩
      have hs : lpu (f_X3_tryTrees_L2 V_p0 V_trial x1 x2 x3) n (iL2 + 1) BVL2 = SFL2 := by rw [← hBd]; exact hs
      have hBL2 : (if (f_X7_at 10 (V_trial.1 0) (nI iL2)) ≤ 0 then L2a else (kAp (f_X3_tryOne L2a (f_X1_yearOf V_p0 V_trial x1 ((1 : Int32) <<< ((nI iL2) &&& 31))) x2 x3 (nI iL2)) (fun q5 => q5))) = BVL2 := hBd
      refine lv_iload hx hb dX3_tryTrees_22 (lv_at hl 0 rfl) ?_
      refine lv_bipush (v := 10) hx hb dX3_tryTrees_24 (by decide) ?_
      refine lv_icmp_ge (tgt := 72) hx hb dX3_tryTrees_26 (by decide) (fun c => absurd c (cN_ge hltL2)) (fun c3 => ?_)
      refine lv_aload_n hx hb dX3_tryTrees_29 rfl (lv_at hl 1 rfl) ?_
      refine kb_get (v := .ref (g_trial 0)) hx hb hts hin3 hown hK hH 0 rfl rfl rfl 0 (by decide) (hts (.fieldLink RX3 12 "CockWar$Plan" "trial" "LCockWar$Hill;") (List.mem_of_getElem? (i := 1) rfl)) (fun _ h9 => h9) rfl dX3_tryTrees_30 ?_
      refine kb_getN (v := .ref (g_trial 1)) hx hb hts hin2 hown hK hH 5 rfl rfl rfl 0 (by decide) (kb_NF hN 0 rfl) (fun _ h9 => h9) rfl dX3_tryTrees_33 ?_
      refine lv_iload hx hb dX3_tryTrees_36 (lv_at hl 0 rfl) ?_
      refine kb_ci hH hA [6] (Wc := ([b_arr G (g_trial 1) 10 (V_trial.1 0)])) (Wc' := ([b_arr G (g_trial 1) 10 (V_trial.1 0)])) (WS' := (w_O3 G g (g_trial 0) L2a ++ w_O1 G g_p0 V_p0 ++ w_O2 G g_trial V_trial)) rfl (by decide) rfl rfl (va_runSN (As := [.ref (g_trial 1), .int (nI iL2)]) (rest := []) ⟨hx, hb, hml, hown, hts⟩ (c_X7_at l G (g_trial 1) 10 (V_trial.1 0) (nI iL2) (by decide) rfl _) ⟨va_cnB 2 hts gX3_tryTrees_X7_at_n52 rfl rfl rfl (kb_NM hN 48 rfl) (hts (.initialized RX7) (List.mem_of_getElem? (i := 19) rfl)) hd_X7_at ⟨Nat.le_of_ble_eq_true rfl, Nat.le_of_ble_eq_true rfl⟩, (hts (.static yX7_at) (List.mem_of_getElem? (i := 18) rfl)), trivial⟩ (kb_preS hH hK hN [6] rfl (by decide)) rfl rfl hl.1 rfl (lv_room (Nat.le_of_ble_eq_true rfl)) dX3_tryTrees_38 ⟨Nat.le_of_ble_eq_true rfl, Nat.le_of_ble_eq_true rfl⟩) (fun H locs hH => ?_)
      refine lv_if_le (tgt := 66) hx hb dX3_tryTrees_41 (by decide) (fun c4 => ?_) (fun c4 => ?_)
      · rw [if_pos c4] at hBL2
        refine lv_iinc (v := (nI (iL2 + 1))) (lv' := [(5, .int (nI (iL2 + 1))), (0, .ref (g 0)), (1, .ref (g_p0 0)), (2, .int x1), (3, .int x2), (4, .int x3)]) hx hb dX3_tryTrees_66 hl (k := 0) rfl (nI_1 _) (by decide) rfl (fun ls hl => ?_)
        refine lv_goto (tgt := 22) hx hb dX3_tryTrees_69 (by decide) ?_
        subst hBL2
        exact ihL2 _ _ _ _ ⟨by omega, hs⟩ ⟨hH, lv_sub hl [0, 1, 2, 3, 4, 5] rfl⟩
      · rw [if_neg c4] at hBL2
        refine lv_aload_n hx hb dX3_tryTrees_44 rfl (lv_at hl 1 rfl) ?_
        refine lv_aload_n hx hb dX3_tryTrees_45 rfl (lv_at hl 2 rfl) ?_
        refine lv_aload_n hx hb dX3_tryTrees_46 rfl (lv_at hl 1 rfl) ?_
        refine kb_get (v := .ref (g_trial 0)) hx hb hts hin3 hown hK hH 0 rfl rfl rfl 0 (by decide) (hts (.fieldLink RX3 12 "CockWar$Plan" "trial" "LCockWar$Hill;") (List.mem_of_getElem? (i := 1) rfl)) (fun _ h9 => h9) rfl dX3_tryTrees_47 ?_
        refine lv_iload_n hx hb dX3_tryTrees_50 rfl (lv_at hl 3 rfl) ?_
        refine lv_iconst (v := 1) hx hb dX3_tryTrees_51 (by decide) ?_
        refine lv_iload hx hb dX3_tryTrees_52 (lv_at hl 0 rfl) ?_
        refine lv_ishl hx hb dX3_tryTrees_54 ?_
        refine kb_ci hH hA [1, 2, 3, 4, 5, 6, 7, 8, 9, 10] (Wc := (w_O1 G g_p0 V_p0 ++ w_O2 G g_trial V_trial)) (Wc' := (w_O1 G g_p0 V_p0 ++ w_O2 G g_trial V_trial)) (WS' := (w_O3 G g (g_trial 0) L2a ++ w_O1 G g_p0 V_p0 ++ w_O2 G g_trial V_trial)) rfl (by decide) rfl rfl (va_runVN (C := RX1) (As := [.ref (g_trial 0), .int x1, .int ((1 : Int32) <<< ((nI iL2) &&& 31))]) (rest := [.ref (g 0)]) ⟨hx, hb, hml, hown, hts⟩ (c_X1_yearOf l G g_p0 V_p0 g_trial V_trial x1 ((1 : Int32) <<< ((nI iL2) &&& 31)) rfl _) ⟨va_cnB 3 hts gX3_tryTrees_X1_yearOf_n56 rfl rfl rfl (kb_NM hN 47 rfl) (hts (.initialized RX1) (List.mem_of_getElem? (i := 3) rfl)) hd_X1_yearOf ⟨Nat.le_of_ble_eq_true rfl, Nat.le_of_ble_eq_true rfl⟩, (hts (.instanceMethod yX1_yearOf) (List.mem_of_getElem? (i := 2) rfl)), (hts (.selects RX1 yX1_yearOf yX1_yearOf) (List.mem_of_getElem? (i := 4) rfl))⟩ (kb_preV hH hK hN [1, 2, 3, 4, 5, 6, 7, 8, 9, 10] rfl (by decide) 1 rfl rfl rfl rfl) rfl rfl hl.1 rfl (lv_room (Nat.le_of_ble_eq_true rfl)) dX3_tryTrees_55 ⟨Nat.le_of_ble_eq_true rfl, Nat.le_of_ble_eq_true rfl⟩) (fun H locs hH => ?_)
        refine lv_iload_n hx hb dX3_tryTrees_58 rfl (lv_at hl 4 rfl) ?_
        refine lv_iload hx hb dX3_tryTrees_59 (lv_at hl 5 rfl) ?_
        refine lv_iload hx hb dX3_tryTrees_61 (lv_at hl 0 rfl) ?_
        obtain ⟨q5, hq5⟩ : ∃ z, z = (f_X3_tryOne L2a (f_X1_yearOf V_p0 V_trial x1 ((1 : Int32) <<< ((nI iL2) &&& 31))) x2 x3 (nI iL2)) := ⟨_, rfl⟩
        have hBL2 := kAp_eq hBL2 hq5
        refine kb_cv hH hA [0] (Wc := (w_O3 G g (g_trial 0) L2a)) (Wc' := (w_O3 G g (g_trial 0) q5)) (WS' := (w_O3 G g (g_trial 0) q5 ++ w_O1 G g_p0 V_p0 ++ w_O2 G g_trial V_trial)) rfl (by decide) rfl rfl (va_runV (As := [.int (f_X1_yearOf V_p0 V_trial x1 ((1 : Int32) <<< ((nI iL2) &&& 31))), .int x2, .int x3, .int (nI iL2)]) (rest := []) ⟨hx, hb, hml, hown, hts⟩ (c_X3_tryOne l G g (g_trial 0) L2a (f_X1_yearOf V_p0 V_trial x1 ((1 : Int32) <<< ((nI iL2) &&& 31))) x2 x3 (nI iL2) hq5.symm _) (cwV 4 hts gX3_tryTrees_X3_tryOne rfl rfl rfl he_X3_tryOne ⟨Nat.le_of_ble_eq_true rfl, Nat.le_of_ble_eq_true rfl⟩) (kb_preV hH hK hN [0] rfl (by decide) 0 rfl rfl rfl rfl) rfl rfl hl.1 rfl (lv_room (Nat.le_of_ble_eq_true rfl)) dX3_tryTrees_63 ⟨Nat.le_of_ble_eq_true rfl, Nat.le_of_ble_eq_true rfl⟩) (fun H locs hH => ?_)
        refine lv_iinc (v := (nI (iL2 + 1))) (lv' := [(5, .int (nI (iL2 + 1))), (0, .ref (g 0)), (1, .ref (g_p0 0)), (2, .int x1), (3, .int x2), (4, .int x3)]) hx hb dX3_tryTrees_66 hl (k := 0) rfl (nI_1 _) (by decide) rfl (fun ls hl => ?_)
        refine lv_goto (tgt := 22) hx hb dX3_tryTrees_69 (by decide) ?_
        subst hBL2
        exact ihL2 _ _ _ _ ⟨by omega, hs⟩ ⟨hH, lv_sub hl [0, 1, 2, 3, 4, 5] rfl⟩
  · obtain ⟨hH, hl⟩ := hX
    subst hF
    exact kb_vret hx hb hr hH rfl dX3_tryTrees_72 hlocks
def f_X3_seek_L5 (V_p0 : OV) (V_p1 : OV) (x2 : Int32) (iL3 : Nat) (iL5 : Nat) (s : (OV × OV)) : (OV × OV) := (if (f_X7_bit (V_p0.2.1 6) (nI iL3)) = x2 then (if (f_X7_bit (f_X2_takenCells V_p0) (nI iL5)) = 0 then (kAp (f_X7_put 6 (s.2.1 1) (nI iL3) (nI iL5)) (fun q9 => (kAp (f_X3_tryTrees s.1 V_p1 (oA s.2 1 q9) x2 (nI iL3) (nI iL5)) (fun q10 => (q10, (oA s.2 1 q9)))))) else (s.1, s.2)) else (s.1, s.2))
def f_X3_seek_L3 (V_p0 : OV) (V_p1 : OV) (x2 : Int32) (iL3 : Nat) (s : (OV × OV)) : (OV × OV) := (kAp (lpu (f_X3_seek_L5 V_p0 V_p1 x2 iL3) (cN (10 : Int32)) 0 (s.1, s.2)) (fun z11 => (kAp (f_X7_put 6 (z11.2.1 1) (nI iL3) (f_X7_at 6 (V_p0.1 1) (nI iL3))) (fun q12 => (z11.1, (oA z11.2 1 q12))))))
def f_X3_seek (V : OV) (V_p0 : OV) (V_p1 : OV) (V_trial : OV) (x2 : Int32) : (OV × OV) := (kAp (f_X2_copyFrom V_trial V_p0) (fun q1 => (kAp (f_X3_tryTrees (oI V 1 (-1 : Int32)) V_p1 q1 x2 (-9 : Int32) (-9 : Int32)) (fun q2 => (kAp (lpu (f_X3_seek_L3 V_p0 V_p1 x2) (cN (V_p0.2.1 5)) 0 (q2, q1)) (fun z13 => (z13.1, z13.2)))))))
set_option maxHeartbeats 4000000 in
set_option maxRecDepth 100000 in
theorem c_X3_seek (l : Launch) (G : Ge) (g : Nat → Nat) (V : OV) (g_p0 : Nat → Nat) (V_p0 : OV) (g_p1 : Nat → Nat) (V_p1 : OV) (g_trial : Nat → Nat) (V_trial : OV) (x2 : Int32) {F : (OV × OV)} (hF : f_X3_seek V V_p0 V_p1 V_trial x2 = F) : CV l yX3_seek wsX3_seek { frames := 6, cells := 0, slots := 0, locals := 148 } [.ref (g 0), .ref (g_p0 0), .ref (g_p1 0), .int x2] G (w_O3 G g (g_trial 0) V ++ w_O2 G g_p0 V_p0 ++ w_O1 G g_p1 V_p1 ++ w_O2 G g_trial V_trial) (w_O3 G g (g_trial 0) F.1 ++ w_O2 G g_p0 V_p0 ++ w_O1 G g_p1 V_p1 ++ w_O2 G g_trial F.2) := by
  intro sz
  refine Met.ofW (cc := cX3_seek) (maxL := 7) (ret := none) (by decide) rfl ?_
  intro p e s m args below meth c s₁ B hml hv
  obtain ⟨rfl, hpre⟩ := hv
  obtain ⟨hsz, hH, hK, hN, hA⟩ := kb_start hpre
  subst hsz
  have hx := B.exec
  have hb := B.bytes
  have hr := B.returns
  have hts := atoms_spec (ws := wsX3_seek) B.pre
  have hown : s.vm.findClass RX3 = some m.cls := findClass_of_methodNamed B.named
  have hlocks := B.notSynchronized
  generalize hAe : va_A (List.flatten (w_O3 G g (g_trial 0) V ++ w_O2 G g_p0 V_p0 ++ w_O1 G g_p1 V_p1 ++ w_O2 G g_trial V_trial)) s.heap.size = A at hH hA ⊢
  have hl := lv_entry ([.ref (g 0), .ref (g_p0 0), .ref (g_p1 0), .int x2]) (n := 7) (Nat.le_of_ble_eq_true rfl)
  rw [lg_entry_eq]
  generalize (lg_sl ([.ref (g 0), .ref (g_p0 0), .ref (g_p1 0), .int x2]) ++ List.replicate (7 - (lg_sl ([.ref (g 0), .ref (g_p0 0), .ref (g_p1 0), .int x2])).length) Slot.unset).toArray = ls at hl ⊢
  have hl : lv_has ls 7 [(0, .ref (g 0)), (1, .ref (g_p0 0)), (2, .ref (g_p1 0)), (3, .int x2)] := hl
  have hH : HP G A s.heap (w_O3 G g (g_trial 0) V ++ w_O2 G g_p0 V_p0 ++ w_O1 G g_p1 V_p1 ++ w_O2 G g_trial V_trial) s.heap [] := hH
  have hin2 : ∀ w ∈ u_ws RX2 TX2 11, w ∈ wsX3_seek := fun w h => List.mem_cons_of_mem _ (List.mem_append_left _ (List.mem_append_right _ h))
  have hin3 : ∀ w ∈ u_ws RX3 TX3 5, w ∈ wsX3_seek := fun w h => List.mem_cons_of_mem _ (List.mem_append_left _ (List.mem_append_left _ (List.mem_append_right _ h)))
  have hF : (kAp (f_X2_copyFrom V_trial V_p0) (fun q1 => (kAp (f_X3_tryTrees (oI V 1 (-1 : Int32)) V_p1 q1 x2 (-9 : Int32) (-9 : Int32)) (fun q2 => (kAp (lpu (f_X3_seek_L3 V_p0 V_p1 x2) (cN (V_p0.2.1 5)) 0 (q2, q1)) (fun z13 => (z13.1, z13.2))))))) = F := hF
  refine lv_aload_n hx hb dX3_seek_0 rfl (lv_at hl 0 rfl) ?_
  refine lv_iconst (v := -1) hx hb dX3_seek_1 (by decide) ?_
  refine kb_put (ty := .int) (v := .int (-1 : Int32)) (WS' := (w_O3 G g (g_trial 0) (oI V 1 (-1 : Int32)) ++ w_O2 G g_p0 V_p0 ++ w_O1 G g_p1 V_p1 ++ w_O2 G g_trial V_trial)) hx hb hts hin3 tyX3 tyX3_ok nmX3 hown hK hH 0 rfl rfl 1 (by decide) (hts (.fieldLink RX3 18 "CockWar$Plan" "days" "I") (List.mem_of_getElem? (i := 1) rfl)) (fun _ h9 => h9) rfl (by decide +kernel) rfl rfl (Nat.le_of_ble_eq_true rfl) rfl dX3_seek_2 (fun H locs hH => ?_)
  refine lv_aload_n hx hb dX3_seek_5 rfl (lv_at hl 0 rfl) ?_
  refine kb_get (v := .ref (g_trial 0)) hx hb hts hin3 hown hK hH 0 rfl rfl rfl 0 (by decide) (hts (.fieldLink RX3 12 "CockWar$Plan" "trial" "LCockWar$Hill;") (List.mem_of_getElem? (i := 2) rfl)) (fun _ h9 => h9) rfl dX3_seek_6 ?_
  refine lv_aload_n hx hb dX3_seek_9 rfl (lv_at hl 1 rfl) ?_
  obtain ⟨q1, hq1⟩ : ∃ z, z = (f_X2_copyFrom V_trial V_p0) := ⟨_, rfl⟩
  have hF := kAp_eq hF hq1
  refine kb_cv hH hA [11, 12, 13, 14, 15, 16, 1, 2, 3, 4, 5, 6] (Wc := (w_O2 G g_trial V_trial ++ w_O2 G g_p0 V_p0)) (Wc' := (w_O2 G g_trial q1 ++ w_O2 G g_p0 V_p0)) (WS' := (w_O3 G g (g_trial 0) (oI V 1 (-1 : Int32)) ++ w_O2 G g_p0 V_p0 ++ w_O1 G g_p1 V_p1 ++ w_O2 G g_trial q1)) rfl (by decide) rfl rfl (va_runVN (C := RX2) (As := [.ref (g_p0 0)]) (rest := []) ⟨hx, hb, hml, hown, hts⟩ (c_X2_copyFrom l G g_trial V_trial g_p0 V_p0 hq1.symm _) ⟨va_cnB 1 hts gX3_seek_X2_copyFrom_n22 rfl rfl rfl (kb_NM hN 46 rfl) (hts (.initialized RX2) (List.mem_of_getElem? (i := 4) rfl)) hd_X2_copyFrom ⟨Nat.le_of_ble_eq_true rfl, Nat.le_of_ble_eq_true rfl⟩, (hts (.instanceMethod yX2_copyFrom) (List.mem_of_getElem? (i := 3) rfl)), (hts (.selects RX2 yX2_copyFrom yX2_copyFrom) (List.mem_of_getElem? (i := 5) rfl))⟩ (kb_preV hH hK hN [11, 12, 13, 14, 15, 16, 1, 2, 3, 4, 5, 6] rfl (by decide) 11 rfl rfl rfl rfl) rfl rfl hl.1 rfl (lv_room (Nat.le_of_ble_eq_true rfl)) dX3_seek_10 ⟨Nat.le_of_ble_eq_true rfl, Nat.le_of_ble_eq_true rfl⟩) (fun H locs hH => ?_)
  refine lv_aload_n hx hb dX3_seek_13 rfl (lv_at hl 0 rfl) ?_
  refine lv_aload_n hx hb dX3_seek_14 rfl (lv_at hl 2 rfl) ?_
  refine lv_iload_n hx hb dX3_seek_15 rfl (lv_at hl 3 rfl) ?_
  refine lv_bipush (v := -9) hx hb dX3_seek_16 (by decide) ?_
  refine lv_bipush (v := -9) hx hb dX3_seek_18 (by decide) ?_
  obtain ⟨q2, hq2⟩ : ∃ z, z = (f_X3_tryTrees (oI V 1 (-1 : Int32)) V_p1 q1 x2 (-9 : Int32) (-9 : Int32)) := ⟨_, rfl⟩
  have hF := kAp_eq hF hq2
  refine kb_cv hH hA [0, 7, 8, 9, 10, 11, 12, 13, 14, 15, 16] (Wc := (w_O3 G g (g_trial 0) (oI V 1 (-1 : Int32)) ++ w_O1 G g_p1 V_p1 ++ w_O2 G g_trial q1)) (Wc' := (w_O3 G g (g_trial 0) q2 ++ w_O1 G g_p1 V_p1 ++ w_O2 G g_trial q1)) (WS' := (w_O3 G g (g_trial 0) q2 ++ w_O2 G g_p0 V_p0 ++ w_O1 G g_p1 V_p1 ++ w_O2 G g_trial q1)) rfl (by decide) rfl rfl (va_runV (As := [.ref (g_p1 0), .int x2, .int (-9 : Int32), .int (-9 : Int32)]) (rest := []) ⟨hx, hb, hml, hown, hts⟩ (c_X3_tryTrees l G g (oI V 1 (-1 : Int32)) g_p1 V_p1 g_trial q1 x2 (-9 : Int32) (-9 : Int32) hq2.symm _) (cwV 4 hts gX3_seek_X3_tryTrees rfl rfl rfl he_X3_tryTrees ⟨Nat.le_of_ble_eq_true rfl, Nat.le_of_ble_eq_true rfl⟩) (kb_preV hH hK hN [0, 7, 8, 9, 10, 11, 12, 13, 14, 15, 16] rfl (by decide) 0 rfl rfl rfl rfl) rfl rfl hl.1 rfl (lv_room (Nat.le_of_ble_eq_true rfl)) dX3_seek_20 ⟨Nat.le_of_ble_eq_true rfl, Nat.le_of_ble_eq_true rfl⟩) (fun H locs hH => ?_)
  refine lv_aload_n hx hb dX3_seek_23 rfl (lv_at hl 1 rfl) ?_
  refine kb_ci hH hA [1, 2, 3, 4, 5, 6] (Wc := (w_O2 G g_p0 V_p0)) (Wc' := (w_O2 G g_p0 V_p0)) (WS' := (w_O3 G g (g_trial 0) q2 ++ w_O2 G g_p0 V_p0 ++ w_O1 G g_p1 V_p1 ++ w_O2 G g_trial q1)) rfl (by decide) rfl rfl (va_runVN (C := RX2) (As := []) (rest := []) ⟨hx, hb, hml, hown, hts⟩ (c_X2_takenCells l G g_p0 V_p0 rfl _) ⟨va_cnB 0 hts gX3_seek_X2_takenCells_n30 rfl rfl rfl (kb_NM hN 49 rfl) (hts (.initialized RX2) (List.mem_of_getElem? (i := 4) rfl)) hd_X2_takenCells ⟨Nat.le_of_ble_eq_true rfl, Nat.le_of_ble_eq_true rfl⟩, (hts (.instanceMethod yX2_takenCells) (List.mem_of_getElem? (i := 59) rfl)), (hts (.selects RX2 yX2_takenCells yX2_takenCells) (List.mem_of_getElem? (i := 60) rfl))⟩ (kb_preV hH hK hN [1, 2, 3, 4, 5, 6] rfl (by decide) 1 rfl rfl rfl rfl) rfl rfl hl.1 rfl (lv_room (Nat.le_of_ble_eq_true rfl)) dX3_seek_24 ⟨Nat.le_of_ble_eq_true rfl, Nat.le_of_ble_eq_true rfl⟩) (fun H locs hH => ?_)
  refine lv_istore (lv' := [(4, .int (f_X2_takenCells V_p0)), (0, .ref (g 0)), (1, .ref (g_p0 0)), (2, .ref (g_p1 0)), (3, .int x2)]) hx hb dX3_seek_27 hl (by decide) rfl (fun ls hl => ?_)
  refine lv_iconst (v := 0) hx hb dX3_seek_29 (by decide) ?_
  refine lv_istore (lv' := [(5, .int (0 : Int32)), (4, .int (f_X2_takenCells V_p0)), (0, .ref (g 0)), (1, .ref (g_p0 0)), (2, .ref (g_p1 0)), (3, .int x2)]) hx hb dX3_seek_30 hl (by decide) rfl (fun ls hl => ?_)
  obtain ⟨SFL3, hSFL3⟩ : ∃ z, z = (lpu (f_X3_seek_L3 V_p0 V_p1 x2) (cN (V_p0.2.1 5)) 0 (q2, q1)) := ⟨_, rfl⟩
  have hF := kAp_eq hF hSFL3
  refine kb_cut (fun H locs ls => HP G A s.heap (w_O3 G g (g_trial 0) SFL3.1 ++ w_O2 G g_p0 V_p0 ++ w_O1 G g_p1 V_p1 ++ w_O2 G g_trial SFL3.2) H locs ∧ lv_has ls 7 []) 131 [] (fun EXL3 => ?_) (fun H locs ls hX => ?_)
  · refine kb_loop (σ := (OV × OV)) (fun n i x => n + i = (cN (V_p0.2.1 5)) ∧ lpu (f_X3_seek_L3 V_p0 V_p1 x2) n i x = SFL3) (fun iL3 x H locs ls => HP G A s.heap (w_O3 G g (g_trial 0) x.1 ++ w_O2 G g_p0 V_p0 ++ w_O1 G g_p1 V_p1 ++ w_O2 G g_trial x.2) H locs ∧ lv_has ls 7 [(5, .int (nI iL3)), (4, .int (f_X2_takenCells V_p0)), (0, .ref (g 0)), (1, .ref (g_p0 0)), (2, .ref (g_p1 0)), (3, .int x2)]) (fun iL3 x H locs ls hI hX => ?_) (fun n iL3 x hI ihL3 H locs ls hX => ?_) (cN (V_p0.2.1 5)) 0 (q2, q1) _ _ _ ⟨Nat.add_zero _, hSFL3.symm⟩ ⟨hH, lv_sub hl [0, 1, 2, 3, 4, 5] rfl⟩
    · obtain ⟨L3a, L3b⟩ := x
      have hH : HP G A s.heap (w_O3 G g (g_trial 0) L3a ++ w_O2 G g_p0 V_p0 ++ w_O1 G g_p1 V_p1 ++ w_O2 G g_trial L3b) H locs := hX.1
      have hl : lv_has ls 7 [(5, .int (nI iL3)), (4, .int (f_X2_takenCells V_p0)), (0, .ref (g 0)), (1, .ref (g_p0 0)), (2, .ref (g_p1 0)), (3, .int x2)] := hX.2
      obtain ⟨hiL3, hs⟩ := hI
      have hiL3 : iL3 = (cN (V_p0.2.1 5)) := by omega
      refine lv_iload hx hb dX3_seek_32 (lv_at hl 0 rfl) ?_
      refine lv_aload_n hx hb dX3_seek_34 rfl (lv_at hl 3 rfl) ?_
      refine kb_getN (v := .int (V_p0.2.1 5)) hx hb hts hin2 hown hK hH 1 rfl rfl rfl 5 (by decide) (kb_NF hN 8 rfl) (fun _ h9 => h9) rfl dX3_seek_35 ?_
      refine lv_icmp_ge (tgt := 131) hx hb dX3_seek_38 (by decide) (fun _ => ?_) (fun c => absurd (cN_end hiL3) c)
      exact EXL3 _ _ _ ⟨by subst hs; exact hH, by subst hs; exact lv_sub hl [] rfl⟩
    · obtain ⟨L3a, L3b⟩ := x
      have hH : HP G A s.heap (w_O3 G g (g_trial 0) L3a ++ w_O2 G g_p0 V_p0 ++ w_O1 G g_p1 V_p1 ++ w_O2 G g_trial L3b) H locs := hX.1
      have hl : lv_has ls 7 [(5, .int (nI iL3)), (4, .int (f_X2_takenCells V_p0)), (0, .ref (g 0)), (1, .ref (g_p0 0)), (2, .ref (g_p1 0)), (3, .int x2)] := hX.2
      obtain ⟨hiL3, hs⟩ := hI
      have hltL3 : iL3 < (cN (V_p0.2.1 5)) := by omega
      obtain ⟨BVL3, hBd⟩ : ∃ z, (f_X3_seek_L3 V_p0 V_p1 x2) iL3 (L3a, L3b) = z := ⟨_, rfl⟩
      have hs : lpu (f_X3_seek_L3 V_p0 V_p1 x2) n (iL3 + 1) BVL3 = SFL3 := by rw [← hBd]; exact hs
      have hBL3 : (kAp (lpu (f_X3_seek_L5 V_p0 V_p1 x2 iL3) (cN (10 : Int32)) 0 (L3a, L3b)) (fun z11 => (kAp (f_X7_put 6 (z11.2.1 1) (nI iL3) (f_X7_at 6 (V_p0.1 1) (nI iL3))) (fun q12 => (z11.1, (oA z11.2 1 q12)))))) = BVL3 := hBd
      refine lv_iload hx hb dX3_seek_32 (lv_at hl 0 rfl) ?_
      refine lv_aload_n hx hb dX3_seek_34 rfl (lv_at hl 3 rfl) ?_
      refine kb_getN (v := .int (V_p0.2.1 5)) hx hb hts hin2 hown hK hH 1 rfl rfl rfl 5 (by decide) (kb_NF hN 8 rfl) (fun _ h9 => h9) rfl dX3_seek_35 ?_
      refine lv_icmp_ge (tgt := 131) hx hb dX3_seek_38 (by decide) (fun c => absurd c (cN_ge hltL3)) (fun c4 => ?_)
      refine lv_iconst (v := 0) hx hb dX3_seek_41 (by decide) ?_
      refine lv_istore (lv' := [(6, .int (0 : Int32)), (5, .int (nI iL3)), (4, .int (f_X2_takenCells V_p0)), (0, .ref (g 0)), (1, .ref (g_p0 0)), (2, .ref (g_p1 0)), (3, .int x2)]) hx hb dX3_seek_42 hl (by decide) rfl (fun ls hl => ?_)
      obtain ⟨SFL5, hSFL5⟩ : ∃ z, z = (lpu (f_X3_seek_L5 V_p0 V_p1 x2 iL3) (cN (10 : Int32)) 0 (L3a, L3b)) := ⟨_, rfl⟩
      have hBL3 := kAp_eq hBL3 hSFL5
      refine kb_cut (fun H locs ls => HP G A s.heap (w_O3 G g (g_trial 0) SFL5.1 ++ w_O2 G g_p0 V_p0 ++ w_O1 G g_p1 V_p1 ++ w_O2 G g_trial SFL5.2) H locs ∧ lv_has ls 7 [(5, .int (nI iL3)), (4, .int (f_X2_takenCells V_p0)), (0, .ref (g 0)), (1, .ref (g_p0 0)), (2, .ref (g_p1 0)), (3, .int x2)]) 104 [] (fun EXL5 => ?_) (fun H locs ls hX => ?_)
      · refine kb_loop (σ := (OV × OV)) (fun n i x => n + i = (cN (10 : Int32)) ∧ lpu (f_X3_seek_L5 V_p0 V_p1 x2 iL3) n i x = SFL5) (fun iL5 x H locs ls => HP G A s.heap (w_O3 G g (g_trial 0) x.1 ++ w_O2 G g_p0 V_p0 ++ w_O1 G g_p1 V_p1 ++ w_O2 G g_trial x.2) H locs ∧ lv_has ls 7 [(6, .int (nI iL5)), (5, .int (nI iL3)), (4, .int (f_X2_takenCells V_p0)), (0, .ref (g 0)), (1, .ref (g_p0 0)), (2, .ref (g_p1 0)), (3, .int x2)]) (fun iL5 x H locs ls hI hX => ?_) (fun n iL5 x hI ihL5 H locs ls hX => ?_) (cN (10 : Int32)) 0 (L3a, L3b) _ _ _ ⟨Nat.add_zero _, hSFL5.symm⟩ ⟨hH, lv_sub hl [0, 1, 2, 3, 4, 5, 6] rfl⟩
        · obtain ⟨L5a, L5b⟩ := x
          have hH : HP G A s.heap (w_O3 G g (g_trial 0) L5a ++ w_O2 G g_p0 V_p0 ++ w_O1 G g_p1 V_p1 ++ w_O2 G g_trial L5b) H locs := hX.1
          have hl : lv_has ls 7 [(6, .int (nI iL5)), (5, .int (nI iL3)), (4, .int (f_X2_takenCells V_p0)), (0, .ref (g 0)), (1, .ref (g_p0 0)), (2, .ref (g_p1 0)), (3, .int x2)] := hX.2
          obtain ⟨hiL5, hs⟩ := hI
          have hiL5 : iL5 = (cN (10 : Int32)) := by omega
          refine lv_iload hx hb dX3_seek_44 (lv_at hl 0 rfl) ?_
          refine lv_bipush (v := 10) hx hb dX3_seek_46 (by decide) ?_
          refine lv_icmp_ge (tgt := 104) hx hb dX3_seek_48 (by decide) (fun _ => ?_) (fun c => absurd (cN_end hiL5) c)
          exact EXL5 _ _ _ ⟨by subst hs; exact hH, by subst hs; exact lv_sub hl [1, 2, 3, 4, 5, 6] rfl⟩
        · obtain ⟨L5a, L5b⟩ := x
          have hH : HP G A s.heap (w_O3 G g (g_trial 0) L5a ++ w_O2 G g_p0 V_p0 ++ w_O1 G g_p1 V_p1 ++ w_O2 G g_trial L5b) H locs := hX.1
          have hl : lv_has ls 7 [(6, .int (nI iL5)), (5, .int (nI iL3)), (4, .int (f_X2_takenCells V_p0)), (0, .ref (g 0)), (1, .ref (g_p0 0)), (2, .ref (g_p1 0)), (3, .int x2)] := hX.2
          obtain ⟨hiL5, hs⟩ := hI
          have hltL5 : iL5 < (cN (10 : Int32)) := by omega
          obtain ⟨BVL5, hBd⟩ : ∃ z, (f_X3_seek_L5 V_p0 V_p1 x2 iL3) iL5 (L5a, L5b) = z := ⟨_, rfl⟩
          have hs : lpu (f_X3_seek_L5 V_p0 V_p1 x2 iL3) n (iL5 + 1) BVL5 = SFL5 := by rw [← hBd]; exact hs
          have hBL5 : (if (f_X7_bit (V_p0.2.1 6) (nI iL3)) = x2 then (if (f_X7_bit (f_X2_takenCells V_p0) (nI iL5)) = 0 then (kAp (f_X7_put 6 (L5b.1 1) (nI iL3) (nI iL5)) (fun q9 => (kAp (f_X3_tryTrees L5a V_p1 (oA L5b 1 q9) x2 (nI iL3) (nI iL5)) (fun q10 => (q10, (oA L5b 1 q9)))))) else (L5a, L5b)) else (L5a, L5b)) = BVL5 := hBd
          refine lv_iload hx hb dX3_seek_44 (lv_at hl 0 rfl) ?_
          refine lv_bipush (v := 10) hx hb dX3_seek_46 (by decide) ?_
          refine lv_icmp_ge (tgt := 104) hx hb dX3_seek_48 (by decide) (fun c => absurd c (cN_ge hltL5)) (fun c6 => ?_)
          refine lv_aload_n hx hb dX3_seek_51 rfl (lv_at hl 4 rfl) ?_
          refine kb_getN (v := .int (V_p0.2.1 6)) hx hb hts hin2 hown hK hH 1 rfl rfl rfl 6 (by decide) (kb_NF hN 11 rfl) (fun _ h9 => h9) rfl dX3_seek_52 ?_
          refine lv_iload hx hb dX3_seek_55 (lv_at hl 1 rfl) ?_
          refine kb_ci hH hA [] (Wc := ([] : List va_W)) (Wc' := ([] : List va_W)) (WS' := (w_O3 G g (g_trial 0) L5a ++ w_O2 G g_p0 V_p0 ++ w_O1 G g_p1 V_p1 ++ w_O2 G g_trial L5b)) rfl (by decide) rfl rfl (va_runSN (As := [.int (V_p0.2.1 6), .int (nI iL3)]) (rest := []) ⟨hx, hb, hml, hown, hts⟩ (c_X7_bit l G (V_p0.2.1 6) (nI iL3) rfl _) ⟨va_cnB 2 hts gX3_seek_X7_bit_n40 rfl rfl rfl (kb_NM hN 50 rfl) (hts (.initialized RX7) (List.mem_of_getElem? (i := 19) rfl)) hd_X7_bit ⟨Nat.le_of_ble_eq_true rfl, Nat.le_of_ble_eq_true rfl⟩, (hts (.static yX7_bit) (List.mem_of_getElem? (i := 47) rfl)), trivial⟩ (kb_preS hH hK hN [] rfl (by decide)) rfl rfl hl.1 rfl (lv_room (Nat.le_of_ble_eq_true rfl)) dX3_seek_57 ⟨Nat.le_of_ble_eq_true rfl, Nat.le_of_ble_eq_true rfl⟩) (fun H locs hH => ?_)
          refine lv_iload_n hx hb dX3_seek_60 rfl (lv_at hl 6 rfl) ?_
          refine lv_icmp_ne (tgt := 98) hx hb dX3_seek_61 (by decide) (fun c7 => ?_) (fun c7 => ?_)
          · rw [if_neg c7] at hBL5
            refine lv_iinc (v := (nI (iL5 + 1))) (lv' := [(6, .int (nI (iL5 + 1))), (5, .int (nI iL3)), (4, .int (f_X2_takenCells V_p0)), (0, .ref (g 0)), (1, .ref (g_p0 0)), (2, .ref (g_p1 0)), (3, .int x2)]) hx hb dX3_seek_98 hl (k := 0) rfl (nI_1 _) (by decide) rfl (fun ls hl => ?_)
            refine lv_goto (tgt := 44) hx hb dX3_seek_101 (by decide) ?_
            subst hBL5
            exact ihL5 _ _ _ _ ⟨by omega, hs⟩ ⟨hH, lv_sub hl [0, 1, 2, 3, 4, 5, 6] rfl⟩
          · rw [if_pos c7] at hBL5
            refine lv_iload hx hb dX3_seek_64 (lv_at hl 2 rfl) ?_
            refine lv_iload hx hb dX3_seek_66 (lv_at hl 0 rfl) ?_
            refine kb_ci hH hA [] (Wc := ([] : List va_W)) (Wc' := ([] : List va_W)) (WS' := (w_O3 G g (g_trial 0) L5a ++ w_O2 G g_p0 V_p0 ++ w_O1 G g_p1 V_p1 ++ w_O2 G g_trial L5b)) rfl (by decide) rfl rfl (va_runSN (As := [.int (f_X2_takenCells V_p0), .int (nI iL5)]) (rest := []) ⟨hx, hb, hml, hown, hts⟩ (c_X7_bit l G (f_X2_takenCells V_p0) (nI iL5) rfl _) ⟨va_cnB 2 hts gX3_seek_X7_bit_n40 rfl rfl rfl (kb_NM hN 50 rfl) (hts (.initialized RX7) (List.mem_of_getElem? (i := 19) rfl)) hd_X7_bit ⟨Nat.le_of_ble_eq_true rfl, Nat.le_of_ble_eq_true rfl⟩, (hts (.static yX7_bit) (List.mem_of_getElem? (i := 47) rfl)), trivial⟩ (kb_preS hH hK hN [] rfl (by decide)) rfl rfl hl.1 rfl (lv_room (Nat.le_of_ble_eq_true rfl)) dX3_seek_68 ⟨Nat.le_of_ble_eq_true rfl, Nat.le_of_ble_eq_true rfl⟩) (fun H locs hH => ?_)
            refine lv_if_ne (tgt := 98) hx hb dX3_seek_71 (by decide) (fun c8 => ?_) (fun c8 => ?_)
            · rw [if_neg c8] at hBL5
              refine lv_iinc (v := (nI (iL5 + 1))) (lv' := [(6, .int (nI (iL5 + 1))), (5, .int (nI iL3)), (4, .int (f_X2_takenCells V_p0)), (0, .ref (g 0)), (1, .ref (g_p0 0)), (2, .ref (g_p1 0)), (3, .int x2)]) hx hb dX3_seek_98 hl (k := 0) rfl (nI_1 _) (by decide) rfl (fun ls hl => ?_)
              refine lv_goto (tgt := 44) hx hb dX3_seek_101 (by decide) ?_
              subst hBL5
              exact ihL5 _ _ _ _ ⟨by omega, hs⟩ ⟨hH, lv_sub hl [0, 1, 2, 3, 4, 5, 6] rfl⟩
            · rw [if_pos c8] at hBL5
              refine lv_aload_n hx hb dX3_seek_74 rfl (lv_at hl 3 rfl) ?_
              refine kb_get (v := .ref (g_trial 0)) hx hb hts hin3 hown hK hH 0 rfl rfl rfl 0 (by decide) (hts (.fieldLink RX3 12 "CockWar$Plan" "trial" "LCockWar$Hill;") (List.mem_of_getElem? (i := 2) rfl)) (fun _ h9 => h9) rfl dX3_seek_75 ?_
              refine kb_getN (v := .ref (g_trial 2)) hx hb hts hin2 hown hK hH 11 rfl rfl rfl 1 (by decide) (kb_NF hN 3 rfl) (fun _ h9 => h9) rfl dX3_seek_78 ?_
              refine lv_iload hx hb dX3_seek_81 (lv_at hl 1 rfl) ?_
              refine lv_iload hx hb dX3_seek_83 (lv_at hl 0 rfl) ?_
              obtain ⟨q9, hq9⟩ : ∃ z, z = (f_X7_put 6 (L5b.1 1) (nI iL3) (nI iL5)) := ⟨_, rfl⟩
              have hBL5 := kAp_eq hBL5 hq9
              refine kb_cv hH hA [13] (Wc := ([b_arr G (g_trial 2) 6 (L5b.1 1)])) (Wc' := ([b_arr G (g_trial 2) 6 q9])) (WS' := (w_O3 G g (g_trial 0) L5a ++ w_O2 G g_p0 V_p0 ++ w_O1 G g_p1 V_p1 ++ w_O2 G g_trial (oA L5b 1 q9))) rfl (by decide) rfl rfl (va_runSN (As := [.ref (g_trial 2), .int (nI iL3), .int (nI iL5)]) (rest := []) ⟨hx, hb, hml, hown, hts⟩ (c_X7_put l G (g_trial 2) 6 (L5b.1 1) (nI iL3) (nI iL5) (by decide) hq9.symm _) ⟨va_cnB 3 hts gX3_seek_X7_put_n48 rfl rfl rfl (kb_NM hN 51 rfl) (hts (.initialized RX7) (List.mem_of_getElem? (i := 19) rfl)) hd_X7_put ⟨Nat.le_of_ble_eq_true rfl, Nat.le_of_ble_eq_true rfl⟩, (hts (.static yX7_put) (List.mem_of_getElem? (i := 62) rfl)), trivial⟩ (kb_preS hH hK hN [13] rfl (by decide)) rfl rfl hl.1 rfl (lv_room (Nat.le_of_ble_eq_true rfl)) dX3_seek_85 ⟨Nat.le_of_ble_eq_true rfl, Nat.le_of_ble_eq_true rfl⟩) (fun H locs hH => ?_)
              refine lv_aload_n hx hb dX3_seek_88 rfl (lv_at hl 3 rfl) ?_
              refine lv_aload_n hx hb dX3_seek_89 rfl (lv_at hl 5 rfl) ?_
              refine lv_iload_n hx hb dX3_seek_90 rfl (lv_at hl 6 rfl) ?_
              refine lv_iload hx hb dX3_seek_91 (lv_at hl 1 rfl) ?_
              refine lv_iload hx hb dX3_seek_93 (lv_at hl 0 rfl) ?_
              obtain ⟨q10, hq10⟩ : ∃ z, z = (f_X3_tryTrees L5a V_p1 (oA L5b 1 q9) x2 (nI iL3) (nI iL5)) := ⟨_, rfl⟩
              have hBL5 := kAp_eq hBL5 hq10
              refine kb_cv hH hA [0, 7, 8, 9, 10, 11, 12, 13, 14, 15, 16] (Wc := (w_O3 G g (g_trial 0) L5a ++ w_O1 G g_p1 V_p1 ++ w_O2 G g_trial (oA L5b 1 q9))) (Wc' := (w_O3 G g (g_trial 0) q10 ++ w_O1 G g_p1 V_p1 ++ w_O2 G g_trial (oA L5b 1 q9))) (WS' := (w_O3 G g (g_trial 0) q10 ++ w_O2 G g_p0 V_p0 ++ w_O1 G g_p1 V_p1 ++ w_O2 G g_trial (oA L5b 1 q9))) rfl (by decide) rfl rfl (va_runV (As := [.ref (g_p1 0), .int x2, .int (nI iL3), .int (nI iL5)]) (rest := []) ⟨hx, hb, hml, hown, hts⟩ (c_X3_tryTrees l G g L5a g_p1 V_p1 g_trial (oA L5b 1 q9) x2 (nI iL3) (nI iL5) hq10.symm _) (cwV 4 hts gX3_seek_X3_tryTrees rfl rfl rfl he_X3_tryTrees ⟨Nat.le_of_ble_eq_true rfl, Nat.le_of_ble_eq_true rfl⟩) (kb_preV hH hK hN [0, 7, 8, 9, 10, 11, 12, 13, 14, 15, 16] rfl (by decide) 0 rfl rfl rfl rfl) rfl rfl hl.1 rfl (lv_room (Nat.le_of_ble_eq_true rfl)) dX3_seek_95 ⟨Nat.le_of_ble_eq_true rfl, Nat.le_of_ble_eq_true rfl⟩) (fun H locs hH => ?_)
              refine lv_iinc (v := (nI (iL5 + 1))) (lv' := [(6, .int (nI (iL5 + 1))), (5, .int (nI iL3)), (4, .int (f_X2_takenCells V_p0)), (0, .ref (g 0)), (1, .ref (g_p0 0)), (2, .ref (g_p1 0)), (3, .int x2)]) hx hb dX3_seek_98 hl (k := 0) rfl (nI_1 _) (by decide) rfl (fun ls hl => ?_)
              refine lv_goto (tgt := 44) hx hb dX3_seek_101 (by decide) ?_
              subst hBL5
              exact ihL5 _ _ _ _ ⟨by omega, hs⟩ ⟨hH, lv_sub hl [0, 1, 2, 3, 4, 5, 6] rfl⟩
      · obtain ⟨hH, hl⟩ := hX
        refine lv_aload_n hx hb dX3_seek_104 rfl (lv_at hl 2 rfl) ?_
        refine kb_get (v := .ref (g_trial 0)) hx hb hts hin3 hown hK hH 0 rfl rfl rfl 0 (by decide) (hts (.fieldLink RX3 12 "CockWar$Plan" "trial" "LCockWar$Hill;") (List.mem_of_getElem? (i := 2) rfl)) (fun _ h9 => h9) rfl dX3_seek_105 ?_
        refine kb_getN (v := .ref (g_trial 2)) hx hb hts hin2 hown hK hH 11 rfl rfl rfl 1 (by decide) (kb_NF hN 3 rfl) (fun _ h9 => h9) rfl dX3_seek_108 ?_
        refine lv_iload hx hb dX3_seek_111 (lv_at hl 0 rfl) ?_
        refine lv_aload_n hx hb dX3_seek_113 rfl (lv_at hl 3 rfl) ?_
        refine kb_getN (v := .ref (g_p0 2)) hx hb hts hin2 hown hK hH 1 rfl rfl rfl 1 (by decide) (kb_NF hN 3 rfl) (fun _ h9 => h9) rfl dX3_seek_114 ?_
        refine lv_iload hx hb dX3_seek_117 (lv_at hl 0 rfl) ?_
        refine kb_ci hH hA [3] (Wc := ([b_arr G (g_p0 2) 6 (V_p0.1 1)])) (Wc' := ([b_arr G (g_p0 2) 6 (V_p0.1 1)])) (WS' := (w_O3 G g (g_trial 0) SFL5.1 ++ w_O2 G g_p0 V_p0 ++ w_O1 G g_p1 V_p1 ++ w_O2 G g_trial SFL5.2)) rfl (by decide) rfl rfl (va_runSN (As := [.ref (g_p0 2), .int (nI iL3)]) (rest := [.int (nI iL3), .ref (g_trial 2)]) ⟨hx, hb, hml, hown, hts⟩ (c_X7_at l G (g_p0 2) 6 (V_p0.1 1) (nI iL3) (by decide) rfl _) ⟨va_cnB 2 hts gX3_seek_X7_at_n52 rfl rfl rfl (kb_NM hN 48 rfl) (hts (.initialized RX7) (List.mem_of_getElem? (i := 19) rfl)) hd_X7_at ⟨Nat.le_of_ble_eq_true rfl, Nat.le_of_ble_eq_true rfl⟩, (hts (.static yX7_at) (List.mem_of_getElem? (i := 42) rfl)), trivial⟩ (kb_preS hH hK hN [3] rfl (by decide)) rfl rfl hl.1 rfl (lv_room (Nat.le_of_ble_eq_true rfl)) dX3_seek_119 ⟨Nat.le_of_ble_eq_true rfl, Nat.le_of_ble_eq_true rfl⟩) (fun H locs hH => ?_)
        obtain ⟨q12, hq12⟩ : ∃ z, z = (f_X7_put 6 (SFL5.2.1 1) (nI iL3) (f_X7_at 6 (V_p0.1 1) (nI iL3))) := ⟨_, rfl⟩
        have hBL3 := kAp_eq hBL3 hq12
        refine kb_cv hH hA [13] (Wc := ([b_arr G (g_trial 2) 6 (SFL5.2.1 1)])) (Wc' := ([b_arr G (g_trial 2) 6 q12])) (WS' := (w_O3 G g (g_trial 0) SFL5.1 ++ w_O2 G g_p0 V_p0 ++ w_O1 G g_p1 V_p1 ++ w_O2 G g_trial (oA SFL5.2 1 q12))) rfl (by decide) rfl rfl (va_runSN (As := [.ref (g_trial 2), .int (nI iL3), .int (f_X7_at 6 (V_p0.1 1) (nI iL3))]) (rest := []) ⟨hx, hb, hml, hown, hts⟩ (c_X7_put l G (g_trial 2) 6 (SFL5.2.1 1) (nI iL3) (f_X7_at 6 (V_p0.1 1) (nI iL3)) (by decide) hq12.symm _) ⟨va_cnB 3 hts gX3_seek_X7_put_n48 rfl rfl rfl (kb_NM hN 51 rfl) (hts (.initialized RX7) (List.mem_of_getElem? (i := 19) rfl)) hd_X7_put ⟨Nat.le_of_ble_eq_true rfl, Nat.le_of_ble_eq_true rfl⟩, (hts (.static yX7_put) (List.mem_of_getElem? (i := 62) rfl)), trivial⟩ (kb_preS hH hK hN [13] rfl (by decide)) rfl rfl hl.1 rfl (lv_room (Nat.le_of_ble_eq_true rfl)) dX3_seek_122 ⟨Nat.le_of_ble_eq_true rfl, Nat.le_of_ble_eq_true rfl⟩) (fun H locs hH => ?_)
        refine lv_iinc (v := (nI (iL3 + 1))) (lv' := [(5, .int (nI (iL3 + 1))), (4, .int (f_X2_takenCells V_p0)), (0, .ref (g 0)), (1, .ref (g_p0 0)), (2, .ref (g_p1 0)), (3, .int x2)]) hx hb dX3_seek_125 hl (k := 0) rfl (nI_1 _) (by decide) rfl (fun ls hl => ?_)
        refine lv_goto (tgt := 32) hx hb dX3_seek_128 (by decide) ?_
        subst hBL3
        exact ihL3 _ _ _ _ ⟨by omega, hs⟩ ⟨hH, lv_sub hl [0, 1, 2, 3, 4, 5] rfl⟩
  · obtain ⟨hH, hl⟩ := hX
    subst hF
    exact kb_vret hx hb hr hH rfl dX3_seek_131 hlocks
def f_X0_forget (V : OV) (VH_this : Nat → OV) : (OV) := (oI V 2 (0 : Int32))
set_option maxHeartbeats 4000000 in
set_option maxRecDepth 100000 in
theorem c_X0_forget (l : Launch) (G : Ge) (g : Nat → Nat) (gh_this : Nat → Nat → Nat) (V : OV) (VH_this : Nat → OV) {F : (OV)} (hF : f_X0_forget V VH_this = F) : CV l yX0_forget wsX0_forget { frames := 0, cells := 0, slots := 0, locals := 0 } [.ref (g 0)] G (w_O0 G g gh_this V VH_this) (w_O0 G g gh_this F VH_this) := by
  intro sz
  refine Met.ofW (cc := cX0_forget) (maxL := 1) (ret := none) (by decide) rfl ?_
  intro p e s m args below meth c s₁ B hml hv
  obtain ⟨rfl, hpre⟩ := hv
  obtain ⟨hsz, hH, hK, hN, hA⟩ := kb_start hpre
  subst hsz
  have hx := B.exec
  have hb := B.bytes
  have hr := B.returns
  have hts := atoms_spec (ws := wsX0_forget) B.pre
  have hown : s.vm.findClass RX0 = some m.cls := findClass_of_methodNamed B.named
  have hlocks := B.notSynchronized
  generalize hAe : va_A (List.flatten (w_O0 G g gh_this V VH_this)) s.heap.size = A at hH hA ⊢
  have hl := lv_entry ([.ref (g 0)]) (n := 1) (Nat.le_of_ble_eq_true rfl)
  rw [lg_entry_eq]
  generalize (lg_sl ([.ref (g 0)]) ++ List.replicate (1 - (lg_sl ([.ref (g 0)])).length) Slot.unset).toArray = ls at hl ⊢
  have hl : lv_has ls 1 [(0, .ref (g 0))] := hl
  have hH : HP G A s.heap (w_O0 G g gh_this V VH_this) s.heap [] := hH
  have hin0 : ∀ w ∈ u_ws RX0 TX0 3, w ∈ wsX0_forget := fun w h => List.mem_cons_of_mem _ (List.mem_append_right _ h)
  have hF : (oI V 2 (0 : Int32)) = F := hF
  refine lv_aload_n hx hb dX0_forget_0 rfl (lv_at hl 0 rfl) ?_
  refine lv_iconst (v := 0) hx hb dX0_forget_1 (by decide) ?_
  refine kb_put (ty := .int) (v := .int (0 : Int32)) (WS' := (w_O0 G g gh_this (oI V 2 (0 : Int32)) VH_this)) hx hb hts hin0 tyX0 tyX0_ok nmX0 hown hK hH 0 rfl rfl 2 (by decide) (hts (.fieldLink RX0 18 "CockWar$ActRow" "number" "I") (List.mem_of_getElem? (i := 1) rfl)) (fun _ h9 => h9) rfl (by decide +kernel) rfl rfl (Nat.le_of_ble_eq_true rfl) rfl dX0_forget_2 (fun H locs hH => ?_)
  subst hF
  exact kb_vret hx hb hr hH rfl dX0_forget_5 hlocks
def f_X0_remember (V : OV) (VH_this : Nat → OV) (V_p0 : OV) : (OV × (Nat → OV)) := (kAp ((if (V.2.1 2) = (14 : Int32) then (oI (oI V 1 (((V.2.1 1) + (1 : Int32)) - ((V.2.1 1) + (1 : Int32)) / (14 : Int32) * (14 : Int32))) 2 ((V.2.1 2) - (1 : Int32))) else V) : OV) (fun v3 => (if (((v3.2.1 1) + (v3.2.1 2)) - ((v3.2.1 1) + (v3.2.1 2)) / (14 : Int32) * (14 : Int32)) < 0 then (v3, VH_this) else (if (nI 14) ≤ (((v3.2.1 1) + (v3.2.1 2)) - ((v3.2.1 1) + (v3.2.1 2)) / (14 : Int32) * (14 : Int32)) then (v3, VH_this) else (kAp (f_X2_copyFrom (VH_this (((v3.2.1 1) + (v3.2.1 2)) - ((v3.2.1 1) + (v3.2.1 2)) / (14 : Int32) * (14 : Int32)).toNatClampNeg) V_p0) (fun q7 => ((oI v3 2 ((v3.2.1 2) + (1 : Int32))), (va_up VH_this ((((v3.2.1 1) + (v3.2.1 2)) - ((v3.2.1 1) + (v3.2.1 2)) / (14 : Int32) * (14 : Int32)).toNatClampNeg) q7))))))))
set_option maxHeartbeats 4000000 in
set_option maxRecDepth 100000 in
theorem c_X0_remember (l : Launch) (G : Ge) (g : Nat → Nat) (gh_this : Nat → Nat → Nat) (V : OV) (VH_this : Nat → OV) (g_p0 : Nat → Nat) (V_p0 : OV) {F : (OV × (Nat → OV))} (hF : f_X0_remember V VH_this V_p0 = F) : CV l yX0_remember wsX0_remember { frames := 2, cells := 0, slots := 0, locals := 43 } [.ref (g 0), .ref (g_p0 0)] G (w_O0 G g gh_this V VH_this ++ w_O2 G g_p0 V_p0) (w_O0 G g gh_this F.1 F.2 ++ w_O2 G g_p0 V_p0) := by
  intro sz
  refine Met.ofW (cc := cX0_remember) (maxL := 3) (ret := none) (by decide) rfl ?_
  intro p e s m args below meth c s₁ B hml hv
  obtain ⟨rfl, hpre⟩ := hv
  obtain ⟨hsz, hH, hK, hN, hA⟩ := kb_start hpre
  subst hsz
  have hx := B.exec
  have hb := B.bytes
  have hr := B.returns
  have hts := atoms_spec (ws := wsX0_remember) B.pre
  have hown : s.vm.findClass RX0 = some m.cls := findClass_of_methodNamed B.named
  have hlocks := B.notSynchronized
  generalize hAe : va_A (List.flatten (w_O0 G g gh_this V VH_this ++ w_O2 G g_p0 V_p0)) s.heap.size = A at hH hA ⊢
  have hl := lv_entry ([.ref (g 0), .ref (g_p0 0)]) (n := 3) (Nat.le_of_ble_eq_true rfl)
  rw [lg_entry_eq]
  generalize (lg_sl ([.ref (g 0), .ref (g_p0 0)]) ++ List.replicate (3 - (lg_sl ([.ref (g 0), .ref (g_p0 0)])).length) Slot.unset).toArray = ls at hl ⊢
  have hl : lv_has ls 3 [(0, .ref (g 0)), (1, .ref (g_p0 0))] := hl
  have hH : HP G A s.heap (w_O0 G g gh_this V VH_this ++ w_O2 G g_p0 V_p0) s.heap [] := hH
  have hin0 : ∀ w ∈ u_ws RX0 TX0 3, w ∈ wsX0_remember := fun w h => List.mem_cons_of_mem _ (List.mem_append_left _ (List.mem_append_right _ h))
  have hF : (kAp ((if (V.2.1 2) = (14 : Int32) then (oI (oI V 1 (((V.2.1 1) + (1 : Int32)) - ((V.2.1 1) + (1 : Int32)) / (14 : Int32) * (14 : Int32))) 2 ((V.2.1 2) - (1 : Int32))) else V) : OV) (fun v3 => (if (((v3.2.1 1) + (v3.2.1 2)) - ((v3.2.1 1) + (v3.2.1 2)) / (14 : Int32) * (14 : Int32)) < 0 then (v3, VH_this) else (if (nI 14) ≤ (((v3.2.1 1) + (v3.2.1 2)) - ((v3.2.1 1) + (v3.2.1 2)) / (14 : Int32) * (14 : Int32)) then (v3, VH_this) else (kAp (f_X2_copyFrom (VH_this (((v3.2.1 1) + (v3.2.1 2)) - ((v3.2.1 1) + (v3.2.1 2)) / (14 : Int32) * (14 : Int32)).toNatClampNeg) V_p0) (fun q7 => ((oI v3 2 ((v3.2.1 2) + (1 : Int32))), (va_up VH_this ((((v3.2.1 1) + (v3.2.1 2)) - ((v3.2.1 1) + (v3.2.1 2)) / (14 : Int32) * (14 : Int32)).toNatClampNeg) q7)))))))) = F := hF
  refine lv_aload_n hx hb dX0_remember_0 rfl (lv_at hl 0 rfl) ?_
  refine kb_get (v := .int (V.2.1 2)) hx hb hts hin0 hown hK hH 0 rfl rfl rfl 2 (by decide) (hts (.fieldLink RX0 18 "CockWar$ActRow" "number" "I") (List.mem_of_getElem? (i := 1) rfl)) (fun _ h9 => h9) rfl dX0_remember_1 ?_
  refine lv_bipush (v := 14) hx hb dX0_remember_4 (by decide) ?_
  obtain ⟨v3, ev3⟩ : ∃ z : OV, (if (V.2.1 2) = (14 : Int32) then (oI (oI V 1 (((V.2.1 1) + (1 : Int32)) - ((V.2.1 1) + (1 : Int32)) / (14 : Int32) * (14 : Int32))) 2 ((V.2.1 2) - (1 : Int32))) else V) = z := ⟨_, rfl⟩
  have hF := kAp_eq hF ev3.symm
  refine kb_cut (fun H locs ls => HP G A s.heap (w_O0 G g gh_this v3 VH_this ++ w_O2 G g_p0 V_p0) H locs ∧ lv_has ls 3 [(0, .ref (g 0)), (1, .ref (g_p0 0))]) 32 [] (fun u1 => ?_) (fun H locs ls hX => ?_)
  · refine lv_icmp_ne (tgt := 32) hx hb dX0_remember_6 (by decide) (fun c4 => ?_) (fun c4 => ?_)
    · rw [if_neg c4] at ev3
      subst ev3
      exact u1 _ _ _ ⟨hH, lv_sub hl [0, 1] rfl⟩
    · rw [if_pos c4] at ev3
      refine lv_aload_n hx hb dX0_remember_9 rfl (lv_at hl 0 rfl) ?_
      refine lv_aload_n hx hb dX0_remember_10 rfl (lv_at hl 0 rfl) ?_
      refine kb_get (v := .int (V.2.1 1)) hx hb hts hin0 hown hK hH 0 rfl rfl rfl 1 (by decide) (hts (.fieldLink RX0 22 "CockWar$ActRow" "oldest" "I") (List.mem_of_getElem? (i := 2) rfl)) (fun _ h9 => h9) rfl dX0_remember_11 ?_
      refine lv_iconst (v := 1) hx hb dX0_remember_14 (by decide) ?_
      refine lv_iadd hx hb dX0_remember_15 ?_
      refine lv_bipush (v := 14) hx hb dX0_remember_16 (by decide) ?_
      refine lv_irem hx hb dX0_remember_18 (by decide) ?_
      refine kb_put (ty := .int) (v := .int (((V.2.1 1) + (1 : Int32)) - ((V.2.1 1) + (1 : Int32)) / (14 : Int32) * (14 : Int32))) (WS' := (w_O0 G g gh_this (oI V 1 (((V.2.1 1) + (1 : Int32)) - ((V.2.1 1) + (1 : Int32)) / (14 : Int32) * (14 : Int32))) VH_this ++ w_O2 G g_p0 V_p0)) hx hb hts hin0 tyX0 tyX0_ok nmX0 hown hK hH 0 rfl rfl 1 (by decide) (hts (.fieldLink RX0 22 "CockWar$ActRow" "oldest" "I") (List.mem_of_getElem? (i := 2) rfl)) (fun _ h9 => h9) rfl (by decide +kernel) rfl rfl (Nat.le_of_ble_eq_true rfl) rfl dX0_remember_19 (fun H locs hH => ?_)
      refine lv_aload_n hx hb dX0_remember_22 rfl (lv_at hl 0 rfl) ?_
      refine lv_dup hx hb dX0_remember_23 rfl ?_
      refine kb_get (v := .int (V.2.1 2)) hx hb hts hin0 hown hK hH 0 rfl rfl rfl 2 (by decide) (hts (.fieldLink RX0 18 "CockWar$ActRow" "number" "I") (List.mem_of_getElem? (i := 1) rfl)) (fun _ h9 => h9) rfl dX0_remember_24 ?_
      refine lv_iconst (v := 1) hx hb dX0_remember_27 (by decide) ?_
      refine lv_isub hx hb dX0_remember_28 ?_
      refine kb_put (ty := .int) (v := .int ((V.2.1 2) - (1 : Int32))) (WS' := (w_O0 G g gh_this (oI (oI V 1 (((V.2.1 1) + (1 : Int32)) - ((V.2.1 1) + (1 : Int32)) / (14 : Int32) * (14 : Int32))) 2 ((V.2.1 2) - (1 : Int32))) VH_this ++ w_O2 G g_p0 V_p0)) hx hb hts hin0 tyX0 tyX0_ok nmX0 hown hK hH 0 rfl rfl 2 (by decide) (hts (.fieldLink RX0 18 "CockWar$ActRow" "number" "I") (List.mem_of_getElem? (i := 1) rfl)) (fun _ h9 => h9) rfl (by decide +kernel) rfl rfl (Nat.le_of_ble_eq_true rfl) rfl dX0_remember_29 (fun H locs hH => ?_)
      subst ev3
      exact u1 _ _ _ ⟨hH, lv_sub hl [0, 1] rfl⟩
  · obtain ⟨hH, hl⟩ := hX
    refine lv_aload_n hx hb dX0_remember_32 rfl (lv_at hl 0 rfl) ?_
    refine kb_get (v := .int (v3.2.1 1)) hx hb hts hin0 hown hK hH 0 rfl rfl rfl 1 (by decide) (hts (.fieldLink RX0 22 "CockWar$ActRow" "oldest" "I") (List.mem_of_getElem? (i := 2) rfl)) (fun _ h9 => h9) rfl dX0_remember_33 ?_
    refine lv_aload_n hx hb dX0_remember_36 rfl (lv_at hl 0 rfl) ?_
    refine kb_get (v := .int (v3.2.1 2)) hx hb hts hin0 hown hK hH 0 rfl rfl rfl 2 (by decide) (hts (.fieldLink RX0 18 "CockWar$ActRow" "number" "I") (List.mem_of_getElem? (i := 1) rfl)) (fun _ h9 => h9) rfl dX0_remember_37 ?_
    refine lv_iadd hx hb dX0_remember_40 ?_
    refine lv_bipush (v := 14) hx hb dX0_remember_41 (by decide) ?_
    refine lv_irem hx hb dX0_remember_43 (by decide) ?_
    refine lv_istore_n (lv' := [(2, .int (((v3.2.1 1) + (v3.2.1 2)) - ((v3.2.1 1) + (v3.2.1 2)) / (14 : Int32) * (14 : Int32))), (0, .ref (g 0)), (1, .ref (g_p0 0))]) hx hb dX0_remember_44 rfl hl (by decide) rfl (fun ls hl => ?_)
    refine lv_iload_n hx hb dX0_remember_45 rfl (lv_at hl 0 rfl) ?_
    refine lv_if_lt (tgt := 87) hx hb dX0_remember_46 (by decide) (fun c5 => ?_) (fun c5 => ?_)
    · rw [if_pos c5] at hF
      subst hF
      exact kb_vret hx hb hr hH rfl dX0_remember_87 hlocks
    · rw [if_neg c5] at hF
      refine lv_iload_n hx hb dX0_remember_49 rfl (lv_at hl 0 rfl) ?_
      refine lv_aload_n hx hb dX0_remember_50 rfl (lv_at hl 1 rfl) ?_
      refine kb_get (v := .ref (g 1)) hx hb hts hin0 hown hK hH 0 rfl rfl rfl 0 (by decide) (hts (.fieldLink RX0 11 "CockWar$ActRow" "before" "[LCockWar$Hill;") (List.mem_of_getElem? (i := 3) rfl)) (fun _ h9 => h9) rfl dX0_remember_51 ?_
      refine kb_alen (v := (nI 14)) hx hb hK hH 1 2 rfl rfl rfl dX0_remember_54 ?_
      refine lv_icmp_ge (tgt := 87) hx hb dX0_remember_55 (by decide) (fun c6 => ?_) (fun c6 => ?_)
      · rw [if_pos c6] at hF
        subst hF
        exact kb_vret hx hb hr hH rfl dX0_remember_87 hlocks
      · rw [if_neg c6] at hF
        refine lv_aload_n hx hb dX0_remember_58 rfl (lv_at hl 1 rfl) ?_
        refine kb_get (v := .ref (g 1)) hx hb hts hin0 hown hK hH 0 rfl rfl rfl 0 (by decide) (hts (.fieldLink RX0 11 "CockWar$ActRow" "before" "[LCockWar$Hill;") (List.mem_of_getElem? (i := 3) rfl)) (fun _ h9 => h9) rfl dX0_remember_59 ?_
        refine lv_iload_n hx hb dX0_remember_62 rfl (lv_at hl 0 rfl) ?_
        refine kb_hald hx hb hK hH 1 rfl (kb_vp (by decide) c5 c6) dX0_remember_63 ?_
        refine lv_ifnull hx hb dX0_remember_64 ?_
        refine lv_aload_n hx hb dX0_remember_67 rfl (lv_at hl 1 rfl) ?_
        refine kb_get (v := .ref (g 1)) hx hb hts hin0 hown hK hH 0 rfl rfl rfl 0 (by decide) (hts (.fieldLink RX0 11 "CockWar$ActRow" "before" "[LCockWar$Hill;") (List.mem_of_getElem? (i := 3) rfl)) (fun _ h9 => h9) rfl dX0_remember_68 ?_
        refine lv_iload_n hx hb dX0_remember_71 rfl (lv_at hl 0 rfl) ?_
        refine kb_hald hx hb hK hH 1 rfl (kb_vp (by decide) c5 c6) dX0_remember_72 ?_
        refine lv_aload_n hx hb dX0_remember_73 rfl (lv_at hl 2 rfl) ?_
        obtain ⟨q7, hq7⟩ : ∃ z, z = (f_X2_copyFrom (VH_this (((v3.2.1 1) + (v3.2.1 2)) - ((v3.2.1 1) + (v3.2.1 2)) / (14 : Int32) * (14 : Int32)).toNatClampNeg) V_p0) := ⟨_, rfl⟩
        have hF := kAp_eq hF hq7
        have hix := kb_vplt (kb_vp (by decide) c5 c6)
        have hH := kb_hopen 2 14 hix rfl hH
        refine kb_cv hH hA [9, 10, 11, 12, 13, 14, 3, 4, 5, 6, 7, 8] (Wc := (w_O2 G (gh_this (((v3.2.1 1) + (v3.2.1 2)) - ((v3.2.1 1) + (v3.2.1 2)) / (14 : Int32) * (14 : Int32)).toNatClampNeg) (VH_this (((v3.2.1 1) + (v3.2.1 2)) - ((v3.2.1 1) + (v3.2.1 2)) / (14 : Int32) * (14 : Int32)).toNatClampNeg) ++ w_O2 G g_p0 V_p0)) (Wc' := (w_O2 G (gh_this (((v3.2.1 1) + (v3.2.1 2)) - ((v3.2.1 1) + (v3.2.1 2)) / (14 : Int32) * (14 : Int32)).toNatClampNeg) q7 ++ w_O2 G g_p0 V_p0)) (WS' := (((w_O0 G g gh_this v3 VH_this ++ w_O2 G g_p0 V_p0)).set 2 (b_hillsBut G 14 gh_this VH_this ((((v3.2.1 1) + (v3.2.1 2)) - ((v3.2.1 1) + (v3.2.1 2)) / (14 : Int32) * (14 : Int32)).toNatClampNeg)) ++ w_O2 G (gh_this (((v3.2.1 1) + (v3.2.1 2)) - ((v3.2.1 1) + (v3.2.1 2)) / (14 : Int32) * (14 : Int32)).toNatClampNeg) q7)) rfl (by decide) rfl rfl (va_runVN (C := RX2) (As := [.ref (g_p0 0)]) (rest := []) ⟨hx, hb, hml, hown, hts⟩ (c_X2_copyFrom l G (gh_this (((v3.2.1 1) + (v3.2.1 2)) - ((v3.2.1 1) + (v3.2.1 2)) / (14 : Int32) * (14 : Int32)).toNatClampNeg) (VH_this (((v3.2.1 1) + (v3.2.1 2)) - ((v3.2.1 1) + (v3.2.1 2)) / (14 : Int32) * (14 : Int32)).toNatClampNeg) g_p0 V_p0 hq7.symm _) ⟨va_cnB 1 hts gX0_remember_X2_copyFrom_n25 rfl rfl rfl (kb_NM hN 38 rfl) (hts (.initialized RX2) (List.mem_of_getElem? (i := 5) rfl)) hd_X2_copyFrom ⟨Nat.le_of_ble_eq_true rfl, Nat.le_of_ble_eq_true rfl⟩, (hts (.instanceMethod yX2_copyFrom) (List.mem_of_getElem? (i := 4) rfl)), (hts (.selects RX2 yX2_copyFrom yX2_copyFrom) (List.mem_of_getElem? (i := 6) rfl))⟩ (kb_preV hH hK hN [9, 10, 11, 12, 13, 14, 3, 4, 5, 6, 7, 8] rfl (by decide) 9 rfl rfl rfl rfl) rfl rfl hl.1 rfl (lv_room (Nat.le_of_ble_eq_true rfl)) dX0_remember_74 ⟨Nat.le_of_ble_eq_true rfl, Nat.le_of_ble_eq_true rfl⟩) (fun H locs hH => ?_)
        have hH : HP G A s.heap (w_O0 G g gh_this v3 (va_up VH_this ((((v3.2.1 1) + (v3.2.1 2)) - ((v3.2.1 1) + (v3.2.1 2)) / (14 : Int32) * (14 : Int32)).toNatClampNeg) q7) ++ w_O2 G g_p0 V_p0) H locs := kb_hclose (WS := (w_O0 G g gh_this v3 VH_this ++ w_O2 G g_p0 V_p0)) 2 14 hix (Nat.le_of_ble_eq_true rfl) hH
        refine lv_aload_n hx hb dX0_remember_77 rfl (lv_at hl 1 rfl) ?_
        refine lv_dup hx hb dX0_remember_78 rfl ?_
        refine kb_get (v := .int (v3.2.1 2)) hx hb hts hin0 hown hK hH 0 rfl rfl rfl 2 (by decide) (hts (.fieldLink RX0 18 "CockWar$ActRow" "number" "I") (List.mem_of_getElem? (i := 1) rfl)) (fun _ h9 => h9) rfl dX0_remember_79 ?_
        refine lv_iconst (v := 1) hx hb dX0_remember_82 (by decide) ?_
        refine lv_iadd hx hb dX0_remember_83 ?_
        refine kb_put (ty := .int) (v := .int ((v3.2.1 2) + (1 : Int32))) (WS' := (w_O0 G g gh_this (oI v3 2 ((v3.2.1 2) + (1 : Int32))) (va_up VH_this ((((v3.2.1 1) + (v3.2.1 2)) - ((v3.2.1 1) + (v3.2.1 2)) / (14 : Int32) * (14 : Int32)).toNatClampNeg) q7) ++ w_O2 G g_p0 V_p0)) hx hb hts hin0 tyX0 tyX0_ok nmX0 hown hK hH 0 rfl rfl 2 (by decide) (hts (.fieldLink RX0 18 "CockWar$ActRow" "number" "I") (List.mem_of_getElem? (i := 1) rfl)) (fun _ h9 => h9) rfl (by decide +kernel) rfl rfl (Nat.le_of_ble_eq_true rfl) rfl dX0_remember_84 (fun H locs hH => ?_)
        subst hF
        exact kb_vret hx hb hr hH rfl dX0_remember_87 hlocks
def f_X0_takeBack (V : OV) (VH_this : Nat → OV) (V_p0 : OV) : (Int32 × OV × OV) := (if (V.2.1 2) = 0 then ((-3 : Int32), V, V_p0) else (if ((((V.2.1 1) + (V.2.1 2)) - (1 : Int32)) - (((V.2.1 1) + (V.2.1 2)) - (1 : Int32)) / (14 : Int32) * (14 : Int32)) < 0 then ((V.2.1 2), V, V_p0) else (if (nI 14) ≤ ((((V.2.1 1) + (V.2.1 2)) - (1 : Int32)) - (((V.2.1 1) + (V.2.1 2)) - (1 : Int32)) / (14 : Int32) * (14 : Int32)) then ((V.2.1 2), V, V_p0) else (kAp (f_X2_copyFrom V_p0 (VH_this ((((V.2.1 1) + (V.2.1 2)) - (1 : Int32)) - (((V.2.1 1) + (V.2.1 2)) - (1 : Int32)) / (14 : Int32) * (14 : Int32)).toNatClampNeg)) (fun q4 => (((V.2.1 2) - (1 : Int32)), (oI V 2 ((V.2.1 2) - (1 : Int32))), q4))))))
set_option maxHeartbeats 4000000 in
set_option maxRecDepth 100000 in
theorem c_X0_takeBack (l : Launch) (G : Ge) (g : Nat → Nat) (gh_this : Nat → Nat → Nat) (V : OV) (VH_this : Nat → OV) (g_p0 : Nat → Nat) (V_p0 : OV) {F : (Int32 × OV × OV)} (hF : f_X0_takeBack V VH_this V_p0 = F) : CI l yX0_takeBack wsX0_takeBack { frames := 2, cells := 0, slots := 0, locals := 43 } [.ref (g 0), .ref (g_p0 0)] G (w_O0 G g gh_this V VH_this ++ w_O2 G g_p0 V_p0) (w_O0 G g gh_this F.2.1 VH_this ++ w_O2 G g_p0 F.2.2) F.1 := by
  intro sz
  refine Met.ofW (cc := cX0_takeBack) (maxL := 3) (ret := (some .int)) (by decide) rfl ?_
  intro p e s m args below meth c s₁ B hml hv
  obtain ⟨rfl, hpre⟩ := hv
  obtain ⟨hsz, hH, hK, hN, hA⟩ := kb_start hpre
  subst hsz
  have hx := B.exec
  have hb := B.bytes
  have hr := B.returns
  have hts := atoms_spec (ws := wsX0_takeBack) B.pre
  have hown : s.vm.findClass RX0 = some m.cls := findClass_of_methodNamed B.named
  have hlocks := B.notSynchronized
  generalize hAe : va_A (List.flatten (w_O0 G g gh_this V VH_this ++ w_O2 G g_p0 V_p0)) s.heap.size = A at hH hA ⊢
  have hl := lv_entry ([.ref (g 0), .ref (g_p0 0)]) (n := 3) (Nat.le_of_ble_eq_true rfl)
  rw [lg_entry_eq]
  generalize (lg_sl ([.ref (g 0), .ref (g_p0 0)]) ++ List.replicate (3 - (lg_sl ([.ref (g 0), .ref (g_p0 0)])).length) Slot.unset).toArray = ls at hl ⊢
  have hl : lv_has ls 3 [(0, .ref (g 0)), (1, .ref (g_p0 0))] := hl
  have hH : HP G A s.heap (w_O0 G g gh_this V VH_this ++ w_O2 G g_p0 V_p0) s.heap [] := hH
  have hin0 : ∀ w ∈ u_ws RX0 TX0 3, w ∈ wsX0_takeBack := fun w h => List.mem_cons_of_mem _ (List.mem_append_left _ (List.mem_append_right _ h))
  have hF : (if (V.2.1 2) = 0 then ((-3 : Int32), V, V_p0) else (if ((((V.2.1 1) + (V.2.1 2)) - (1 : Int32)) - (((V.2.1 1) + (V.2.1 2)) - (1 : Int32)) / (14 : Int32) * (14 : Int32)) < 0 then ((V.2.1 2), V, V_p0) else (if (nI 14) ≤ ((((V.2.1 1) + (V.2.1 2)) - (1 : Int32)) - (((V.2.1 1) + (V.2.1 2)) - (1 : Int32)) / (14 : Int32) * (14 : Int32)) then ((V.2.1 2), V, V_p0) else (kAp (f_X2_copyFrom V_p0 (VH_this ((((V.2.1 1) + (V.2.1 2)) - (1 : Int32)) - (((V.2.1 1) + (V.2.1 2)) - (1 : Int32)) / (14 : Int32) * (14 : Int32)).toNatClampNeg)) (fun q4 => (((V.2.1 2) - (1 : Int32)), (oI V 2 ((V.2.1 2) - (1 : Int32))), q4)))))) = F := hF
  refine lv_aload_n hx hb dX0_takeBack_0 rfl (lv_at hl 0 rfl) ?_
  refine kb_get (v := .int (V.2.1 2)) hx hb hts hin0 hown hK hH 0 rfl rfl rfl 2 (by decide) (hts (.fieldLink RX0 18 "CockWar$ActRow" "number" "I") (List.mem_of_getElem? (i := 1) rfl)) (fun _ h9 => h9) rfl dX0_takeBack_1 ?_
  refine lv_if_ne (tgt := 10) hx hb dX0_takeBack_4 (by decide) (fun c1 => ?_) (fun c1 => ?_)
  · rw [if_neg c1] at hF
    refine lv_aload_n hx hb dX0_takeBack_10 rfl (lv_at hl 0 rfl) ?_
    refine kb_get (v := .int (V.2.1 1)) hx hb hts hin0 hown hK hH 0 rfl rfl rfl 1 (by decide) (hts (.fieldLink RX0 22 "CockWar$ActRow" "oldest" "I") (List.mem_of_getElem? (i := 2) rfl)) (fun _ h9 => h9) rfl dX0_takeBack_11 ?_
    refine lv_aload_n hx hb dX0_takeBack_14 rfl (lv_at hl 0 rfl) ?_
    refine kb_get (v := .int (V.2.1 2)) hx hb hts hin0 hown hK hH 0 rfl rfl rfl 2 (by decide) (hts (.fieldLink RX0 18 "CockWar$ActRow" "number" "I") (List.mem_of_getElem? (i := 1) rfl)) (fun _ h9 => h9) rfl dX0_takeBack_15 ?_
    refine lv_iadd hx hb dX0_takeBack_18 ?_
    refine lv_iconst (v := 1) hx hb dX0_takeBack_19 (by decide) ?_
    refine lv_isub hx hb dX0_takeBack_20 ?_
    refine lv_bipush (v := 14) hx hb dX0_takeBack_21 (by decide) ?_
    refine lv_irem hx hb dX0_takeBack_23 (by decide) ?_
    refine lv_istore_n (lv' := [(2, .int ((((V.2.1 1) + (V.2.1 2)) - (1 : Int32)) - (((V.2.1 1) + (V.2.1 2)) - (1 : Int32)) / (14 : Int32) * (14 : Int32))), (0, .ref (g 0)), (1, .ref (g_p0 0))]) hx hb dX0_takeBack_24 rfl hl (by decide) rfl (fun ls hl => ?_)
    refine lv_iload_n hx hb dX0_takeBack_25 rfl (lv_at hl 0 rfl) ?_
    refine lv_if_lt (tgt := 67) hx hb dX0_takeBack_26 (by decide) (fun c2 => ?_) (fun c2 => ?_)
    · rw [if_pos c2] at hF
      refine lv_aload_n hx hb dX0_takeBack_67 rfl (lv_at hl 1 rfl) ?_
      refine kb_get (v := .int (V.2.1 2)) hx hb hts hin0 hown hK hH 0 rfl rfl rfl 2 (by decide) (hts (.fieldLink RX0 18 "CockWar$ActRow" "number" "I") (List.mem_of_getElem? (i := 1) rfl)) (fun _ h9 => h9) rfl dX0_takeBack_68 ?_
      subst hF
      exact kb_iret hx hb hr hH rfl rfl dX0_takeBack_71 hlocks
    · rw [if_neg c2] at hF
      refine lv_iload_n hx hb dX0_takeBack_29 rfl (lv_at hl 0 rfl) ?_
      refine lv_aload_n hx hb dX0_takeBack_30 rfl (lv_at hl 1 rfl) ?_
      refine kb_get (v := .ref (g 1)) hx hb hts hin0 hown hK hH 0 rfl rfl rfl 0 (by decide) (hts (.fieldLink RX0 11 "CockWar$ActRow" "before" "[LCockWar$Hill;") (List.mem_of_getElem? (i := 3) rfl)) (fun _ h9 => h9) rfl dX0_takeBack_31 ?_
      refine kb_alen (v := (nI 14)) hx hb hK hH 1 2 rfl rfl rfl dX0_takeBack_34 ?_
      refine lv_icmp_ge (tgt := 67) hx hb dX0_takeBack_35 (by decide) (fun c3 => ?_) (fun c3 => ?_)
      · rw [if_pos c3] at hF
        refine lv_aload_n hx hb dX0_takeBack_67 rfl (lv_at hl 1 rfl) ?_
        refine kb_get (v := .int (V.2.1 2)) hx hb hts hin0 hown hK hH 0 rfl rfl rfl 2 (by decide) (hts (.fieldLink RX0 18 "CockWar$ActRow" "number" "I") (List.mem_of_getElem? (i := 1) rfl)) (fun _ h9 => h9) rfl dX0_takeBack_68 ?_
        subst hF
        exact kb_iret hx hb hr hH rfl rfl dX0_takeBack_71 hlocks
      · rw [if_neg c3] at hF
        refine lv_aload_n hx hb dX0_takeBack_38 rfl (lv_at hl 1 rfl) ?_
        refine kb_get (v := .ref (g 1)) hx hb hts hin0 hown hK hH 0 rfl rfl rfl 0 (by decide) (hts (.fieldLink RX0 11 "CockWar$ActRow" "before" "[LCockWar$Hill;") (List.mem_of_getElem? (i := 3) rfl)) (fun _ h9 => h9) rfl dX0_takeBack_39 ?_
        refine lv_iload_n hx hb dX0_takeBack_42 rfl (lv_at hl 0 rfl) ?_
        refine kb_hald hx hb hK hH 1 rfl (kb_vp (by decide) c2 c3) dX0_takeBack_43 ?_
        refine lv_ifnull hx hb dX0_takeBack_44 ?_
        refine lv_aload_n hx hb dX0_takeBack_47 rfl (lv_at hl 2 rfl) ?_
        refine lv_aload_n hx hb dX0_takeBack_48 rfl (lv_at hl 1 rfl) ?_
        refine kb_get (v := .ref (g 1)) hx hb hts hin0 hown hK hH 0 rfl rfl rfl 0 (by decide) (hts (.fieldLink RX0 11 "CockWar$ActRow" "before" "[LCockWar$Hill;") (List.mem_of_getElem? (i := 3) rfl)) (fun _ h9 => h9) rfl dX0_takeBack_49 ?_
        refine lv_iload_n hx hb dX0_takeBack_52 rfl (lv_at hl 0 rfl) ?_
        refine kb_hald hx hb hK hH 1 rfl (kb_vp (by decide) c2 c3) dX0_takeBack_53 ?_
        obtain ⟨q4, hq4⟩ : ∃ z, z = (f_X2_copyFrom V_p0 (VH_this ((((V.2.1 1) + (V.2.1 2)) - (1 : Int32)) - (((V.2.1 1) + (V.2.1 2)) - (1 : Int32)) / (14 : Int32) * (14 : Int32)).toNatClampNeg)) := ⟨_, rfl⟩
        have hF := kAp_eq hF hq4
        have hix := kb_vplt (kb_vp (by decide) c2 c3)
        have hH := kb_hopen 2 14 hix rfl hH
        refine kb_cv hH hA [3, 4, 5, 6, 7, 8, 9, 10, 11, 12, 13, 14] (Wc := (w_O2 G g_p0 V_p0 ++ w_O2 G (gh_this ((((V.2.1 1) + (V.2.1 2)) - (1 : Int32)) - (((V.2.1 1) + (V.2.1 2)) - (1 : Int32)) / (14 : Int32) * (14 : Int32)).toNatClampNeg) (VH_this ((((V.2.1 1) + (V.2.1 2)) - (1 : Int32)) - (((V.2.1 1) + (V.2.1 2)) - (1 : Int32)) / (14 : Int32) * (14 : Int32)).toNatClampNeg))) (Wc' := (w_O2 G g_p0 q4 ++ w_O2 G (gh_this ((((V.2.1 1) + (V.2.1 2)) - (1 : Int32)) - (((V.2.1 1) + (V.2.1 2)) - (1 : Int32)) / (14 : Int32) * (14 : Int32)).toNatClampNeg) (VH_this ((((V.2.1 1) + (V.2.1 2)) - (1 : Int32)) - (((V.2.1 1) + (V.2.1 2)) - (1 : Int32)) / (14 : Int32) * (14 : Int32)).toNatClampNeg))) (WS' := (((w_O0 G g gh_this V VH_this ++ w_O2 G g_p0 q4)).set 2 (b_hillsBut G 14 gh_this VH_this (((((V.2.1 1) + (V.2.1 2)) - (1 : Int32)) - (((V.2.1 1) + (V.2.1 2)) - (1 : Int32)) / (14 : Int32) * (14 : Int32)).toNatClampNeg)) ++ w_O2 G (gh_this ((((V.2.1 1) + (V.2.1 2)) - (1 : Int32)) - (((V.2.1 1) + (V.2.1 2)) - (1 : Int32)) / (14 : Int32) * (14 : Int32)).toNatClampNeg) (VH_this ((((V.2.1 1) + (V.2.1 2)) - (1 : Int32)) - (((V.2.1 1) + (V.2.1 2)) - (1 : Int32)) / (14 : Int32) * (14 : Int32)).toNatClampNeg))) rfl (by decide) rfl rfl (va_runVN (C := RX2) (As := [.ref (gh_this ((((V.2.1 1) + (V.2.1 2)) - (1 : Int32)) - (((V.2.1 1) + (V.2.1 2)) - (1 : Int32)) / (14 : Int32) * (14 : Int32)).toNatClampNeg 0)]) (rest := []) ⟨hx, hb, hml, hown, hts⟩ (c_X2_copyFrom l G g_p0 V_p0 (gh_this ((((V.2.1 1) + (V.2.1 2)) - (1 : Int32)) - (((V.2.1 1) + (V.2.1 2)) - (1 : Int32)) / (14 : Int32) * (14 : Int32)).toNatClampNeg) (VH_this ((((V.2.1 1) + (V.2.1 2)) - (1 : Int32)) - (((V.2.1 1) + (V.2.1 2)) - (1 : Int32)) / (14 : Int32) * (14 : Int32)).toNatClampNeg) hq4.symm _) ⟨va_cnB 1 hts gX0_takeBack_X2_copyFrom_n25 rfl rfl rfl (kb_NM hN 38 rfl) (hts (.initialized RX2) (List.mem_of_getElem? (i := 5) rfl)) hd_X2_copyFrom ⟨Nat.le_of_ble_eq_true rfl, Nat.le_of_ble_eq_true rfl⟩, (hts (.instanceMethod yX2_copyFrom) (List.mem_of_getElem? (i := 4) rfl)), (hts (.selects RX2 yX2_copyFrom yX2_copyFrom) (List.mem_of_getElem? (i := 6) rfl))⟩ (kb_preV hH hK hN [3, 4, 5, 6, 7, 8, 9, 10, 11, 12, 13, 14] rfl (by decide) 3 rfl rfl rfl rfl) rfl rfl hl.1 rfl (lv_room (Nat.le_of_ble_eq_true rfl)) dX0_takeBack_54 ⟨Nat.le_of_ble_eq_true rfl, Nat.le_of_ble_eq_true rfl⟩) (fun H locs hH => ?_)
        have hH : HP G A s.heap (w_O0 G g gh_this V VH_this ++ w_O2 G g_p0 q4) H locs := kb_hcloseS (WS := (w_O0 G g gh_this V VH_this ++ w_O2 G g_p0 q4)) 2 14 hix (Nat.le_of_ble_eq_true rfl) hH
        refine lv_aload_n hx hb dX0_takeBack_57 rfl (lv_at hl 1 rfl) ?_
        refine lv_dup hx hb dX0_takeBack_58 rfl ?_
        refine kb_get (v := .int (V.2.1 2)) hx hb hts hin0 hown hK hH 0 rfl rfl rfl 2 (by decide) (hts (.fieldLink RX0 18 "CockWar$ActRow" "number" "I") (List.mem_of_getElem? (i := 1) rfl)) (fun _ h9 => h9) rfl dX0_takeBack_59 ?_
        refine lv_iconst (v := 1) hx hb dX0_takeBack_62 (by decide) ?_
        refine lv_isub hx hb dX0_takeBack_63 ?_
        refine kb_put (ty := .int) (v := .int ((V.2.1 2) - (1 : Int32))) (WS' := (w_O0 G g gh_this (oI V 2 ((V.2.1 2) - (1 : Int32))) VH_this ++ w_O2 G g_p0 q4)) hx hb hts hin0 tyX0 tyX0_ok nmX0 hown hK hH 0 rfl rfl 2 (by decide) (hts (.fieldLink RX0 18 "CockWar$ActRow" "number" "I") (List.mem_of_getElem? (i := 1) rfl)) (fun _ h9 => h9) rfl (by decide +kernel) rfl rfl (Nat.le_of_ble_eq_true rfl) rfl dX0_takeBack_64 (fun H locs hH => ?_)
        refine lv_aload_n hx hb dX0_takeBack_67 rfl (lv_at hl 1 rfl) ?_
        refine kb_get (v := .int ((V.2.1 2) - (1 : Int32))) hx hb hts hin0 hown hK hH 0 rfl rfl rfl 2 (by decide) (hts (.fieldLink RX0 18 "CockWar$ActRow" "number" "I") (List.mem_of_getElem? (i := 1) rfl)) (fun _ h9 => h9) rfl dX0_takeBack_68 ?_
        subst hF
        exact kb_iret hx hb hr hH rfl rfl dX0_takeBack_71 hlocks
  · rw [if_pos c1] at hF
    refine lv_bipush (v := -3) hx hb dX0_takeBack_7 (by decide) ?_
    subst hF
    exact kb_iret hx hb hr hH rfl rfl dX0_takeBack_9 hlocks
def f_X6_forget (V : OV) (VH_this : Nat → OV) : (OV) := (oI V 1 (0 : Int32))
set_option maxHeartbeats 4000000 in
set_option maxRecDepth 100000 in
theorem c_X6_forget (l : Launch) (G : Ge) (g : Nat → Nat) (gh_this : Nat → Nat → Nat) (V : OV) (VH_this : Nat → OV) {F : (OV)} (hF : f_X6_forget V VH_this = F) : CV l yX6_forget wsX6_forget { frames := 0, cells := 0, slots := 0, locals := 0 } [.ref (g 0)] G (w_O6 G g gh_this V VH_this) (w_O6 G g gh_this F VH_this) := by
  intro sz
  refine Met.ofW (cc := cX6_forget) (maxL := 1) (ret := none) (by decide) rfl ?_
  intro p e s m args below meth c s₁ B hml hv
  obtain ⟨rfl, hpre⟩ := hv
  obtain ⟨hsz, hH, hK, hN, hA⟩ := kb_start hpre
  subst hsz
  have hx := B.exec
  have hb := B.bytes
  have hr := B.returns
  have hts := atoms_spec (ws := wsX6_forget) B.pre
  have hown : s.vm.findClass RX6 = some m.cls := findClass_of_methodNamed B.named
  have hlocks := B.notSynchronized
  generalize hAe : va_A (List.flatten (w_O6 G g gh_this V VH_this)) s.heap.size = A at hH hA ⊢
  have hl := lv_entry ([.ref (g 0)]) (n := 1) (Nat.le_of_ble_eq_true rfl)
  rw [lg_entry_eq]
  generalize (lg_sl ([.ref (g 0)]) ++ List.replicate (1 - (lg_sl ([.ref (g 0)])).length) Slot.unset).toArray = ls at hl ⊢
  have hl : lv_has ls 1 [(0, .ref (g 0))] := hl
  have hH : HP G A s.heap (w_O6 G g gh_this V VH_this) s.heap [] := hH
  have hin6 : ∀ w ∈ u_ws RX6 TX6 2, w ∈ wsX6_forget := fun w h => List.mem_cons_of_mem _ (List.mem_append_right _ h)
  have hF : (oI V 1 (0 : Int32)) = F := hF
  refine lv_aload_n hx hb dX6_forget_0 rfl (lv_at hl 0 rfl) ?_
  refine lv_iconst (v := 0) hx hb dX6_forget_1 (by decide) ?_
  refine kb_put (ty := .int) (v := .int (0 : Int32)) (WS' := (w_O6 G g gh_this (oI V 1 (0 : Int32)) VH_this)) hx hb hts hin6 tyX6 tyX6_ok nmX6 hown hK hH 0 rfl rfl 1 (by decide) (hts (.fieldLink RX6 18 "CockWar$Slots" "filled" "I") (List.mem_of_getElem? (i := 1) rfl)) (fun _ h9 => h9) rfl (by decide +kernel) rfl rfl (Nat.le_of_ble_eq_true rfl) rfl dX6_forget_2 (fun H locs hH => ?_)
  subst hF
  exact kb_vret hx hb hr hH rfl dX6_forget_5 hlocks
def f_X6_store (V : OV) (VH_this : Nat → OV) (V_p1 : OV) (x0 : Int32) : (Int32 × OV × (Nat → OV)) := (if x0 < 0 then ((-1 : Int32), V, VH_this) else (if (nI 2) ≤ x0 then ((-1 : Int32), V, VH_this) else (kAp (f_X2_copyFrom (VH_this (x0).toNatClampNeg) V_p1) (fun q3 => ((V_p1.2.1 10), (oI V 1 ((V.2.1 1) ||| ((1 : Int32) <<< (x0 &&& 31)))), (va_up VH_this ((x0).toNatClampNeg) q3))))))
set_option maxHeartbeats 4000000 in
set_option maxRecDepth 100000 in
theorem c_X6_store (l : Launch) (G : Ge) (g : Nat → Nat) (gh_this : Nat → Nat → Nat) (V : OV) (VH_this : Nat → OV) (g_p1 : Nat → Nat) (V_p1 : OV) (x0 : Int32) {F : (Int32 × OV × (Nat → OV))} (hF : f_X6_store V VH_this V_p1 x0 = F) : CI l yX6_store wsX6_store { frames := 2, cells := 0, slots := 0, locals := 43 } [.ref (g 0), .int x0, .ref (g_p1 0)] G (w_O6 G g gh_this V VH_this ++ w_O2 G g_p1 V_p1) (w_O6 G g gh_this F.2.1 F.2.2 ++ w_O2 G g_p1 V_p1) F.1 := by
  intro sz
  refine Met.ofW (cc := cX6_store) (maxL := 3) (ret := (some .int)) (by decide) rfl ?_
  intro p e s m args below meth c s₁ B hml hv
  obtain ⟨rfl, hpre⟩ := hv
  obtain ⟨hsz, hH, hK, hN, hA⟩ := kb_start hpre
  subst hsz
  have hx := B.exec
  have hb := B.bytes
  have hr := B.returns
  have hts := atoms_spec (ws := wsX6_store) B.pre
  have hown : s.vm.findClass RX6 = some m.cls := findClass_of_methodNamed B.named
  have hlocks := B.notSynchronized
  generalize hAe : va_A (List.flatten (w_O6 G g gh_this V VH_this ++ w_O2 G g_p1 V_p1)) s.heap.size = A at hH hA ⊢
  have hl := lv_entry ([.ref (g 0), .int x0, .ref (g_p1 0)]) (n := 3) (Nat.le_of_ble_eq_true rfl)
  rw [lg_entry_eq]
  generalize (lg_sl ([.ref (g 0), .int x0, .ref (g_p1 0)]) ++ List.replicate (3 - (lg_sl ([.ref (g 0), .int x0, .ref (g_p1 0)])).length) Slot.unset).toArray = ls at hl ⊢
  have hl : lv_has ls 3 [(0, .ref (g 0)), (1, .int x0), (2, .ref (g_p1 0))] := hl
  have hH : HP G A s.heap (w_O6 G g gh_this V VH_this ++ w_O2 G g_p1 V_p1) s.heap [] := hH
  have hin2 : ∀ w ∈ u_ws RX2 TX2 11, w ∈ wsX6_store := fun w h => List.mem_cons_of_mem _ (List.mem_append_right _ h)
  have hin6 : ∀ w ∈ u_ws RX6 TX6 2, w ∈ wsX6_store := fun w h => List.mem_cons_of_mem _ (List.mem_append_left _ (List.mem_append_right _ h))
  have hF : (if x0 < 0 then ((-1 : Int32), V, VH_this) else (if (nI 2) ≤ x0 then ((-1 : Int32), V, VH_this) else (kAp (f_X2_copyFrom (VH_this (x0).toNatClampNeg) V_p1) (fun q3 => ((V_p1.2.1 10), (oI V 1 ((V.2.1 1) ||| ((1 : Int32) <<< (x0 &&& 31)))), (va_up VH_this ((x0).toNatClampNeg) q3)))))) = F := hF
  refine lv_iload_n hx hb dX6_store_0 rfl (lv_at hl 1 rfl) ?_
  refine lv_if_lt (tgt := 22) hx hb dX6_store_1 (by decide) (fun c1 => ?_) (fun c1 => ?_)
  · rw [if_pos c1] at hF
    refine lv_iconst (v := -1) hx hb dX6_store_22 (by decide) ?_
    subst hF
    exact kb_iret hx hb hr hH rfl rfl dX6_store_23 hlocks
  · rw [if_neg c1] at hF
    refine lv_iload_n hx hb dX6_store_4 rfl (lv_at hl 1 rfl) ?_
    refine lv_aload_n hx hb dX6_store_5 rfl (lv_at hl 0 rfl) ?_
    refine kb_get (v := .ref (g 1)) hx hb hts hin6 hown hK hH 0 rfl rfl rfl 0 (by decide) (hts (.fieldLink RX6 11 "CockWar$Slots" "kept" "[LCockWar$Hill;") (List.mem_of_getElem? (i := 1) rfl)) (fun _ h9 => h9) rfl dX6_store_6 ?_
    refine kb_alen (v := (nI 2)) hx hb hK hH 1 2 rfl rfl rfl dX6_store_9 ?_
    refine lv_icmp_ge (tgt := 22) hx hb dX6_store_10 (by decide) (fun c2 => ?_) (fun c2 => ?_)
    · rw [if_pos c2] at hF
      refine lv_iconst (v := -1) hx hb dX6_store_22 (by decide) ?_
      subst hF
      exact kb_iret hx hb hr hH rfl rfl dX6_store_23 hlocks
    · rw [if_neg c2] at hF
      refine lv_aload_n hx hb dX6_store_13 rfl (lv_at hl 0 rfl) ?_
      refine kb_get (v := .ref (g 1)) hx hb hts hin6 hown hK hH 0 rfl rfl rfl 0 (by decide) (hts (.fieldLink RX6 11 "CockWar$Slots" "kept" "[LCockWar$Hill;") (List.mem_of_getElem? (i := 1) rfl)) (fun _ h9 => h9) rfl dX6_store_14 ?_
      refine lv_iload_n hx hb dX6_store_17 rfl (lv_at hl 1 rfl) ?_
      refine kb_hald hx hb hK hH 1 rfl (kb_vp (by decide) c1 c2) dX6_store_18 ?_
      refine lv_ifnonnull (tgt := 24) hx hb dX6_store_19 (by decide) ?_
      refine lv_aload_n hx hb dX6_store_24 rfl (lv_at hl 0 rfl) ?_
      refine kb_get (v := .ref (g 1)) hx hb hts hin6 hown hK hH 0 rfl rfl rfl 0 (by decide) (hts (.fieldLink RX6 11 "CockWar$Slots" "kept" "[LCockWar$Hill;") (List.mem_of_getElem? (i := 1) rfl)) (fun _ h9 => h9) rfl dX6_store_25 ?_
      refine lv_iload_n hx hb dX6_store_28 rfl (lv_at hl 1 rfl) ?_
      refine kb_hald hx hb hK hH 1 rfl (kb_vp (by decide) c1 c2) dX6_store_29 ?_
      refine lv_aload_n hx hb dX6_store_30 rfl (lv_at hl 2 rfl) ?_
      obtain ⟨q3, hq3⟩ : ∃ z, z = (f_X2_copyFrom (VH_this (x0).toNatClampNeg) V_p1) := ⟨_, rfl⟩
      have hF := kAp_eq hF hq3
      have hix := kb_vplt (kb_vp (by decide) c1 c2)
      have hH := kb_hopen 2 2 hix rfl hH
      refine kb_cv hH hA [9, 10, 11, 12, 13, 14, 3, 4, 5, 6, 7, 8] (Wc := (w_O2 G (gh_this (x0).toNatClampNeg) (VH_this (x0).toNatClampNeg) ++ w_O2 G g_p1 V_p1)) (Wc' := (w_O2 G (gh_this (x0).toNatClampNeg) q3 ++ w_O2 G g_p1 V_p1)) (WS' := (((w_O6 G g gh_this V VH_this ++ w_O2 G g_p1 V_p1)).set 2 (b_hillsBut G 2 gh_this VH_this ((x0).toNatClampNeg)) ++ w_O2 G (gh_this (x0).toNatClampNeg) q3)) rfl (by decide) rfl rfl (va_runVN (C := RX2) (As := [.ref (g_p1 0)]) (rest := []) ⟨hx, hb, hml, hown, hts⟩ (c_X2_copyFrom l G (gh_this (x0).toNatClampNeg) (VH_this (x0).toNatClampNeg) g_p1 V_p1 hq3.symm _) ⟨va_cnB 1 hts gX6_store_X2_copyFrom_n22 rfl rfl rfl (kb_NM hN 64 rfl) (hts (.initialized RX2) (List.mem_of_getElem? (i := 4) rfl)) hd_X2_copyFrom ⟨Nat.le_of_ble_eq_true rfl, Nat.le_of_ble_eq_true rfl⟩, (hts (.instanceMethod yX2_copyFrom) (List.mem_of_getElem? (i := 3) rfl)), (hts (.selects RX2 yX2_copyFrom yX2_copyFrom) (List.mem_of_getElem? (i := 5) rfl))⟩ (kb_preV hH hK hN [9, 10, 11, 12, 13, 14, 3, 4, 5, 6, 7, 8] rfl (by decide) 9 rfl rfl rfl rfl) rfl rfl hl.1 rfl (lv_room (Nat.le_of_ble_eq_true rfl)) dX6_store_31 ⟨Nat.le_of_ble_eq_true rfl, Nat.le_of_ble_eq_true rfl⟩) (fun H locs hH => ?_)
      have hH : HP G A s.heap (w_O6 G g gh_this V (va_up VH_this ((x0).toNatClampNeg) q3) ++ w_O2 G g_p1 V_p1) H locs := kb_hclose (WS := (w_O6 G g gh_this V VH_this ++ w_O2 G g_p1 V_p1)) 2 2 hix (Nat.le_of_ble_eq_true rfl) hH
      refine lv_aload_n hx hb dX6_store_34 rfl (lv_at hl 0 rfl) ?_
      refine lv_dup hx hb dX6_store_35 rfl ?_
      refine kb_get (v := .int (V.2.1 1)) hx hb hts hin6 hown hK hH 0 rfl rfl rfl 1 (by decide) (hts (.fieldLink RX6 18 "CockWar$Slots" "filled" "I") (List.mem_of_getElem? (i := 2) rfl)) (fun _ h9 => h9) rfl dX6_store_36 ?_
      refine lv_iconst (v := 1) hx hb dX6_store_39 (by decide) ?_
      refine lv_iload_n hx hb dX6_store_40 rfl (lv_at hl 1 rfl) ?_
      refine lv_ishl hx hb dX6_store_41 ?_
      refine lv_ior hx hb dX6_store_42 ?_
      refine kb_put (ty := .int) (v := .int ((V.2.1 1) ||| ((1 : Int32) <<< (x0 &&& 31)))) (WS' := (w_O6 G g gh_this (oI V 1 ((V.2.1 1) ||| ((1 : Int32) <<< (x0 &&& 31)))) (va_up VH_this ((x0).toNatClampNeg) q3) ++ w_O2 G g_p1 V_p1)) hx hb hts hin6 tyX6 tyX6_ok nmX6 hown hK hH 0 rfl rfl 1 (by decide) (hts (.fieldLink RX6 18 "CockWar$Slots" "filled" "I") (List.mem_of_getElem? (i := 2) rfl)) (fun _ h9 => h9) rfl (by decide +kernel) rfl rfl (Nat.le_of_ble_eq_true rfl) rfl dX6_store_43 (fun H locs hH => ?_)
      refine lv_aload_n hx hb dX6_store_46 rfl (lv_at hl 2 rfl) ?_
      refine kb_getN (v := .int (V_p1.2.1 10)) hx hb hts hin2 hown hK hH 3 rfl rfl rfl 10 (by decide) (kb_NF hN 19 rfl) (fun _ h9 => h9) rfl dX6_store_47 ?_
      subst hF
      exact kb_iret hx hb hr hH rfl rfl dX6_store_50 hlocks
def f_X6_fetch (V : OV) (VH_this : Nat → OV) (V_p1 : OV) (x0 : Int32) : (Int32 × OV) := (if x0 < 0 then ((-1 : Int32), V_p1) else (if (nI 2) ≤ x0 then ((-1 : Int32), V_p1) else (if (f_X7_bit (V.2.1 1) x0) = 0 then ((-3 : Int32), V_p1) else (kAp (f_X2_copyFrom V_p1 (VH_this (x0).toNatClampNeg)) (fun q4 => ((q4.2.1 10), q4))))))
set_option maxHeartbeats 4000000 in
set_option maxRecDepth 100000 in
theorem c_X6_fetch (l : Launch) (G : Ge) (g : Nat → Nat) (gh_this : Nat → Nat → Nat) (V : OV) (VH_this : Nat → OV) (g_p1 : Nat → Nat) (V_p1 : OV) (x0 : Int32) {F : (Int32 × OV)} (hF : f_X6_fetch V VH_this V_p1 x0 = F) : CI l yX6_fetch wsX6_fetch { frames := 2, cells := 0, slots := 0, locals := 43 } [.ref (g 0), .int x0, .ref (g_p1 0)] G (w_O6 G g gh_this V VH_this ++ w_O2 G g_p1 V_p1) (w_O6 G g gh_this V VH_this ++ w_O2 G g_p1 F.2) F.1 := by
  intro sz
  refine Met.ofW (cc := cX6_fetch) (maxL := 3) (ret := (some .int)) (by decide) rfl ?_
  intro p e s m args below meth c s₁ B hml hv
  obtain ⟨rfl, hpre⟩ := hv
  obtain ⟨hsz, hH, hK, hN, hA⟩ := kb_start hpre
  subst hsz
  have hx := B.exec
  have hb := B.bytes
  have hr := B.returns
  have hts := atoms_spec (ws := wsX6_fetch) B.pre
  have hown : s.vm.findClass RX6 = some m.cls := findClass_of_methodNamed B.named
  have hlocks := B.notSynchronized
  generalize hAe : va_A (List.flatten (w_O6 G g gh_this V VH_this ++ w_O2 G g_p1 V_p1)) s.heap.size = A at hH hA ⊢
  have hl := lv_entry ([.ref (g 0), .int x0, .ref (g_p1 0)]) (n := 3) (Nat.le_of_ble_eq_true rfl)
  rw [lg_entry_eq]
  generalize (lg_sl ([.ref (g 0), .int x0, .ref (g_p1 0)]) ++ List.replicate (3 - (lg_sl ([.ref (g 0), .int x0, .ref (g_p1 0)])).length) Slot.unset).toArray = ls at hl ⊢
  have hl : lv_has ls 3 [(0, .ref (g 0)), (1, .int x0), (2, .ref (g_p1 0))] := hl
  have hH : HP G A s.heap (w_O6 G g gh_this V VH_this ++ w_O2 G g_p1 V_p1) s.heap [] := hH
  have hin2 : ∀ w ∈ u_ws RX2 TX2 11, w ∈ wsX6_fetch := fun w h => List.mem_cons_of_mem _ (List.mem_append_right _ h)
  have hin6 : ∀ w ∈ u_ws RX6 TX6 2, w ∈ wsX6_fetch := fun w h => List.mem_cons_of_mem _ (List.mem_append_left _ (List.mem_append_right _ h))
  have hF : (if x0 < 0 then ((-1 : Int32), V_p1) else (if (nI 2) ≤ x0 then ((-1 : Int32), V_p1) else (if (f_X7_bit (V.2.1 1) x0) = 0 then ((-3 : Int32), V_p1) else (kAp (f_X2_copyFrom V_p1 (VH_this (x0).toNatClampNeg)) (fun q4 => ((q4.2.1 10), q4)))))) = F := hF
  refine lv_iload_n hx hb dX6_fetch_0 rfl (lv_at hl 1 rfl) ?_
  refine lv_if_lt (tgt := 22) hx hb dX6_fetch_1 (by decide) (fun c1 => ?_) (fun c1 => ?_)
  · rw [if_pos c1] at hF
    refine lv_iconst (v := -1) hx hb dX6_fetch_22 (by decide) ?_
    subst hF
    exact kb_iret hx hb hr hH rfl rfl dX6_fetch_23 hlocks
  · rw [if_neg c1] at hF
    refine lv_iload_n hx hb dX6_fetch_4 rfl (lv_at hl 1 rfl) ?_
    refine lv_aload_n hx hb dX6_fetch_5 rfl (lv_at hl 0 rfl) ?_
    refine kb_get (v := .ref (g 1)) hx hb hts hin6 hown hK hH 0 rfl rfl rfl 0 (by decide) (hts (.fieldLink RX6 11 "CockWar$Slots" "kept" "[LCockWar$Hill;") (List.mem_of_getElem? (i := 1) rfl)) (fun _ h9 => h9) rfl dX6_fetch_6 ?_
    refine kb_alen (v := (nI 2)) hx hb hK hH 1 2 rfl rfl rfl dX6_fetch_9 ?_
    refine lv_icmp_ge (tgt := 22) hx hb dX6_fetch_10 (by decide) (fun c2 => ?_) (fun c2 => ?_)
    · rw [if_pos c2] at hF
      refine lv_iconst (v := -1) hx hb dX6_fetch_22 (by decide) ?_
      subst hF
      exact kb_iret hx hb hr hH rfl rfl dX6_fetch_23 hlocks
    · rw [if_neg c2] at hF
      refine lv_aload_n hx hb dX6_fetch_13 rfl (lv_at hl 0 rfl) ?_
      refine kb_get (v := .ref (g 1)) hx hb hts hin6 hown hK hH 0 rfl rfl rfl 0 (by decide) (hts (.fieldLink RX6 11 "CockWar$Slots" "kept" "[LCockWar$Hill;") (List.mem_of_getElem? (i := 1) rfl)) (fun _ h9 => h9) rfl dX6_fetch_14 ?_
      refine lv_iload_n hx hb dX6_fetch_17 rfl (lv_at hl 1 rfl) ?_
      refine kb_hald hx hb hK hH 1 rfl (kb_vp (by decide) c1 c2) dX6_fetch_18 ?_
      refine lv_ifnonnull (tgt := 24) hx hb dX6_fetch_19 (by decide) ?_
      refine lv_aload_n hx hb dX6_fetch_24 rfl (lv_at hl 0 rfl) ?_
      refine kb_get (v := .int (V.2.1 1)) hx hb hts hin6 hown hK hH 0 rfl rfl rfl 1 (by decide) (hts (.fieldLink RX6 18 "CockWar$Slots" "filled" "I") (List.mem_of_getElem? (i := 2) rfl)) (fun _ h9 => h9) rfl dX6_fetch_25 ?_
      refine lv_iload_n hx hb dX6_fetch_28 rfl (lv_at hl 1 rfl) ?_
      refine kb_ci hH hA [] (Wc := ([] : List va_W)) (Wc' := ([] : List va_W)) (WS' := (w_O6 G g gh_this V VH_this ++ w_O2 G g_p1 V_p1)) rfl (by decide) rfl rfl (va_runSN (As := [.int (V.2.1 1), .int x0]) (rest := []) ⟨hx, hb, hml, hown, hts⟩ (c_X7_bit l G (V.2.1 1) x0 rfl _) ⟨va_cnB 2 hts gX6_fetch_X7_bit_n29 rfl rfl rfl (kb_NM hN 66 rfl) (hts (.initialized RX7) (List.mem_of_getElem? (i := 4) rfl)) hd_X7_bit ⟨Nat.le_of_ble_eq_true rfl, Nat.le_of_ble_eq_true rfl⟩, (hts (.static yX7_bit) (List.mem_of_getElem? (i := 3) rfl)), trivial⟩ (kb_preS hH hK hN [] rfl (by decide)) rfl rfl hl.1 rfl (lv_room (Nat.le_of_ble_eq_true rfl)) dX6_fetch_29 ⟨Nat.le_of_ble_eq_true rfl, Nat.le_of_ble_eq_true rfl⟩) (fun H locs hH => ?_)
      refine lv_if_ne (tgt := 38) hx hb dX6_fetch_32 (by decide) (fun c3 => ?_) (fun c3 => ?_)
      · rw [if_neg c3] at hF
        refine lv_aload_n hx hb dX6_fetch_38 rfl (lv_at hl 2 rfl) ?_
        refine lv_aload_n hx hb dX6_fetch_39 rfl (lv_at hl 0 rfl) ?_
        refine kb_get (v := .ref (g 1)) hx hb hts hin6 hown hK hH 0 rfl rfl rfl 0 (by decide) (hts (.fieldLink RX6 11 "CockWar$Slots" "kept" "[LCockWar$Hill;") (List.mem_of_getElem? (i := 1) rfl)) (fun _ h9 => h9) rfl dX6_fetch_40 ?_
        refine lv_iload_n hx hb dX6_fetch_43 rfl (lv_at hl 1 rfl) ?_
        refine kb_hald hx hb hK hH 1 rfl (kb_vp (by decide) c1 c2) dX6_fetch_44 ?_
        obtain ⟨q4, hq4⟩ : ∃ z, z = (f_X2_copyFrom V_p1 (VH_this (x0).toNatClampNeg)) := ⟨_, rfl⟩
        have hF := kAp_eq hF hq4
        have hix := kb_vplt (kb_vp (by decide) c1 c2)
        have hH := kb_hopen 2 2 hix rfl hH
        refine kb_cv hH hA [3, 4, 5, 6, 7, 8, 9, 10, 11, 12, 13, 14] (Wc := (w_O2 G g_p1 V_p1 ++ w_O2 G (gh_this (x0).toNatClampNeg) (VH_this (x0).toNatClampNeg))) (Wc' := (w_O2 G g_p1 q4 ++ w_O2 G (gh_this (x0).toNatClampNeg) (VH_this (x0).toNatClampNeg))) (WS' := (((w_O6 G g gh_this V VH_this ++ w_O2 G g_p1 q4)).set 2 (b_hillsBut G 2 gh_this VH_this ((x0).toNatClampNeg)) ++ w_O2 G (gh_this (x0).toNatClampNeg) (VH_this (x0).toNatClampNeg))) rfl (by decide) rfl rfl (va_runVN (C := RX2) (As := [.ref (gh_this (x0).toNatClampNeg 0)]) (rest := []) ⟨hx, hb, hml, hown, hts⟩ (c_X2_copyFrom l G g_p1 V_p1 (gh_this (x0).toNatClampNeg) (VH_this (x0).toNatClampNeg) hq4.symm _) ⟨va_cnB 1 hts gX6_fetch_X2_copyFrom_n22 rfl rfl rfl (kb_NM hN 64 rfl) (hts (.initialized RX2) (List.mem_of_getElem? (i := 7) rfl)) hd_X2_copyFrom ⟨Nat.le_of_ble_eq_true rfl, Nat.le_of_ble_eq_true rfl⟩, (hts (.instanceMethod yX2_copyFrom) (List.mem_of_getElem? (i := 6) rfl)), (hts (.selects RX2 yX2_copyFrom yX2_copyFrom) (List.mem_of_getElem? (i := 8) rfl))⟩ (kb_preV hH hK hN [3, 4, 5, 6, 7, 8, 9, 10, 11, 12, 13, 14] rfl (by decide) 3 rfl rfl rfl rfl) rfl rfl hl.1 rfl (lv_room (Nat.le_of_ble_eq_true rfl)) dX6_fetch_45 ⟨Nat.le_of_ble_eq_true rfl, Nat.le_of_ble_eq_true rfl⟩) (fun H locs hH => ?_)
        have hH : HP G A s.heap (w_O6 G g gh_this V VH_this ++ w_O2 G g_p1 q4) H locs := kb_hcloseS (WS := (w_O6 G g gh_this V VH_this ++ w_O2 G g_p1 q4)) 2 2 hix (Nat.le_of_ble_eq_true rfl) hH
        refine lv_aload_n hx hb dX6_fetch_48 rfl (lv_at hl 2 rfl) ?_
        refine kb_getN (v := .int (q4.2.1 10)) hx hb hts hin2 hown hK hH 3 rfl rfl rfl 10 (by decide) (kb_NF hN 19 rfl) (fun _ h9 => h9) rfl dX6_fetch_49 ?_
        subst hF
        exact kb_iret hx hb hr hH rfl rfl dX6_fetch_52 hlocks
      · rw [if_pos c3] at hF
        refine lv_bipush (v := -3) hx hb dX6_fetch_35 (by decide) ?_
        subst hF
        exact kb_iret hx hb hr hH rfl rfl dX6_fetch_37 hlocks
def f_J6_bitCount_0f7a4 (x0 : Int32) : (Int32) := ((((((((x0 - (((x0.toUInt32 >>> ((1 : Int32).toUInt32 &&& Int32.toUInt32 31)).toInt32) &&& (1431655765 : Int32))) &&& (858993459 : Int32)) + ((((x0 - (((x0.toUInt32 >>> ((1 : Int32).toUInt32 &&& Int32.toUInt32 31)).toInt32) &&& (1431655765 : Int32))).toUInt32 >>> ((2 : Int32).toUInt32 &&& Int32.toUInt32 31)).toInt32) &&& (858993459 : Int32))) + (((((x0 - (((x0.toUInt32 >>> ((1 : Int32).toUInt32 &&& Int32.toUInt32 31)).toInt32) &&& (1431655765 : Int32))) &&& (858993459 : Int32)) + ((((x0 - (((x0.toUInt32 >>> ((1 : Int32).toUInt32 &&& Int32.toUInt32 31)).toInt32) &&& (1431655765 : Int32))).toUInt32 >>> ((2 : Int32).toUInt32 &&& Int32.toUInt32 31)).toInt32) &&& (858993459 : Int32))).toUInt32 >>> ((4 : Int32).toUInt32 &&& Int32.toUInt32 31)).toInt32)) &&& (252645135 : Int32)) + (((((((x0 - (((x0.toUInt32 >>> ((1 : Int32).toUInt32 &&& Int32.toUInt32 31)).toInt32) &&& (1431655765 : Int32))) &&& (858993459 : Int32)) + ((((x0 - (((x0.toUInt32 >>> ((1 : Int32).toUInt32 &&& Int32.toUInt32 31)).toInt32) &&& (1431655765 : Int32))).toUInt32 >>> ((2 : Int32).toUInt32 &&& Int32.toUInt32 31)).toInt32) &&& (858993459 : Int32))) + (((((x0 - (((x0.toUInt32 >>> ((1 : Int32).toUInt32 &&& Int32.toUInt32 31)).toInt32) &&& (1431655765 : Int32))) &&& (858993459 : Int32)) + ((((x0 - (((x0.toUInt32 >>> ((1 : Int32).toUInt32 &&& Int32.toUInt32 31)).toInt32) &&& (1431655765 : Int32))).toUInt32 >>> ((2 : Int32).toUInt32 &&& Int32.toUInt32 31)).toInt32) &&& (858993459 : Int32))).toUInt32 >>> ((4 : Int32).toUInt32 &&& Int32.toUInt32 31)).toInt32)) &&& (252645135 : Int32)).toUInt32 >>> ((8 : Int32).toUInt32 &&& Int32.toUInt32 31)).toInt32)) + ((((((((x0 - (((x0.toUInt32 >>> ((1 : Int32).toUInt32 &&& Int32.toUInt32 31)).toInt32) &&& (1431655765 : Int32))) &&& (858993459 : Int32)) + ((((x0 - (((x0.toUInt32 >>> ((1 : Int32).toUInt32 &&& Int32.toUInt32 31)).toInt32) &&& (1431655765 : Int32))).toUInt32 >>> ((2 : Int32).toUInt32 &&& Int32.toUInt32 31)).toInt32) &&& (858993459 : Int32))) + (((((x0 - (((x0.toUInt32 >>> ((1 : Int32).toUInt32 &&& Int32.toUInt32 31)).toInt32) &&& (1431655765 : Int32))) &&& (858993459 : Int32)) + ((((x0 - (((x0.toUInt32 >>> ((1 : Int32).toUInt32 &&& Int32.toUInt32 31)).toInt32) &&& (1431655765 : Int32))).toUInt32 >>> ((2 : Int32).toUInt32 &&& Int32.toUInt32 31)).toInt32) &&& (858993459 : Int32))).toUInt32 >>> ((4 : Int32).toUInt32 &&& Int32.toUInt32 31)).toInt32)) &&& (252645135 : Int32)) + (((((((x0 - (((x0.toUInt32 >>> ((1 : Int32).toUInt32 &&& Int32.toUInt32 31)).toInt32) &&& (1431655765 : Int32))) &&& (858993459 : Int32)) + ((((x0 - (((x0.toUInt32 >>> ((1 : Int32).toUInt32 &&& Int32.toUInt32 31)).toInt32) &&& (1431655765 : Int32))).toUInt32 >>> ((2 : Int32).toUInt32 &&& Int32.toUInt32 31)).toInt32) &&& (858993459 : Int32))) + (((((x0 - (((x0.toUInt32 >>> ((1 : Int32).toUInt32 &&& Int32.toUInt32 31)).toInt32) &&& (1431655765 : Int32))) &&& (858993459 : Int32)) + ((((x0 - (((x0.toUInt32 >>> ((1 : Int32).toUInt32 &&& Int32.toUInt32 31)).toInt32) &&& (1431655765 : Int32))).toUInt32 >>> ((2 : Int32).toUInt32 &&& Int32.toUInt32 31)).toInt32) &&& (858993459 : Int32))).toUInt32 >>> ((4 : Int32).toUInt32 &&& Int32.toUInt32 31)).toInt32)) &&& (252645135 : Int32)).toUInt32 >>> ((8 : Int32).toUInt32 &&& Int32.toUInt32 31)).toInt32)).toUInt32 >>> ((16 : Int32).toUInt32 &&& Int32.toUInt32 31)).toInt32)) &&& (63 : Int32))
set_option maxHeartbeats 4000000 in
set_option maxRecDepth 100000 in
theorem c_J6_bitCount_0f7a4 (l : Launch) (G : Ge) (x0 : Int32) {F : (Int32)} (hF : f_J6_bitCount_0f7a4 x0 = F) : CI l yJ6_bitCount_0f7a4 wsJ6_bitCount_0f7a4 { frames := 0, cells := 0, slots := 0, locals := 0 } [.int x0] G ([] : List va_W) ([] : List va_W) F := by
  intro sz
  refine Met.ofW (cc := cJ6_bitCount_0f7a4) (maxL := 1) (ret := (some .int)) (by decide) rfl ?_
  intro p e s m args below meth c s₁ B hml hv
  obtain ⟨rfl, hpre⟩ := hv
  obtain ⟨hsz, hH, hK, hN, hA⟩ := kb_start hpre
  subst hsz
  have hx := B.exec
  have hb := B.bytes
  have hr := B.returns
  have hts := atoms_spec (ws := wsJ6_bitCount_0f7a4) B.pre
  have hown : s.vm.findClass RJ6 = some m.cls := findClass_of_methodNamed B.named
  have hlocks := B.notSynchronized
  generalize hAe : va_A (List.flatten ([] : List va_W)) s.heap.size = A at hH hA ⊢
  have hl := lv_entry ([.int x0]) (n := 1) (Nat.le_of_ble_eq_true rfl)
  rw [lg_entry_eq]
  generalize (lg_sl ([.int x0]) ++ List.replicate (1 - (lg_sl ([.int x0])).length) Slot.unset).toArray = ls at hl ⊢
  have hl : lv_has ls 1 [(0, .int x0)] := hl
  have hH : HP G A s.heap ([] : List va_W) s.heap [] := hH
  have hF : ((((((((x0 - (((x0.toUInt32 >>> ((1 : Int32).toUInt32 &&& Int32.toUInt32 31)).toInt32) &&& (1431655765 : Int32))) &&& (858993459 : Int32)) + ((((x0 - (((x0.toUInt32 >>> ((1 : Int32).toUInt32 &&& Int32.toUInt32 31)).toInt32) &&& (1431655765 : Int32))).toUInt32 >>> ((2 : Int32).toUInt32 &&& Int32.toUInt32 31)).toInt32) &&& (858993459 : Int32))) + (((((x0 - (((x0.toUInt32 >>> ((1 : Int32).toUInt32 &&& Int32.toUInt32 31)).toInt32) &&& (1431655765 : Int32))) &&& (858993459 : Int32)) + ((((x0 - (((x0.toUInt32 >>> ((1 : Int32).toUInt32 &&& Int32.toUInt32 31)).toInt32) &&& (1431655765 : Int32))).toUInt32 >>> ((2 : Int32).toUInt32 &&& Int32.toUInt32 31)).toInt32) &&& (858993459 : Int32))).toUInt32 >>> ((4 : Int32).toUInt32 &&& Int32.toUInt32 31)).toInt32)) &&& (252645135 : Int32)) + (((((((x0 - (((x0.toUInt32 >>> ((1 : Int32).toUInt32 &&& Int32.toUInt32 31)).toInt32) &&& (1431655765 : Int32))) &&& (858993459 : Int32)) + ((((x0 - (((x0.toUInt32 >>> ((1 : Int32).toUInt32 &&& Int32.toUInt32 31)).toInt32) &&& (1431655765 : Int32))).toUInt32 >>> ((2 : Int32).toUInt32 &&& Int32.toUInt32 31)).toInt32) &&& (858993459 : Int32))) + (((((x0 - (((x0.toUInt32 >>> ((1 : Int32).toUInt32 &&& Int32.toUInt32 31)).toInt32) &&& (1431655765 : Int32))) &&& (858993459 : Int32)) + ((((x0 - (((x0.toUInt32 >>> ((1 : Int32).toUInt32 &&& Int32.toUInt32 31)).toInt32) &&& (1431655765 : Int32))).toUInt32 >>> ((2 : Int32).toUInt32 &&& Int32.toUInt32 31)).toInt32) &&& (858993459 : Int32))).toUInt32 >>> ((4 : Int32).toUInt32 &&& Int32.toUInt32 31)).toInt32)) &&& (252645135 : Int32)).toUInt32 >>> ((8 : Int32).toUInt32 &&& Int32.toUInt32 31)).toInt32)) + ((((((((x0 - (((x0.toUInt32 >>> ((1 : Int32).toUInt32 &&& Int32.toUInt32 31)).toInt32) &&& (1431655765 : Int32))) &&& (858993459 : Int32)) + ((((x0 - (((x0.toUInt32 >>> ((1 : Int32).toUInt32 &&& Int32.toUInt32 31)).toInt32) &&& (1431655765 : Int32))).toUInt32 >>> ((2 : Int32).toUInt32 &&& Int32.toUInt32 31)).toInt32) &&& (858993459 : Int32))) + (((((x0 - (((x0.toUInt32 >>> ((1 : Int32).toUInt32 &&& Int32.toUInt32 31)).toInt32) &&& (1431655765 : Int32))) &&& (858993459 : Int32)) + ((((x0 - (((x0.toUInt32 >>> ((1 : Int32).toUInt32 &&& Int32.toUInt32 31)).toInt32) &&& (1431655765 : Int32))).toUInt32 >>> ((2 : Int32).toUInt32 &&& Int32.toUInt32 31)).toInt32) &&& (858993459 : Int32))).toUInt32 >>> ((4 : Int32).toUInt32 &&& Int32.toUInt32 31)).toInt32)) &&& (252645135 : Int32)) + (((((((x0 - (((x0.toUInt32 >>> ((1 : Int32).toUInt32 &&& Int32.toUInt32 31)).toInt32) &&& (1431655765 : Int32))) &&& (858993459 : Int32)) + ((((x0 - (((x0.toUInt32 >>> ((1 : Int32).toUInt32 &&& Int32.toUInt32 31)).toInt32) &&& (1431655765 : Int32))).toUInt32 >>> ((2 : Int32).toUInt32 &&& Int32.toUInt32 31)).toInt32) &&& (858993459 : Int32))) + (((((x0 - (((x0.toUInt32 >>> ((1 : Int32).toUInt32 &&& Int32.toUInt32 31)).toInt32) &&& (1431655765 : Int32))) &&& (858993459 : Int32)) + ((((x0 - (((x0.toUInt32 >>> ((1 : Int32).toUInt32 &&& Int32.toUInt32 31)).toInt32) &&& (1431655765 : Int32))).toUInt32 >>> ((2 : Int32).toUInt32 &&& Int32.toUInt32 31)).toInt32) &&& (858993459 : Int32))).toUInt32 >>> ((4 : Int32).toUInt32 &&& Int32.toUInt32 31)).toInt32)) &&& (252645135 : Int32)).toUInt32 >>> ((8 : Int32).toUInt32 &&& Int32.toUInt32 31)).toInt32)).toUInt32 >>> ((16 : Int32).toUInt32 &&& Int32.toUInt32 31)).toInt32)) &&& (63 : Int32)) = F := hF
  refine lv_iload_n hx hb dJ6_bitCount_0f7a4_0 rfl (lv_at hl 0 rfl) ?_
  refine lv_iload_n hx hb dJ6_bitCount_0f7a4_1 rfl (lv_at hl 0 rfl) ?_
  refine lv_iconst (v := 1) hx hb dJ6_bitCount_0f7a4_2 (by decide) ?_
  refine lv_iushr (v := ((x0.toUInt32 >>> ((1 : Int32).toUInt32 &&& Int32.toUInt32 31)).toInt32)) hx hb dJ6_bitCount_0f7a4_3 rfl ?_
  refine lv_ldcw (v := 1431655765) hx hb hown (hts (.constant RJ6 265 (1431655765)) (List.mem_of_getElem? (i := 1) rfl)) dJ6_bitCount_0f7a4_4 ?_
  refine lv_iand hx hb dJ6_bitCount_0f7a4_7 ?_
  refine lv_isub hx hb dJ6_bitCount_0f7a4_8 ?_
  refine lv_istore_n (lv' := [(0, .int (x0 - (((x0.toUInt32 >>> ((1 : Int32).toUInt32 &&& Int32.toUInt32 31)).toInt32) &&& (1431655765 : Int32))))]) hx hb dJ6_bitCount_0f7a4_9 rfl hl (by decide) rfl (fun ls hl => ?_)
  refine lv_iload_n hx hb dJ6_bitCount_0f7a4_10 rfl (lv_at hl 0 rfl) ?_
  refine lv_ldcw (v := 858993459) hx hb hown (hts (.constant RJ6 266 (858993459)) (List.mem_of_getElem? (i := 2) rfl)) dJ6_bitCount_0f7a4_11 ?_
  refine lv_iand hx hb dJ6_bitCount_0f7a4_14 ?_
  refine lv_iload_n hx hb dJ6_bitCount_0f7a4_15 rfl (lv_at hl 0 rfl) ?_
  refine lv_iconst (v := 2) hx hb dJ6_bitCount_0f7a4_16 (by decide) ?_
  refine lv_iushr (v := (((x0 - (((x0.toUInt32 >>> ((1 : Int32).toUInt32 &&& Int32.toUInt32 31)).toInt32) &&& (1431655765 : Int32))).toUInt32 >>> ((2 : Int32).toUInt32 &&& Int32.toUInt32 31)).toInt32)) hx hb dJ6_bitCount_0f7a4_17 rfl ?_
  refine lv_ldcw (v := 858993459) hx hb hown (hts (.constant RJ6 266 (858993459)) (List.mem_of_getElem? (i := 2) rfl)) dJ6_bitCount_0f7a4_18 ?_
  refine lv_iand hx hb dJ6_bitCount_0f7a4_21 ?_
  refine lv_iadd hx hb dJ6_bitCount_0f7a4_22 ?_
  refine lv_istore_n (lv' := [(0, .int (((x0 - (((x0.toUInt32 >>> ((1 : Int32).toUInt32 &&& Int32.toUInt32 31)).toInt32) &&& (1431655765 : Int32))) &&& (858993459 : Int32)) + ((((x0 - (((x0.toUInt32 >>> ((1 : Int32).toUInt32 &&& Int32.toUInt32 31)).toInt32) &&& (1431655765 : Int32))).toUInt32 >>> ((2 : Int32).toUInt32 &&& Int32.toUInt32 31)).toInt32) &&& (858993459 : Int32))))]) hx hb dJ6_bitCount_0f7a4_23 rfl hl (by decide) rfl (fun ls hl => ?_)
  refine lv_iload_n hx hb dJ6_bitCount_0f7a4_24 rfl (lv_at hl 0 rfl) ?_
  refine lv_iload_n hx hb dJ6_bitCount_0f7a4_25 rfl (lv_at hl 0 rfl) ?_
  refine lv_iconst (v := 4) hx hb dJ6_bitCount_0f7a4_26 (by decide) ?_
  refine lv_iushr (v := (((((x0 - (((x0.toUInt32 >>> ((1 : Int32).toUInt32 &&& Int32.toUInt32 31)).toInt32) &&& (1431655765 : Int32))) &&& (858993459 : Int32)) + ((((x0 - (((x0.toUInt32 >>> ((1 : Int32).toUInt32 &&& Int32.toUInt32 31)).toInt32) &&& (1431655765 : Int32))).toUInt32 >>> ((2 : Int32).toUInt32 &&& Int32.toUInt32 31)).toInt32) &&& (858993459 : Int32))).toUInt32 >>> ((4 : Int32).toUInt32 &&& Int32.toUInt32 31)).toInt32)) hx hb dJ6_bitCount_0f7a4_27 rfl ?_
  refine lv_iadd hx hb dJ6_bitCount_0f7a4_28 ?_
  refine lv_ldcw (v := 252645135) hx hb hown (hts (.constant RJ6 267 (252645135)) (List.mem_of_getElem? (i := 3) rfl)) dJ6_bitCount_0f7a4_29 ?_
  refine lv_iand hx hb dJ6_bitCount_0f7a4_32 ?_
  refine lv_istore_n (lv' := [(0, .int (((((x0 - (((x0.toUInt32 >>> ((1 : Int32).toUInt32 &&& Int32.toUInt32 31)).toInt32) &&& (1431655765 : Int32))) &&& (858993459 : Int32)) + ((((x0 - (((x0.toUInt32 >>> ((1 : Int32).toUInt32 &&& Int32.toUInt32 31)).toInt32) &&& (1431655765 : Int32))).toUInt32 >>> ((2 : Int32).toUInt32 &&& Int32.toUInt32 31)).toInt32) &&& (858993459 : Int32))) + (((((x0 - (((x0.toUInt32 >>> ((1 : Int32).toUInt32 &&& Int32.toUInt32 31)).toInt32) &&& (1431655765 : Int32))) &&& (858993459 : Int32)) + ((((x0 - (((x0.toUInt32 >>> ((1 : Int32).toUInt32 &&& Int32.toUInt32 31)).toInt32) &&& (1431655765 : Int32))).toUInt32 >>> ((2 : Int32).toUInt32 &&& Int32.toUInt32 31)).toInt32) &&& (858993459 : Int32))).toUInt32 >>> ((4 : Int32).toUInt32 &&& Int32.toUInt32 31)).toInt32)) &&& (252645135 : Int32)))]) hx hb dJ6_bitCount_0f7a4_33 rfl hl (by decide) rfl (fun ls hl => ?_)
  refine lv_iload_n hx hb dJ6_bitCount_0f7a4_34 rfl (lv_at hl 0 rfl) ?_
  refine lv_iload_n hx hb dJ6_bitCount_0f7a4_35 rfl (lv_at hl 0 rfl) ?_
  refine lv_bipush (v := 8) hx hb dJ6_bitCount_0f7a4_36 (by decide) ?_
  refine lv_iushr (v := (((((((x0 - (((x0.toUInt32 >>> ((1 : Int32).toUInt32 &&& Int32.toUInt32 31)).toInt32) &&& (1431655765 : Int32))) &&& (858993459 : Int32)) + ((((x0 - (((x0.toUInt32 >>> ((1 : Int32).toUInt32 &&& Int32.toUInt32 31)).toInt32) &&& (1431655765 : Int32))).toUInt32 >>> ((2 : Int32).toUInt32 &&& Int32.toUInt32 31)).toInt32) &&& (858993459 : Int32))) + (((((x0 - (((x0.toUInt32 >>> ((1 : Int32).toUInt32 &&& Int32.toUInt32 31)).toInt32) &&& (1431655765 : Int32))) &&& (858993459 : Int32)) + ((((x0 - (((x0.toUInt32 >>> ((1 : Int32).toUInt32 &&& Int32.toUInt32 31)).toInt32) &&& (1431655765 : Int32))).toUInt32 >>> ((2 : Int32).toUInt32 &&& Int32.toUInt32 31)).toInt32) &&& (858993459 : Int32))).toUInt32 >>> ((4 : Int32).toUInt32 &&& Int32.toUInt32 31)).toInt32)) &&& (252645135 : Int32)).toUInt32 >>> ((8 : Int32).toUInt32 &&& Int32.toUInt32 31)).toInt32)) hx hb dJ6_bitCount_0f7a4_38 rfl ?_
  refine lv_iadd hx hb dJ6_bitCount_0f7a4_39 ?_
  refine lv_istore_n (lv' := [(0, .int ((((((x0 - (((x0.toUInt32 >>> ((1 : Int32).toUInt32 &&& Int32.toUInt32 31)).toInt32) &&& (1431655765 : Int32))) &&& (858993459 : Int32)) + ((((x0 - (((x0.toUInt32 >>> ((1 : Int32).toUInt32 &&& Int32.toUInt32 31)).toInt32) &&& (1431655765 : Int32))).toUInt32 >>> ((2 : Int32).toUInt32 &&& Int32.toUInt32 31)).toInt32) &&& (858993459 : Int32))) + (((((x0 - (((x0.toUInt32 >>> ((1 : Int32).toUInt32 &&& Int32.toUInt32 31)).toInt32) &&& (1431655765 : Int32))) &&& (858993459 : Int32)) + ((((x0 - (((x0.toUInt32 >>> ((1 : Int32).toUInt32 &&& Int32.toUInt32 31)).toInt32) &&& (1431655765 : Int32))).toUInt32 >>> ((2 : Int32).toUInt32 &&& Int32.toUInt32 31)).toInt32) &&& (858993459 : Int32))).toUInt32 >>> ((4 : Int32).toUInt32 &&& Int32.toUInt32 31)).toInt32)) &&& (252645135 : Int32)) + (((((((x0 - (((x0.toUInt32 >>> ((1 : Int32).toUInt32 &&& Int32.toUInt32 31)).toInt32) &&& (1431655765 : Int32))) &&& (858993459 : Int32)) + ((((x0 - (((x0.toUInt32 >>> ((1 : Int32).toUInt32 &&& Int32.toUInt32 31)).toInt32) &&& (1431655765 : Int32))).toUInt32 >>> ((2 : Int32).toUInt32 &&& Int32.toUInt32 31)).toInt32) &&& (858993459 : Int32))) + (((((x0 - (((x0.toUInt32 >>> ((1 : Int32).toUInt32 &&& Int32.toUInt32 31)).toInt32) &&& (1431655765 : Int32))) &&& (858993459 : Int32)) + ((((x0 - (((x0.toUInt32 >>> ((1 : Int32).toUInt32 &&& Int32.toUInt32 31)).toInt32) &&& (1431655765 : Int32))).toUInt32 >>> ((2 : Int32).toUInt32 &&& Int32.toUInt32 31)).toInt32) &&& (858993459 : Int32))).toUInt32 >>> ((4 : Int32).toUInt32 &&& Int32.toUInt32 31)).toInt32)) &&& (252645135 : Int32)).toUInt32 >>> ((8 : Int32).toUInt32 &&& Int32.toUInt32 31)).toInt32)))]) hx hb dJ6_bitCount_0f7a4_40 rfl hl (by decide) rfl (fun ls hl => ?_)
  refine lv_iload_n hx hb dJ6_bitCount_0f7a4_41 rfl (lv_at hl 0 rfl) ?_
  refine lv_iload_n hx hb dJ6_bitCount_0f7a4_42 rfl (lv_at hl 0 rfl) ?_
  refine lv_bipush (v := 16) hx hb dJ6_bitCount_0f7a4_43 (by decide) ?_
  refine lv_iushr (v := ((((((((x0 - (((x0.toUInt32 >>> ((1 : Int32).toUInt32 &&& Int32.toUInt32 31)).toInt32) &&& (1431655765 : Int32))) &&& (858993459 : Int32)) + ((((x0 - (((x0.toUInt32 >>> ((1 : Int32).toUInt32 &&& Int32.toUInt32 31)).toInt32) &&& (1431655765 : Int32))).toUInt32 >>> ((2 : Int32).toUInt32 &&& Int32.toUInt32 31)).toInt32) &&& (858993459 : Int32))) + (((((x0 - (((x0.toUInt32 >>> ((1 : Int32).toUInt32 &&& Int32.toUInt32 31)).toInt32) &&& (1431655765 : Int32))) &&& (858993459 : Int32)) + ((((x0 - (((x0.toUInt32 >>> ((1 : Int32).toUInt32 &&& Int32.toUInt32 31)).toInt32) &&& (1431655765 : Int32))).toUInt32 >>> ((2 : Int32).toUInt32 &&& Int32.toUInt32 31)).toInt32) &&& (858993459 : Int32))).toUInt32 >>> ((4 : Int32).toUInt32 &&& Int32.toUInt32 31)).toInt32)) &&& (252645135 : Int32)) + (((((((x0 - (((x0.toUInt32 >>> ((1 : Int32).toUInt32 &&& Int32.toUInt32 31)).toInt32) &&& (1431655765 : Int32))) &&& (858993459 : Int32)) + ((((x0 - (((x0.toUInt32 >>> ((1 : Int32).toUInt32 &&& Int32.toUInt32 31)).toInt32) &&& (1431655765 : Int32))).toUInt32 >>> ((2 : Int32).toUInt32 &&& Int32.toUInt32 31)).toInt32) &&& (858993459 : Int32))) + (((((x0 - (((x0.toUInt32 >>> ((1 : Int32).toUInt32 &&& Int32.toUInt32 31)).toInt32) &&& (1431655765 : Int32))) &&& (858993459 : Int32)) + ((((x0 - (((x0.toUInt32 >>> ((1 : Int32).toUInt32 &&& Int32.toUInt32 31)).toInt32) &&& (1431655765 : Int32))).toUInt32 >>> ((2 : Int32).toUInt32 &&& Int32.toUInt32 31)).toInt32) &&& (858993459 : Int32))).toUInt32 >>> ((4 : Int32).toUInt32 &&& Int32.toUInt32 31)).toInt32)) &&& (252645135 : Int32)).toUInt32 >>> ((8 : Int32).toUInt32 &&& Int32.toUInt32 31)).toInt32)).toUInt32 >>> ((16 : Int32).toUInt32 &&& Int32.toUInt32 31)).toInt32)) hx hb dJ6_bitCount_0f7a4_45 rfl ?_
  refine lv_iadd hx hb dJ6_bitCount_0f7a4_46 ?_
  refine lv_istore_n (lv' := [(0, .int (((((((x0 - (((x0.toUInt32 >>> ((1 : Int32).toUInt32 &&& Int32.toUInt32 31)).toInt32) &&& (1431655765 : Int32))) &&& (858993459 : Int32)) + ((((x0 - (((x0.toUInt32 >>> ((1 : Int32).toUInt32 &&& Int32.toUInt32 31)).toInt32) &&& (1431655765 : Int32))).toUInt32 >>> ((2 : Int32).toUInt32 &&& Int32.toUInt32 31)).toInt32) &&& (858993459 : Int32))) + (((((x0 - (((x0.toUInt32 >>> ((1 : Int32).toUInt32 &&& Int32.toUInt32 31)).toInt32) &&& (1431655765 : Int32))) &&& (858993459 : Int32)) + ((((x0 - (((x0.toUInt32 >>> ((1 : Int32).toUInt32 &&& Int32.toUInt32 31)).toInt32) &&& (1431655765 : Int32))).toUInt32 >>> ((2 : Int32).toUInt32 &&& Int32.toUInt32 31)).toInt32) &&& (858993459 : Int32))).toUInt32 >>> ((4 : Int32).toUInt32 &&& Int32.toUInt32 31)).toInt32)) &&& (252645135 : Int32)) + (((((((x0 - (((x0.toUInt32 >>> ((1 : Int32).toUInt32 &&& Int32.toUInt32 31)).toInt32) &&& (1431655765 : Int32))) &&& (858993459 : Int32)) + ((((x0 - (((x0.toUInt32 >>> ((1 : Int32).toUInt32 &&& Int32.toUInt32 31)).toInt32) &&& (1431655765 : Int32))).toUInt32 >>> ((2 : Int32).toUInt32 &&& Int32.toUInt32 31)).toInt32) &&& (858993459 : Int32))) + (((((x0 - (((x0.toUInt32 >>> ((1 : Int32).toUInt32 &&& Int32.toUInt32 31)).toInt32) &&& (1431655765 : Int32))) &&& (858993459 : Int32)) + ((((x0 - (((x0.toUInt32 >>> ((1 : Int32).toUInt32 &&& Int32.toUInt32 31)).toInt32) &&& (1431655765 : Int32))).toUInt32 >>> ((2 : Int32).toUInt32 &&& Int32.toUInt32 31)).toInt32) &&& (858993459 : Int32))).toUInt32 >>> ((4 : Int32).toUInt32 &&& Int32.toUInt32 31)).toInt32)) &&& (252645135 : Int32)).toUInt32 >>> ((8 : Int32).toUInt32 &&& Int32.toUInt32 31)).toInt32)) + ((((((((x0 - (((x0.toUInt32 >>> ((1 : Int32).toUInt32 &&& Int32.toUInt32 31)).toInt32) &&& (1431655765 : Int32))) &&& (858993459 : Int32)) + ((((x0 - (((x0.toUInt32 >>> ((1 : Int32).toUInt32 &&& Int32.toUInt32 31)).toInt32) &&& (1431655765 : Int32))).toUInt32 >>> ((2 : Int32).toUInt32 &&& Int32.toUInt32 31)).toInt32) &&& (858993459 : Int32))) + (((((x0 - (((x0.toUInt32 >>> ((1 : Int32).toUInt32 &&& Int32.toUInt32 31)).toInt32) &&& (1431655765 : Int32))) &&& (858993459 : Int32)) + ((((x0 - (((x0.toUInt32 >>> ((1 : Int32).toUInt32 &&& Int32.toUInt32 31)).toInt32) &&& (1431655765 : Int32))).toUInt32 >>> ((2 : Int32).toUInt32 &&& Int32.toUInt32 31)).toInt32) &&& (858993459 : Int32))).toUInt32 >>> ((4 : Int32).toUInt32 &&& Int32.toUInt32 31)).toInt32)) &&& (252645135 : Int32)) + (((((((x0 - (((x0.toUInt32 >>> ((1 : Int32).toUInt32 &&& Int32.toUInt32 31)).toInt32) &&& (1431655765 : Int32))) &&& (858993459 : Int32)) + ((((x0 - (((x0.toUInt32 >>> ((1 : Int32).toUInt32 &&& Int32.toUInt32 31)).toInt32) &&& (1431655765 : Int32))).toUInt32 >>> ((2 : Int32).toUInt32 &&& Int32.toUInt32 31)).toInt32) &&& (858993459 : Int32))) + (((((x0 - (((x0.toUInt32 >>> ((1 : Int32).toUInt32 &&& Int32.toUInt32 31)).toInt32) &&& (1431655765 : Int32))) &&& (858993459 : Int32)) + ((((x0 - (((x0.toUInt32 >>> ((1 : Int32).toUInt32 &&& Int32.toUInt32 31)).toInt32) &&& (1431655765 : Int32))).toUInt32 >>> ((2 : Int32).toUInt32 &&& Int32.toUInt32 31)).toInt32) &&& (858993459 : Int32))).toUInt32 >>> ((4 : Int32).toUInt32 &&& Int32.toUInt32 31)).toInt32)) &&& (252645135 : Int32)).toUInt32 >>> ((8 : Int32).toUInt32 &&& Int32.toUInt32 31)).toInt32)).toUInt32 >>> ((16 : Int32).toUInt32 &&& Int32.toUInt32 31)).toInt32)))]) hx hb dJ6_bitCount_0f7a4_47 rfl hl (by decide) rfl (fun ls hl => ?_)
  refine lv_iload_n hx hb dJ6_bitCount_0f7a4_48 rfl (lv_at hl 0 rfl) ?_
  refine lv_bipush (v := 63) hx hb dJ6_bitCount_0f7a4_49 (by decide) ?_
  refine lv_iand hx hb dJ6_bitCount_0f7a4_51 ?_
  subst hF
  exact kb_iret hx hb hr hH rfl rfl dJ6_bitCount_0f7a4_52 hlocks
