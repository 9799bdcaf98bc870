theorem hd_X8_in : yX8_in.cls ≠ "java/lang/invoke/MethodHandle" ∧ yX8_in.cls ≠ "java/lang/invoke/VarHandle" ∧ (parseMethodDescriptor yX8_in.desc).map (fun d => d.parameters.length) = some 3 := by decide +kernel
theorem he_X8_in : yX8_in.cls = RX8 ∧ yX8_in.cls ≠ "java/lang/invoke/MethodHandle" ∧ yX8_in.cls ≠ "java/lang/invoke/VarHandle" ∧ (parseMethodDescriptor yX8_in.desc).map (fun d => d.parameters.length) = some 3 := ⟨rfl, hd_X8_in⟩
theorem hd_X8_has : yX8_has.cls ≠ "java/lang/invoke/MethodHandle" ∧ yX8_has.cls ≠ "java/lang/invoke/VarHandle" ∧ (parseMethodDescriptor yX8_has.desc).map (fun d => d.parameters.length) = some 2 := by decide +kernel
theorem he_X8_has : yX8_has.cls = RX8 ∧ yX8_has.cls ≠ "java/lang/invoke/MethodHandle" ∧ yX8_has.cls ≠ "java/lang/invoke/VarHandle" ∧ (parseMethodDescriptor yX8_has.desc).map (fun d => d.parameters.length) = some 2 := ⟨rfl, hd_X8_has⟩
theorem hd_X8_ones : yX8_ones.cls ≠ "java/lang/invoke/MethodHandle" ∧ yX8_ones.cls ≠ "java/lang/invoke/VarHandle" ∧ (parseMethodDescriptor yX8_ones.desc).map (fun d => d.parameters.length) = some 1 := by decide +kernel
theorem he_X8_ones : yX8_ones.cls = RX8 ∧ yX8_ones.cls ≠ "java/lang/invoke/MethodHandle" ∧ yX8_ones.cls ≠ "java/lang/invoke/VarHandle" ∧ (parseMethodDescriptor yX8_ones.desc).map (fun d => d.parameters.length) = some 1 := ⟨rfl, hd_X8_ones⟩
theorem hd_X8_write : yX8_write.cls ≠ "java/lang/invoke/MethodHandle" ∧ yX8_write.cls ≠ "java/lang/invoke/VarHandle" ∧ (parseMethodDescriptor yX8_write.desc).map (fun d => d.parameters.length) = some 1 := by decide +kernel
theorem he_X8_write : yX8_write.cls = RX8 ∧ yX8_write.cls ≠ "java/lang/invoke/MethodHandle" ∧ yX8_write.cls ≠ "java/lang/invoke/VarHandle" ∧ (parseMethodDescriptor yX8_write.desc).map (fun d => d.parameters.length) = some 1 := ⟨rfl, hd_X8_write⟩
theorem hd_X8_wipe : yX8_wipe.cls ≠ "java/lang/invoke/MethodHandle" ∧ yX8_wipe.cls ≠ "java/lang/invoke/VarHandle" ∧ (parseMethodDescriptor yX8_wipe.desc).map (fun d => d.parameters.length) = some 0 := by decide +kernel
theorem he_X8_wipe : yX8_wipe.cls = RX8 ∧ yX8_wipe.cls ≠ "java/lang/invoke/MethodHandle" ∧ yX8_wipe.cls ≠ "java/lang/invoke/VarHandle" ∧ (parseMethodDescriptor yX8_wipe.desc).map (fun d => d.parameters.length) = some 0 := ⟨rfl, hd_X8_wipe⟩
theorem hd_X8_figure : yX8_figure.cls ≠ "java/lang/invoke/MethodHandle" ∧ yX8_figure.cls ≠ "java/lang/invoke/VarHandle" ∧ (parseMethodDescriptor yX8_figure.desc).map (fun d => d.parameters.length) = some 2 := by decide +kernel
theorem he_X8_figure : yX8_figure.cls = RX8 ∧ yX8_figure.cls ≠ "java/lang/invoke/MethodHandle" ∧ yX8_figure.cls ≠ "java/lang/invoke/VarHandle" ∧ (parseMethodDescriptor yX8_figure.desc).map (fun d => d.parameters.length) = some 2 := ⟨rfl, hd_X8_figure⟩
theorem hd_X8_figureOf : yX8_figureOf.cls ≠ "java/lang/invoke/MethodHandle" ∧ yX8_figureOf.cls ≠ "java/lang/invoke/VarHandle" ∧ (parseMethodDescriptor yX8_figureOf.desc).map (fun d => d.parameters.length) = some 1 := by decide +kernel
theorem he_X8_figureOf : yX8_figureOf.cls = RX8 ∧ yX8_figureOf.cls ≠ "java/lang/invoke/MethodHandle" ∧ yX8_figureOf.cls ≠ "java/lang/invoke/VarHandle" ∧ (parseMethodDescriptor yX8_figureOf.desc).map (fun d => d.parameters.length) = some 1 := ⟨rfl, hd_X8_figureOf⟩
theorem hd_X8_readCock : yX8_readCock.cls ≠ "java/lang/invoke/MethodHandle" ∧ yX8_readCock.cls ≠ "java/lang/invoke/VarHandle" ∧ (parseMethodDescriptor yX8_readCock.desc).map (fun d => d.parameters.length) = some 0 := by decide +kernel
theorem he_X8_readCock : yX8_readCock.cls = RX8 ∧ yX8_readCock.cls ≠ "java/lang/invoke/MethodHandle" ∧ yX8_readCock.cls ≠ "java/lang/invoke/VarHandle" ∧ (parseMethodDescriptor yX8_readCock.desc).map (fun d => d.parameters.length) = some 0 := ⟨rfl, hd_X8_readCock⟩
theorem hd_X8_readPart : yX8_readPart.cls ≠ "java/lang/invoke/MethodHandle" ∧ yX8_readPart.cls ≠ "java/lang/invoke/VarHandle" ∧ (parseMethodDescriptor yX8_readPart.desc).map (fun d => d.parameters.length) = some 1 := by decide +kernel
theorem he_X8_readPart : yX8_readPart.cls = RX8 ∧ yX8_readPart.cls ≠ "java/lang/invoke/MethodHandle" ∧ yX8_readPart.cls ≠ "java/lang/invoke/VarHandle" ∧ (parseMethodDescriptor yX8_readPart.desc).map (fun d => d.parameters.length) = some 1 := ⟨rfl, hd_X8_readPart⟩
theorem hd_X8_readText : yX8_readText.cls ≠ "java/lang/invoke/MethodHandle" ∧ yX8_readText.cls ≠ "java/lang/invoke/VarHandle" ∧ (parseMethodDescriptor yX8_readText.desc).map (fun d => d.parameters.length) = some 0 := by decide +kernel
theorem he_X8_readText : yX8_readText.cls = RX8 ∧ yX8_readText.cls ≠ "java/lang/invoke/MethodHandle" ∧ yX8_readText.cls ≠ "java/lang/invoke/VarHandle" ∧ (parseMethodDescriptor yX8_readText.desc).map (fun d => d.parameters.length) = some 0 := ⟨rfl, hd_X8_readText⟩
theorem hd_X8_fault : yX8_fault.cls ≠ "java/lang/invoke/MethodHandle" ∧ yX8_fault.cls ≠ "java/lang/invoke/VarHandle" ∧ (parseMethodDescriptor yX8_fault.desc).map (fun d => d.parameters.length) = some 0 := by decide +kernel
theorem he_X8_fault : yX8_fault.cls = RX8 ∧ yX8_fault.cls ≠ "java/lang/invoke/MethodHandle" ∧ yX8_fault.cls ≠ "java/lang/invoke/VarHandle" ∧ (parseMethodDescriptor yX8_fault.desc).map (fun d => d.parameters.length) = some 0 := ⟨rfl, hd_X8_fault⟩
theorem hd_X8_hill : yX8_hill.cls ≠ "java/lang/invoke/MethodHandle" ∧ yX8_hill.cls ≠ "java/lang/invoke/VarHandle" ∧ (parseMethodDescriptor yX8_hill.desc).map (fun d => d.parameters.length) = some 0 := by decide +kernel
theorem he_X8_hill : yX8_hill.cls = RX8 ∧ yX8_hill.cls ≠ "java/lang/invoke/MethodHandle" ∧ yX8_hill.cls ≠ "java/lang/invoke/VarHandle" ∧ (parseMethodDescriptor yX8_hill.desc).map (fun d => d.parameters.length) = some 0 := ⟨rfl, hd_X8_hill⟩
def f_X8_in (x0 : Int64) (x1 : Int64) (x2 : Int64) : (Int32) := (if (lg_cmp x0 x1) < 0 then (0 : Int32) else (if 0 < (lg_cmp x0 x2) then (0 : Int32) else (1 : Int32)))
set_option maxHeartbeats 4000000 in
set_option maxRecDepth 100000 in
theorem c_X8_in (l : Launch) (G : Ge) (x0 : Int64) (x1 : Int64) (x2 : Int64) {F : (Int32)} (hF : f_X8_in x0 x1 x2 = F) : CI l yX8_in wsX8_in { frames := 0, cells := 0, slots := 0, locals := 0 } [.long x0, .long x1, .long x2] G ([] : List va_W) ([] : List va_W) F := by
  intro sz
  refine Met.ofW (cc := cX8_in) (maxL := 6) (ret := (some .boolean)) (by decide) rfl ?_
  intro p e s m args below meth c s₁ B hml hv
  obtain ⟨rfl, hpre⟩ := hv
  obtain ⟨hsz, hH, hK, hN, hA⟩ := kb_start hpre
  subst hsz
  have hx := B.exec
  have hb := B.bytes
  have hr := B.returns
  have hts := atoms_spec (ws := wsX8_in) B.pre
  have hown : s.vm.findClass RX8 = some m.cls := findClass_of_methodNamed B.named
  have hlocks := B.notSynchronized
  generalize hAe : va_A (List.flatten ([] : List va_W)) s.heap.size = A at hH hA ⊢
  have hl := lv_entry ([.long x0, .long x1, .long x2]) (n := 6) (Nat.le_of_ble_eq_true rfl)
  rw [lg_entry_eq]
  generalize (lg_sl ([.long x0, .long x1, .long x2]) ++ List.replicate (6 - (lg_sl ([.long x0, .long x1, .long x2])).length) Slot.unset).toArray = ls at hl ⊢
  have hl : lv_has ls 6 [(0, .long x0), (2, .long x1), (4, .long x2)] := hl
  have hH : HP G A s.heap ([] : List va_W) s.heap [] := hH
  have hF : (if (lg_cmp x0 x1) < 0 then (0 : Int32) else (if 0 < (lg_cmp x0 x2) then (0 : Int32) else (1 : Int32))) = F := hF
  refine lv_lload_n hx hb dX8_in_0 rfl (lv_at hl 0 rfl) ?_
  refine lv_lload_n hx hb dX8_in_1 rfl (lv_at hl 1 rfl) ?_
  refine W.lcmp hx hb dX8_in_2 ?_
  refine lv_if_lt (tgt := 17) hx hb dX8_in_3 (by decide) (fun c1 => ?_) (fun c1 => ?_)
  · rw [if_pos c1] at hF
    refine lv_iconst (v := 0) hx hb dX8_in_17 (by decide) ?_
    subst hF
    exact kb_zret hx hb hr hH rfl rfl (kb_nar _ (Or.inl rfl)) dX8_in_18 hlocks
  · rw [if_neg c1] at hF
    refine lv_lload_n hx hb dX8_in_6 rfl (lv_at hl 0 rfl) ?_
    refine lv_lload hx hb dX8_in_7 (lv_at hl 2 rfl) ?_
    refine W.lcmp hx hb dX8_in_9 ?_
    refine lv_if_gt (tgt := 17) hx hb dX8_in_10 (by decide) (fun c2 => ?_) (fun c2 => ?_)
    · rw [if_pos c2] at hF
      refine lv_iconst (v := 0) hx hb dX8_in_17 (by decide) ?_
      subst hF
      exact kb_zret hx hb hr hH rfl rfl (kb_nar _ (Or.inl rfl)) dX8_in_18 hlocks
    · rw [if_neg c2] at hF
      refine lv_iconst (v := 1) hx hb dX8_in_13 (by decide) ?_
      refine lv_goto (tgt := 18) hx hb dX8_in_14 (by decide) ?_
      subst hF
      exact kb_zret hx hb hr hH rfl rfl (kb_nar _ (Or.inr rfl)) dX8_in_18 hlocks
theorem isb_X8_in (a b c : Int64) : f_X8_in a b c = 0 ∨ f_X8_in a b c = 1 := by unfold f_X8_in; (repeat' split) <;> simp
def f_X8_has (x0 : Int32) (x1 : Int32) : (Int32) := (if ((x0 >>> (x1 &&& 31)) &&& (1 : Int32)) = (1 : Int32) then (1 : Int32) else (0 : Int32))
set_option maxHeartbeats 4000000 in
set_option maxRecDepth 100000 in
theorem c_X8_has (l : Launch) (G : Ge) (x0 : Int32) (x1 : Int32) {F : (Int32)} (hF : f_X8_has x0 x1 = F) : CI l yX8_has wsX8_has { frames := 0, cells := 0, slots := 0, locals := 0 } [.int x0, .int x1] G ([] : List va_W) ([] : List va_W) F := by
  intro sz
  refine Met.ofW (cc := cX8_has) (maxL := 2) (ret := (some .boolean)) (by decide) rfl ?_
  intro p e s m args below meth c s₁ B hml hv
  obtain ⟨rfl, hpre⟩ := hv
  obtain ⟨hsz, hH, hK, hN, hA⟩ := kb_start hpre
  subst hsz
  have hx := B.exec
  have hb := B.bytes
  have hr := B.returns
  have hts := atoms_spec (ws := wsX8_has) B.pre
  have hown : s.vm.findClass RX8 = some m.cls := findClass_of_methodNamed B.named
  have hlocks := B.notSynchronized
  generalize hAe : va_A (List.flatten ([] : List va_W)) s.heap.size = A at hH hA ⊢
  have hl := lv_entry ([.int x0, .int x1]) (n := 2) (Nat.le_of_ble_eq_true rfl)
  rw [lg_entry_eq]
  generalize (lg_sl ([.int x0, .int x1]) ++ List.replicate (2 - (lg_sl ([.int x0, .int x1])).length) Slot.unset).toArray = ls at hl ⊢
  have hl : lv_has ls 2 [(0, .int x0), (1, .int x1)] := hl
  have hH : HP G A s.heap ([] : List va_W) s.heap [] := hH
  have hF : (if ((x0 >>> (x1 &&& 31)) &&& (1 : Int32)) = (1 : Int32) then (1 : Int32) else (0 : Int32)) = F := hF
  refine lv_iload_n hx hb dX8_has_0 rfl (lv_at hl 0 rfl) ?_
  refine lv_iload_n hx hb dX8_has_1 rfl (lv_at hl 1 rfl) ?_
  refine lv_ishr hx hb dX8_has_2 ?_
  refine lv_iconst (v := 1) hx hb dX8_has_3 (by decide) ?_
  refine lv_iand hx hb dX8_has_4 ?_
  refine lv_iconst (v := 1) hx hb dX8_has_5 (by decide) ?_
  refine lv_icmp_ne (tgt := 13) hx hb dX8_has_6 (by decide) (fun c1 => ?_) (fun c1 => ?_)
  · rw [if_neg c1] at hF
    refine lv_iconst (v := 0) hx hb dX8_has_13 (by decide) ?_
    subst hF
    exact kb_zret hx hb hr hH rfl rfl (kb_nar _ (Or.inl rfl)) dX8_has_14 hlocks
  · rw [if_pos c1] at hF
    refine lv_iconst (v := 1) hx hb dX8_has_9 (by decide) ?_
    refine lv_goto (tgt := 14) hx hb dX8_has_10 (by decide) ?_
    subst hF
    exact kb_zret hx hb hr hH rfl rfl (kb_nar _ (Or.inr rfl)) dX8_has_14 hlocks
def f_X8_ones_L1 (x0 : Int32) (iL1 : Nat) (s : (Int32)) : (Int32) := (s + ((x0 >>> ((nI iL1) &&& 31)) &&& (1 : Int32)))
def f_X8_ones (x0 : Int32) : (Int32) := (kAp (lpu (f_X8_ones_L1 x0) (cN (10 : Int32)) 0 (0 : Int32)) (fun z3 => z3))
set_option maxHeartbeats 4000000 in
set_option maxRecDepth 100000 in
theorem c_X8_ones (l : Launch) (G : Ge) (x0 : Int32) {F : (Int32)} (hF : f_X8_ones x0 = F) : CI l yX8_ones wsX8_ones { frames := 0, cells := 0, slots := 0, locals := 0 } [.int x0] G ([] : List va_W) ([] : List va_W) F := by
  intro sz
  refine Met.ofW (cc := cX8_ones) (maxL := 3) (ret := (some .int)) (by decide) rfl ?_
  intro p e s m args below meth c s₁ B hml hv
  obtain ⟨rfl, hpre⟩ := hv
  obtain ⟨hsz, hH, hK, hN, hA⟩ := kb_start hpre
  subst hsz
  have hx := B.exec
  have hb := B.bytes
  have hr := B.returns
  have hts := atoms_spec (ws := wsX8_ones) B.pre
  have hown : s.vm.findClass RX8 = some m.cls := findClass_of_methodNamed B.named
  have hlocks := B.notSynchronized
  generalize hAe : va_A (List.flatten ([] : List va_W)) s.heap.size = A at hH hA ⊢
  have hl := lv_entry ([.int x0]) (n := 3) (Nat.le_of_ble_eq_true rfl)
  rw [lg_entry_eq]
  generalize (lg_sl ([.int x0]) ++ List.replicate (3 - (lg_sl ([.int x0])).length) Slot.unset).toArray = ls at hl ⊢
  have hl : lv_has ls 3 [(0, .int x0)] := hl
  have hH : HP G A s.heap ([] : List va_W) s.heap [] := hH
  have hF : (kAp (lpu (f_X8_ones_L1 x0) (cN (10 : Int32)) 0 (0 : Int32)) (fun z3 => z3)) = F := hF
  refine lv_iconst (v := 0) hx hb dX8_ones_0 (by decide) ?_
  refine lv_istore_n (lv' := [(1, .int (0 : Int32)), (0, .int x0)]) hx hb dX8_ones_1 rfl hl (by decide) rfl (fun ls hl => ?_)
  refine lv_iconst (v := 0) hx hb dX8_ones_2 (by decide) ?_
  refine lv_istore_n (lv' := [(2, .int (0 : Int32)), (1, .int (0 : Int32)), (0, .int x0)]) hx hb dX8_ones_3 rfl hl (by decide) rfl (fun ls hl => ?_)
  obtain ⟨SFL1, hSFL1⟩ : ∃ z, z = (lpu (f_X8_ones_L1 x0) (cN (10 : Int32)) 0 (0 : Int32)) := ⟨_, rfl⟩
  have hF := kAp_eq hF hSFL1
  refine kb_cut (fun H locs ls => HP G A s.heap ([] : List va_W) H locs ∧ lv_has ls 3 [(1, .int SFL1)]) 24 [] (fun EXL1 => ?_) (fun H locs ls hX => ?_)
  · refine kb_loop (σ := (Int32)) (fun n i x => n + i = (cN (10 : Int32)) ∧ lpu (f_X8_ones_L1 x0) n i x = SFL1) (fun iL1 x H locs ls => HP G A s.heap ([] : List va_W) H locs ∧ lv_has ls 3 [(2, .int (nI iL1)), (1, .int x), (0, .int x0)]) (fun iL1 x H locs ls hI hX => ?_) (fun n iL1 x hI ihL1 H locs ls hX => ?_) (cN (10 : Int32)) 0 (0 : Int32) _ _ _ ⟨Nat.add_zero _, hSFL1.symm⟩ ⟨hH, lv_sub hl [0, 1, 2] rfl⟩
    · obtain ⟨L1a, exL1a⟩ : ∃ z, z = x := ⟨_, rfl⟩
      subst exL1a
      have hH : HP G A s.heap ([] : List va_W) H locs := hX.1
      have hl : lv_has ls 3 [(2, .int (nI iL1)), (1, .int L1a), (0, .int x0)] := hX.2
      obtain ⟨hiL1, hs⟩ := hI
      have hiL1 : iL1 = (cN (10 : Int32)) := by omega
      refine lv_iload_n hx hb dX8_ones_4 rfl (lv_at hl 0 rfl) ?_
      refine lv_bipush (v := 10) hx hb dX8_ones_5 (by decide) ?_
      refine lv_icmp_ge (tgt := 24) hx hb dX8_ones_7 (by decide) (fun _ => ?_) (fun c => absurd (cN_end hiL1) c)
      exact EXL1 _ _ _ ⟨by subst hs; exact hH, by subst hs; exact lv_sub hl [1] rfl⟩
    · obtain ⟨L1a, exL1a⟩ : ∃ z, z = x := ⟨_, rfl⟩
      subst exL1a
      have hH : HP G A s.heap ([] : List va_W) H locs := hX.1
      have hl : lv_has ls 3 [(2, .int (nI iL1)), (1, .int L1a), (0, .int x0)] := hX.2
      obtain ⟨hiL1, hs⟩ := hI
      have hltL1 : iL1 < (cN (10 : Int32)) := by omega
      obtain ⟨BVL1, hBd⟩ : ∃ z, (f_X8_ones_L1 x0) iL1 L1a = z := ⟨_, rfl⟩
      have hs : lpu (f_X8_ones_L1 x0) n (iL1 + 1) BVL1 = SFL1 := by rw [← hBd]; exact hs
      have hBL1 : (L1a + ((x0 >>> ((nI iL1) &&& 31)) &&& (1 : Int32))) = BVL1 := hBd
      refine lv_iload_n hx hb dX8_ones_4 rfl (lv_at hl 0 rfl) ?_
      refine lv_bipush (v := 10) hx hb dX8_ones_5 (by decide) ?_
      refine lv_icmp_ge (tgt := 24) hx hb dX8_ones_7 (by decide) (fun c => absurd c (cN_ge hltL1)) (fun c2 => ?_)
      refine lv_iload_n hx hb dX8_ones_10 rfl (lv_at hl 1 rfl) ?_
      refine lv_iload_n hx hb dX8_ones_11 rfl (lv_at hl 2 rfl) ?_
      refine lv_iload_n hx hb dX8_ones_12 rfl (lv_at hl 0 rfl) ?_
      refine lv_ishr hx hb dX8_ones_13 ?_
      refine lv_iconst (v := 1) hx hb dX8_ones_14 (by decide) ?_
      refine lv_iand hx hb dX8_ones_15 ?_
      refine lv_iadd hx hb dX8_ones_16 ?_
      refine lv_istore_n (lv' := [(1, .int (L1a + ((x0 >>> ((nI iL1) &&& 31)) &&& (1 : Int32)))), (2, .int (nI iL1)), (0, .int x0)]) hx hb dX8_ones_17 rfl hl (by decide) rfl (fun ls hl => ?_)
      refine lv_iinc (v := (nI (iL1 + 1))) (lv' := [(2, .int (nI (iL1 + 1))), (1, .int (L1a + ((x0 >>> ((nI iL1) &&& 31)) &&& (1 : Int32)))), (0, .int x0)]) hx hb dX8_ones_18 hl (k := 1) rfl (nI_1 _) (by decide) rfl (fun ls hl => ?_)
      refine lv_goto (tgt := 4) hx hb dX8_ones_21 (by decide) ?_
      subst hBL1
      exact ihL1 _ _ _ _ ⟨by omega, hs⟩ ⟨hH, lv_sub hl [0, 1, 2] rfl⟩
  · obtain ⟨hH, hl⟩ := hX
    refine lv_iload_n hx hb dX8_ones_24 rfl (lv_at hl 0 rfl) ?_
    subst hF
    exact kb_iret hx hb hr hH rfl rfl dX8_ones_25 hlocks
def f_X8_write (V : OV) (x0 : Int32) : (Int32 × OV) := (if (f_X8_in (x0.toInt64) (0 : Int64) (255 : Int64)) = 0 then ((-2 : Int32), V) else (if (V.2.1 15) = (64 : Int32) then ((-4 : Int32), V) else (((V.2.1 15) + (1 : Int32)), (oI (oA V 14 (upd (V.1 14) (V.2.1 15).toNatClampNeg x0)) 15 ((V.2.1 15) + (1 : Int32))))))
def d_X8_write (V : OV) (x0 : Int32) : Prop := (¬ ((f_X8_in (x0.toInt64) (0 : Int64) (255 : Int64)) = 0) → (¬ ((V.2.1 15) = (64 : Int32)) → vp_in (V.2.1 15) 64))
set_option maxHeartbeats 4000000 in
set_option maxRecDepth 100000 in
theorem c_X8_write (l : Launch) (G : Ge) (g : Nat → Nat) (V : OV) (x0 : Int32) (hD : d_X8_write V x0) {F : (Int32 × OV)} (hF : f_X8_write V x0 = F) : CI l yX8_write wsX8_write { frames := 1, cells := 0, slots := 0, locals := 25 } [.ref (g 0), .int x0] G (w_O8 G g V) (w_O8 G g F.2) F.1 := by
  intro sz
  refine Met.ofW (cc := cX8_write) (maxL := 2) (ret := (some .int)) (by decide) rfl ?_
  intro p e s m args below meth c s₁ B hml hv
  obtain ⟨rfl, hpre⟩ := hv
  obtain ⟨hsz, hH, hK, hN, hA⟩ := kb_start hpre
  subst hsz
  have hx := B.exec
  have hb := B.bytes
  have hr := B.returns
  have hts := atoms_spec (ws := wsX8_write) B.pre
  have hown : s.vm.findClass RX8 = some m.cls := findClass_of_methodNamed B.named
  have hlocks := B.notSynchronized
  generalize hAe : va_A (List.flatten (w_O8 G g V)) s.heap.size = A at hH hA ⊢
  have hl := lv_entry ([.ref (g 0), .int x0]) (n := 2) (Nat.le_of_ble_eq_true rfl)
  rw [lg_entry_eq]
  generalize (lg_sl ([.ref (g 0), .int x0]) ++ List.replicate (2 - (lg_sl ([.ref (g 0), .int x0])).length) Slot.unset).toArray = ls at hl ⊢
  have hl : lv_has ls 2 [(0, .ref (g 0)), (1, .int x0)] := hl
  have hH : HP G A s.heap (w_O8 G g V) s.heap [] := hH
  have hin8 : ∀ w ∈ u_ws RX8 TX8 31, w ∈ wsX8_write := fun w h => List.mem_cons_of_mem _ (List.mem_append_right _ h)
  have hF : (if (f_X8_in (x0.toInt64) (0 : Int64) (255 : Int64)) = 0 then ((-2 : Int32), V) else (if (V.2.1 15) = (64 : Int32) then ((-4 : Int32), V) else (((V.2.1 15) + (1 : Int32)), (oI (oA V 14 (upd (V.1 14) (V.2.1 15).toNatClampNeg x0)) 15 ((V.2.1 15) + (1 : Int32)))))) = F := hF
  have hD : (¬ ((f_X8_in (x0.toInt64) (0 : Int64) (255 : Int64)) = 0) → (¬ ((V.2.1 15) = (64 : Int32)) → vp_in (V.2.1 15) 64)) := hD
  refine lv_iload_n hx hb dX8_write_0 rfl (lv_at hl 1 rfl) ?_
  refine lv_i2l (v := (x0.toInt64)) hx hb dX8_write_1 rfl ?_
  refine lv_lconst (v := 0) hx hb dX8_write_2 (by decide) ?_
  refine lv_ldc2 (v := 255) hx hb hown (hts (.constantLong RX8 57 (255)) (List.mem_of_getElem? (i := 1) rfl)) dX8_write_3 ?_
  refine kb_ci hH hA [] (Wc := ([] : List va_W)) (Wc' := ([] : List va_W)) (WS' := (w_O8 G g V)) rfl (by decide) rfl rfl (va_runS (As := [.long (x0.toInt64), .long (0 : Int64), .long (255 : Int64)]) (rest := []) ⟨hx, hb, hml, hown, hts⟩ (c_X8_in l G (x0.toInt64) (0 : Int64) (255 : Int64) rfl _) (va_cwS 3 hts gX8_write_X8_in rfl rfl rfl hd_X8_in ⟨Nat.le_of_ble_eq_true rfl, Nat.le_of_ble_eq_true rfl⟩) (kb_preS hH hK hN [] rfl (by decide)) rfl rfl hl.1 rfl (lv_room (Nat.le_of_ble_eq_true rfl)) dX8_write_6 ⟨Nat.le_of_ble_eq_true rfl, Nat.le_of_ble_eq_true rfl⟩) (fun H locs hH => ?_)
  refine lv_if_ne (tgt := 15) hx hb dX8_write_9 (by decide) (fun c1 => ?_) (fun c1 => ?_)
  · have hD := hD c1
    rw [if_neg c1] at hF
    refine lv_aload_n hx hb dX8_write_15 rfl (lv_at hl 0 rfl) ?_
    refine kb_get (v := .int (V.2.1 15)) hx hb hts hin8 hown hK hH 0 rfl rfl rfl 15 (by decide) (hts (.fieldLink RX8 63 "CockWarModel" "length" "I") (List.mem_of_getElem? (i := 2) rfl)) (fun _ h9 => h9) rfl dX8_write_16 ?_
    refine lv_bipush (v := 64) hx hb dX8_write_19 (by decide) ?_
    refine lv_icmp_ne (tgt := 27) hx hb dX8_write_21 (by decide) (fun c2 => ?_) (fun c2 => ?_)
    · have hD := hD c2
      rw [if_neg c2] at hF
      refine lv_aload_n hx hb dX8_write_27 rfl (lv_at hl 0 rfl) ?_
      refine kb_get (v := .ref (g 15)) hx hb hts hin8 hown hK hH 0 rfl rfl rfl 14 (by decide) (hts (.fieldLink RX8 34 "CockWarModel" "text" "[I") (List.mem_of_getElem? (i := 3) rfl)) (fun _ h9 => h9) rfl dX8_write_28 ?_
      refine lv_aload_n hx hb dX8_write_31 rfl (lv_at hl 0 rfl) ?_
      refine kb_get (v := .int (V.2.1 15)) hx hb hts hin8 hown hK hH 0 rfl rfl rfl 15 (by decide) (hts (.fieldLink RX8 63 "CockWarModel" "length" "I") (List.mem_of_getElem? (i := 2) rfl)) (fun _ h9 => h9) rfl dX8_write_32 ?_
      refine lv_iload_n hx hb dX8_write_35 rfl (lv_at hl 1 rfl) ?_
      have hz3 := hD
      refine kb_iast (WS' := (w_O8 G g (oA V 14 (upd (V.1 14) (V.2.1 15).toNatClampNeg x0)))) hx hb hK hH 9 rfl hz3 rfl dX8_write_36 (fun H locs hH => ?_)
      refine lv_aload_n hx hb dX8_write_37 rfl (lv_at hl 0 rfl) ?_
      refine lv_dup hx hb dX8_write_38 rfl ?_
      refine kb_get (v := .int (V.2.1 15)) hx hb hts hin8 hown hK hH 0 rfl rfl rfl 15 (by decide) (hts (.fieldLink RX8 63 "CockWarModel" "length" "I") (List.mem_of_getElem? (i := 2) rfl)) (fun _ h9 => h9) rfl dX8_write_39 ?_
      refine lv_iconst (v := 1) hx hb dX8_write_42 (by decide) ?_
      refine lv_iadd hx hb dX8_write_43 ?_
      refine kb_put (ty := .int) (v := .int ((V.2.1 15) + (1 : Int32))) (WS' := (w_O8 G g (oI (oA V 14 (upd (V.1 14) (V.2.1 15).toNatClampNeg x0)) 15 ((V.2.1 15) + (1 : Int32))))) hx hb hts hin8 tyX8 tyX8_ok nmX8 hown hK hH 0 rfl rfl 15 (by decide) (hts (.fieldLink RX8 63 "CockWarModel" "length" "I") (List.mem_of_getElem? (i := 2) rfl)) (fun _ h9 => h9) rfl (by decide +kernel) rfl rfl (Nat.le_of_ble_eq_true rfl) rfl dX8_write_44 (fun H locs hH => ?_)
      refine lv_aload_n hx hb dX8_write_47 rfl (lv_at hl 0 rfl) ?_
      refine kb_get (v := .int ((V.2.1 15) + (1 : Int32))) hx hb hts hin8 hown hK hH 0 rfl rfl rfl 15 (by decide) (hts (.fieldLink RX8 63 "CockWarModel" "length" "I") (List.mem_of_getElem? (i := 2) rfl)) (fun _ h9 => h9) rfl dX8_write_48 ?_
      subst hF
      exact kb_iret hx hb hr hH rfl rfl dX8_write_51 hlocks
    · rw [if_pos c2] at hF
      refine lv_bipush (v := -4) hx hb dX8_write_24 (by decide) ?_
      subst hF
      exact kb_iret hx hb hr hH rfl rfl dX8_write_26 hlocks
  · rw [if_pos c1] at hF
    refine lv_bipush (v := -2) hx hb dX8_write_12 (by decide) ?_
    subst hF
    exact kb_iret hx hb hr hH rfl rfl dX8_write_14 hlocks
def f_X8_wipe (V : OV) : (Int32 × OV) := ((V.2.1 15), (oI V 15 (0 : Int32)))
set_option maxHeartbeats 4000000 in
set_option maxRecDepth 100000 in
theorem c_X8_wipe (l : Launch) (G : Ge) (g : Nat → Nat) (V : OV) {F : (Int32 × OV)} (hF : f_X8_wipe V = F) : CI l yX8_wipe wsX8_wipe { frames := 0, cells := 0, slots := 0, locals := 0 } [.ref (g 0)] G (w_O8 G g V) (w_O8 G g F.2) F.1 := by
  intro sz
  refine Met.ofW (cc := cX8_wipe) (maxL := 2) (ret := (some .int)) (by decide) rfl ?_
  intro p e s m args below meth c s₁ B hml hv
  obtain ⟨rfl, hpre⟩ := hv
  obtain ⟨hsz, hH, hK, hN, hA⟩ := kb_start hpre
  subst hsz
  have hx := B.exec
  have hb := B.bytes
  have hr := B.returns
  have hts := atoms_spec (ws := wsX8_wipe) B.pre
  have hown : s.vm.findClass RX8 = some m.cls := findClass_of_methodNamed B.named
  have hlocks := B.notSynchronized
  generalize hAe : va_A (List.flatten (w_O8 G g V)) s.heap.size = A at hH hA ⊢
  have hl := lv_entry ([.ref (g 0)]) (n := 2) (Nat.le_of_ble_eq_true rfl)
  rw [lg_entry_eq]
  generalize (lg_sl ([.ref (g 0)]) ++ List.replicate (2 - (lg_sl ([.ref (g 0)])).length) Slot.unset).toArray = ls at hl ⊢
  have hl : lv_has ls 2 [(0, .ref (g 0))] := hl
  have hH : HP G A s.heap (w_O8 G g V) s.heap [] := hH
  have hin8 : ∀ w ∈ u_ws RX8 TX8 31, w ∈ wsX8_wipe := fun w h => List.mem_cons_of_mem _ (List.mem_append_right _ h)
  have hF : ((V.2.1 15), (oI V 15 (0 : Int32))) = F := hF
  refine lv_aload_n hx hb dX8_wipe_0 rfl (lv_at hl 0 rfl) ?_
  refine kb_get (v := .int (V.2.1 15)) hx hb hts hin8 hown hK hH 0 rfl rfl rfl 15 (by decide) (hts (.fieldLink RX8 63 "CockWarModel" "length" "I") (List.mem_of_getElem? (i := 1) rfl)) (fun _ h9 => h9) rfl dX8_wipe_1 ?_
  refine lv_istore_n (lv' := [(1, .int (V.2.1 15)), (0, .ref (g 0))]) hx hb dX8_wipe_4 rfl hl (by decide) rfl (fun ls hl => ?_)
  refine lv_aload_n hx hb dX8_wipe_5 rfl (lv_at hl 1 rfl) ?_
  refine lv_iconst (v := 0) hx hb dX8_wipe_6 (by decide) ?_
  refine kb_put (ty := .int) (v := .int (0 : Int32)) (WS' := (w_O8 G g (oI V 15 (0 : Int32)))) hx hb hts hin8 tyX8 tyX8_ok nmX8 hown hK hH 0 rfl rfl 15 (by decide) (hts (.fieldLink RX8 63 "CockWarModel" "length" "I") (List.mem_of_getElem? (i := 1) rfl)) (fun _ h9 => h9) rfl (by decide +kernel) rfl rfl (Nat.le_of_ble_eq_true rfl) rfl dX8_wipe_7 (fun H locs hH => ?_)
  refine lv_iload_n hx hb dX8_wipe_10 rfl (lv_at hl 0 rfl) ?_
  subst hF
  exact kb_iret hx hb hr hH rfl rfl dX8_wipe_11 hlocks
def f_X8_figure (V : OV) (x0 : Int32) (x1 : Int32) : (Int32 × OV) := (kAp ((if (V.2.1 17) = (-9 : Int32) then (if (V.2.1 15) ≤ (V.2.1 16) then (-9 : Int32) else (((V.1 14) (V.2.1 16).toNatClampNeg) - (48 : Int32))) else (-9 : Int32)) : Int32) (fun v3 => (if (f_X8_in (v3.toInt64) (x0.toInt64) (x1.toInt64)) = 0 then (if (V.2.1 17) = (-9 : Int32) then (x0, (oI V 17 (V.2.1 16))) else (x0, V)) else (v3, (oI V 16 ((V.2.1 16) + (1 : Int32)))))))
def d_X8_figure (V : OV) (x0 : Int32) (x1 : Int32) : Prop := ((V.2.1 17) = (-9 : Int32) → (¬ ((V.2.1 15) ≤ (V.2.1 16)) → vp_in (V.2.1 16) 64))
set_option maxHeartbeats 4000000 in
set_option maxRecDepth 100000 in
theorem c_X8_figure (l : Launch) (G : Ge) (g : Nat → Nat) (V : OV) (x0 : Int32) (x1 : Int32) (hD : d_X8_figure V x0 x1) {F : (Int32 × OV)} (hF : f_X8_figure V x0 x1 = F) : CI l yX8_figure wsX8_figure { frames := 1, cells := 0, slots := 0, locals := 25 } [.ref (g 0), .int x0, .int x1] G (w_O8 G g V) (w_O8 G g F.2) F.1 := by
  intro sz
  refine Met.ofW (cc := cX8_figure) (maxL := 4) (ret := (some .int)) (by decide) rfl ?_
  intro p e s m args below meth c s₁ B hml hv
  obtain ⟨rfl, hpre⟩ := hv
  obtain ⟨hsz, hH, hK, hN, hA⟩ := kb_start hpre
  subst hsz
  have hx := B.exec
  have hb := B.bytes
  have hr := B.returns
  have hts := atoms_spec (ws := wsX8_figure) B.pre
  have hown : s.vm.findClass RX8 = some m.cls := findClass_of_methodNamed B.named
  have hlocks := B.notSynchronized
  generalize hAe : va_A (List.flatten (w_O8 G g V)) s.heap.size = A at hH hA ⊢
  have hl := lv_entry ([.ref (g 0), .int x0, .int x1]) (n := 4) (Nat.le_of_ble_eq_true rfl)
  rw [lg_entry_eq]
  generalize (lg_sl ([.ref (g 0), .int x0, .int x1]) ++ List.replicate (4 - (lg_sl ([.ref (g 0), .int x0, .int x1])).length) Slot.unset).toArray = ls at hl ⊢
  have hl : lv_has ls 4 [(0, .ref (g 0)), (1, .int x0), (2, .int x1)] := hl
  have hH : HP G A s.heap (w_O8 G g V) s.heap [] := hH
  have hin8 : ∀ w ∈ u_ws RX8 TX8 31, w ∈ wsX8_figure := fun w h => List.mem_cons_of_mem _ (List.mem_append_right _ h)
  have hF : (kAp ((if (V.2.1 17) = (-9 : Int32) then (if (V.2.1 15) ≤ (V.2.1 16) then (-9 : Int32) else (((V.1 14) (V.2.1 16).toNatClampNeg) - (48 : Int32))) else (-9 : Int32)) : Int32) (fun v3 => (if (f_X8_in (v3.toInt64) (x0.toInt64) (x1.toInt64)) = 0 then (if (V.2.1 17) = (-9 : Int32) then (x0, (oI V 17 (V.2.1 16))) else (x0, V)) else (v3, (oI V 16 ((V.2.1 16) + (1 : Int32))))))) = F := hF
  have hD : ((V.2.1 17) = (-9 : Int32) → (¬ ((V.2.1 15) ≤ (V.2.1 16)) → vp_in (V.2.1 16) 64)) := hD
  refine lv_aload_n hx hb dX8_figure_0 rfl (lv_at hl 0 rfl) ?_
  refine kb_get (v := .int (V.2.1 17)) hx hb hts hin8 hown hK hH 0 rfl rfl rfl 17 (by decide) (hts (.fieldLink RX8 66 "CockWarModel" "faultAt" "I") (List.mem_of_getElem? (i := 1) rfl)) (fun _ h9 => h9) rfl dX8_figure_1 ?_
  refine lv_bipush (v := -9) hx hb dX8_figure_4 (by decide) ?_
  obtain ⟨v3, ev3⟩ : ∃ z : Int32, (if (V.2.1 17) = (-9 : Int32) then (if (V.2.1 15) ≤ (V.2.1 16) then (-9 : Int32) else (((V.1 14) (V.2.1 16).toNatClampNeg) - (48 : Int32))) else (-9 : Int32)) = z := ⟨_, rfl⟩
  have hF := kAp_eq hF ev3.symm
  have hDr := hD
  refine kb_cut (fun H locs ls => HP G A s.heap (w_O8 G g V) H locs ∧ lv_has ls 4 [(0, .ref (g 0)), (1, .int x0), (2, .int x1)]) 37 [.int v3] (fun u1 => ?_) (fun H locs ls hX => ?_)
  · have hD := hDr
    refine lv_icmp_ne (tgt := 35) hx hb dX8_figure_6 (by decide) (fun c4 => ?_) (fun c4 => ?_)
    · rw [if_neg c4] at ev3
      refine lv_bipush (v := -9) hx hb dX8_figure_35 (by decide) ?_
      subst ev3
      exact u1 _ _ _ ⟨hH, lv_sub hl [0, 1, 2] rfl⟩
    · have hD := hD c4
      rw [if_pos c4] at ev3
      refine lv_aload_n hx hb dX8_figure_9 rfl (lv_at hl 0 rfl) ?_
      refine kb_get (v := .int (V.2.1 16)) hx hb hts hin8 hown hK hH 0 rfl rfl rfl 16 (by decide) (hts (.fieldLink RX8 69 "CockWarModel" "at" "I") (List.mem_of_getElem? (i := 2) rfl)) (fun _ h9 => h9) rfl dX8_figure_10 ?_
      refine lv_aload_n hx hb dX8_figure_13 rfl (lv_at hl 0 rfl) ?_
      refine kb_get (v := .int (V.2.1 15)) hx hb hts hin8 hown hK hH 0 rfl rfl rfl 15 (by decide) (hts (.fieldLink RX8 63 "CockWarModel" "length" "I") (List.mem_of_getElem? (i := 3) rfl)) (fun _ h9 => h9) rfl dX8_figure_14 ?_
      refine lv_icmp_ge (tgt := 35) hx hb dX8_figure_17 (by decide) (fun c5 => ?_) (fun c5 => ?_)
      · rw [if_pos c5] at ev3
        refine lv_bipush (v := -9) hx hb dX8_figure_35 (by decide) ?_
        subst ev3
        exact u1 _ _ _ ⟨hH, lv_sub hl [0, 1, 2] rfl⟩
      · have hD := hD c5
        rw [if_neg c5] at ev3
        refine lv_aload_n hx hb dX8_figure_20 rfl (lv_at hl 0 rfl) ?_
        refine kb_get (v := .ref (g 15)) hx hb hts hin8 hown hK hH 0 rfl rfl rfl 14 (by decide) (hts (.fieldLink RX8 34 "CockWarModel" "text" "[I") (List.mem_of_getElem? (i := 4) rfl)) (fun _ h9 => h9) rfl dX8_figure_21 ?_
        refine lv_aload_n hx hb dX8_figure_24 rfl (lv_at hl 0 rfl) ?_
        refine kb_get (v := .int (V.2.1 16)) hx hb hts hin8 hown hK hH 0 rfl rfl rfl 16 (by decide) (hts (.fieldLink RX8 69 "CockWarModel" "at" "I") (List.mem_of_getElem? (i := 2) rfl)) (fun _ h9 => h9) rfl dX8_figure_25 ?_
        have hz6 := hD
        refine kb_iald hx hb hK hH 9 rfl hz6 dX8_figure_28 ?_
        refine lv_bipush (v := 48) hx hb dX8_figure_29 (by decide) ?_
        refine lv_isub hx hb dX8_figure_31 ?_
        refine lv_goto (tgt := 37) hx hb dX8_figure_32 (by decide) ?_
        subst ev3
        exact u1 _ _ _ ⟨hH, lv_sub hl [0, 1, 2] rfl⟩
  · obtain ⟨hH, hl⟩ := hX
    refine lv_istore_n (lv' := [(3, .int v3), (0, .ref (g 0)), (1, .int x0), (2, .int x1)]) hx hb dX8_figure_37 rfl hl (by decide) rfl (fun ls hl => ?_)
    refine lv_iload_n hx hb dX8_figure_38 rfl (lv_at hl 0 rfl) ?_
    refine lv_i2l (v := (v3.toInt64)) hx hb dX8_figure_39 rfl ?_
    refine lv_iload_n hx hb dX8_figure_40 rfl (lv_at hl 2 rfl) ?_
    refine lv_i2l (v := (x0.toInt64)) hx hb dX8_figure_41 rfl ?_
    refine lv_iload_n hx hb dX8_figure_42 rfl (lv_at hl 3 rfl) ?_
    refine lv_i2l (v := (x1.toInt64)) hx hb dX8_figure_43 rfl ?_
    refine kb_ci hH hA [] (Wc := ([] : List va_W)) (Wc' := ([] : List va_W)) (WS' := (w_O8 G g V)) rfl (by decide) rfl rfl (va_runS (As := [.long (v3.toInt64), .long (x0.toInt64), .long (x1.toInt64)]) (rest := []) ⟨hx, hb, hml, hown, hts⟩ (c_X8_in l G (v3.toInt64) (x0.toInt64) (x1.toInt64) rfl _) (va_cwS 3 hts gX8_figure_X8_in rfl rfl rfl hd_X8_in ⟨Nat.le_of_ble_eq_true rfl, Nat.le_of_ble_eq_true rfl⟩) (kb_preS hH hK hN [] rfl (by decide)) rfl rfl hl.1 rfl (lv_room (Nat.le_of_ble_eq_true rfl)) dX8_figure_44 ⟨Nat.le_of_ble_eq_true rfl, Nat.le_of_ble_eq_true rfl⟩) (fun H locs hH => ?_)
    refine lv_if_ne (tgt := 76) hx hb dX8_figure_47 (by decide) (fun c7 => ?_) (fun c7 => ?_)
    · rw [if_neg c7] at hF
      refine lv_aload_n hx hb dX8_figure_76 rfl (lv_at hl 1 rfl) ?_
      refine lv_dup hx hb dX8_figure_77 rfl ?_
      refine kb_get (v := .int (V.2.1 16)) hx hb hts hin8 hown hK hH 0 rfl rfl rfl 16 (by decide) (hts (.fieldLink RX8 69 "CockWarModel" "at" "I") (List.mem_of_getElem? (i := 2) rfl)) (fun _ h9 => h9) rfl dX8_figure_78 ?_
      refine lv_iconst (v := 1) hx hb dX8_figure_81 (by decide) ?_
      refine lv_iadd hx hb dX8_figure_82 ?_
      refine kb_put (ty := .int) (v := .int ((V.2.1 16) + (1 : Int32))) (WS' := (w_O8 G g (oI V 16 ((V.2.1 16) + (1 : Int32))))) hx hb hts hin8 tyX8 tyX8_ok nmX8 hown hK hH 0 rfl rfl 16 (by decide) (hts (.fieldLink RX8 69 "CockWarModel" "at" "I") (List.mem_of_getElem? (i := 2) rfl)) (fun _ h9 => h9) rfl (by decide +kernel) rfl rfl (Nat.le_of_ble_eq_true rfl) rfl dX8_figure_83 (fun H locs hH => ?_)
      refine lv_iload_n hx hb dX8_figure_86 rfl (lv_at hl 0 rfl) ?_
      subst hF
      exact kb_iret hx hb hr hH rfl rfl dX8_figure_87 hlocks
    · rw [if_pos c7] at hF
      refine lv_aload_n hx hb dX8_figure_50 rfl (lv_at hl 1 rfl) ?_
      refine lv_aload_n hx hb dX8_figure_51 rfl (lv_at hl 1 rfl) ?_
      refine kb_get (v := .int (V.2.1 17)) hx hb hts hin8 hown hK hH 0 rfl rfl rfl 17 (by decide) (hts (.fieldLink RX8 66 "CockWarModel" "faultAt" "I") (List.mem_of_getElem? (i := 1) rfl)) (fun _ h9 => h9) rfl dX8_figure_52 ?_
      refine lv_bipush (v := -9) hx hb dX8_figure_55 (by decide) ?_
      refine lv_icmp_ne (tgt := 67) hx hb dX8_figure_57 (by decide) (fun c8 => ?_) (fun c8 => ?_)
      · rw [if_neg c8] at hF
        refine lv_aload_n hx hb dX8_figure_67 rfl (lv_at hl 1 rfl) ?_
        refine kb_get (v := .int (V.2.1 17)) hx hb hts hin8 hown hK hH 0 rfl rfl rfl 17 (by decide) (hts (.fieldLink RX8 66 "CockWarModel" "faultAt" "I") (List.mem_of_getElem? (i := 1) rfl)) (fun _ h9 => h9) rfl dX8_figure_68 ?_
        refine kb_put (ty := .int) (v := .int (V.2.1 17)) (WS' := (w_O8 G g V)) hx hb hts hin8 tyX8 tyX8_ok nmX8 hown hK hH 0 rfl rfl 17 (by decide) (hts (.fieldLink RX8 66 "CockWarModel" "faultAt" "I") (List.mem_of_getElem? (i := 1) rfl)) (fun _ h9 => h9) rfl (by decide +kernel) rfl rfl (Nat.le_of_ble_eq_true rfl) rfl dX8_figure_71 (fun H locs hH => ?_)
        refine lv_iload_n hx hb dX8_figure_74 rfl (lv_at hl 2 rfl) ?_
        subst hF
        exact kb_iret hx hb hr hH rfl rfl dX8_figure_75 hlocks
      · rw [if_pos c8] at hF
        refine lv_aload_n hx hb dX8_figure_60 rfl (lv_at hl 1 rfl) ?_
        refine kb_get (v := .int (V.2.1 16)) hx hb hts hin8 hown hK hH 0 rfl rfl rfl 16 (by decide) (hts (.fieldLink RX8 69 "CockWarModel" "at" "I") (List.mem_of_getElem? (i := 2) rfl)) (fun _ h9 => h9) rfl dX8_figure_61 ?_
        refine lv_goto (tgt := 71) hx hb dX8_figure_64 (by decide) ?_
        refine kb_put (ty := .int) (v := .int (V.2.1 16)) (WS' := (w_O8 G g (oI V 17 (V.2.1 16)))) hx hb hts hin8 tyX8 tyX8_ok nmX8 hown hK hH 0 rfl rfl 17 (by decide) (hts (.fieldLink RX8 66 "CockWarModel" "faultAt" "I") (List.mem_of_getElem? (i := 1) rfl)) (fun _ h9 => h9) rfl (by decide +kernel) rfl rfl (Nat.le_of_ble_eq_true rfl) rfl dX8_figure_71 (fun H locs hH => ?_)
        refine lv_iload_n hx hb dX8_figure_74 rfl (lv_at hl 2 rfl) ?_
        subst hF
        exact kb_iret hx hb hr hH rfl rfl dX8_figure_75 hlocks
def f_X8_figureOf (V : OV) (x0 : Int32) : (Int32 × OV) := (kAp ((if (V.2.1 17) = (-9 : Int32) then (if (V.2.1 15) ≤ (V.2.1 16) then (-9 : Int32) else (((V.1 14) (V.2.1 16).toNatClampNeg) - (48 : Int32))) else (-9 : Int32)) : Int32) (fun v3 => (if (f_X8_in (v3.toInt64) (0 : Int64) (9 : Int64)) = 0 then (if (V.2.1 17) = (-9 : Int32) then ((0 : Int32), (oI V 17 (V.2.1 16))) else ((0 : Int32), V)) else (if (f_X8_has x0 v3) = 0 then (if (V.2.1 17) = (-9 : Int32) then ((0 : Int32), (oI V 17 (V.2.1 16))) else ((0 : Int32), V)) else (v3, (oI V 16 ((V.2.1 16) + (1 : Int32))))))))
def d_X8_figureOf (V : OV) (x0 : Int32) : Prop := ((V.2.1 17) = (-9 : Int32) → (¬ ((V.2.1 15) ≤ (V.2.1 16)) → vp_in (V.2.1 16) 64))
set_option maxHeartbeats 4000000 in
set_option maxRecDepth 100000 in
theorem c_X8_figureOf (l : Launch) (G : Ge) (g : Nat → Nat) (V : OV) (x0 : Int32) (hD : d_X8_figureOf V x0) {F : (Int32 × OV)} (hF : f_X8_figureOf V x0 = F) : CI l yX8_figureOf wsX8_figureOf { frames := 1, cells := 0, slots := 0, locals := 25 } [.ref (g 0), .int x0] G (w_O8 G g V) (w_O8 G g F.2) F.1 := by
  intro sz
  refine Met.ofW (cc := cX8_figureOf) (maxL := 3) (ret := (some .int)) (by decide) rfl ?_
  intro p e s m args below meth c s₁ B hml hv
  obtain ⟨rfl, hpre⟩ := hv
  obtain ⟨hsz, hH, hK, hN, hA⟩ := kb_start hpre
  subst hsz
  have hx := B.exec
  have hb := B.bytes
  have hr := B.returns
  have hts := atoms_spec (ws := wsX8_figureOf) B.pre
  have hown : s.vm.findClass RX8 = some m.cls := findClass_of_methodNamed B.named
  have hlocks := B.notSynchronized
  generalize hAe : va_A (List.flatten (w_O8 G g V)) s.heap.size = A at hH hA ⊢
  have hl := lv_entry ([.ref (g 0), .int x0]) (n := 3) (Nat.le_of_ble_eq_true rfl)
  rw [lg_entry_eq]
  generalize (lg_sl ([.ref (g 0), .int x0]) ++ List.replicate (3 - (lg_sl ([.ref (g 0), .int x0])).length) Slot.unset).toArray = ls at hl ⊢
  have hl : lv_has ls 3 [(0, .ref (g 0)), (1, .int x0)] := hl
  have hH : HP G A s.heap (w_O8 G g V) s.heap [] := hH
  have hin8 : ∀ w ∈ u_ws RX8 TX8 31, w ∈ wsX8_figureOf := fun w h => List.mem_cons_of_mem _ (List.mem_append_right _ h)
  have hF : (kAp ((if (V.2.1 17) = (-9 : Int32) then (if (V.2.1 15) ≤ (V.2.1 16) then (-9 : Int32) else (((V.1 14) (V.2.1 16).toNatClampNeg) - (48 : Int32))) else (-9 : Int32)) : Int32) (fun v3 => (if (f_X8_in (v3.toInt64) (0 : Int64) (9 : Int64)) = 0 then (if (V.2.1 17) = (-9 : Int32) then ((0 : Int32), (oI V 17 (V.2.1 16))) else ((0 : Int32), V)) else (if (f_X8_has x0 v3) = 0 then (if (V.2.1 17) = (-9 : Int32) then ((0 : Int32), (oI V 17 (V.2.1 16))) else ((0 : Int32), V)) else (v3, (oI V 16 ((V.2.1 16) + (1 : Int32)))))))) = F := hF
  have hD : ((V.2.1 17) = (-9 : Int32) → (¬ ((V.2.1 15) ≤ (V.2.1 16)) → vp_in (V.2.1 16) 64)) := hD
  refine lv_aload_n hx hb dX8_figureOf_0 rfl (lv_at hl 0 rfl) ?_
  refine kb_get (v := .int (V.2.1 17)) hx hb hts hin8 hown hK hH 0 rfl rfl rfl 17 (by decide) (hts (.fieldLink RX8 66 "CockWarModel" "faultAt" "I") (List.mem_of_getElem? (i := 1) rfl)) (fun _ h9 => h9) rfl dX8_figureOf_1 ?_
  refine lv_bipush (v := -9) hx hb dX8_figureOf_4 (by decide) ?_
  obtain ⟨v3, ev3⟩ : ∃ z : Int32, (if (V.2.1 17) = (-9 : Int32) then (if (V.2.1 15) ≤ (V.2.1 16) then (-9 : Int32) else (((V.1 14) (V.2.1 16).toNatClampNeg) - (48 : Int32))) else (-9 : Int32)) = z := ⟨_, rfl⟩
  have hF := kAp_eq hF ev3.symm
  have hDr := hD
  refine kb_cut (fun H locs ls => HP G A s.heap (w_O8 G g V) H locs ∧ lv_has ls 3 [(0, .ref (g 0)), (1, .int x0)]) 37 [.int v3] (fun u1 => ?_) (fun H locs ls hX => ?_)
  · have hD := hDr
    refine lv_icmp_ne (tgt := 35) hx hb dX8_figureOf_6 (by decide) (fun c4 => ?_) (fun c4 => ?_)
    · rw [if_neg c4] at ev3
      refine lv_bipush (v := -9) hx hb dX8_figureOf_35 (by decide) ?_
      subst ev3
      exact u1 _ _ _ ⟨hH, lv_sub hl [0, 1] rfl⟩
    · have hD := hD c4
      rw [if_pos c4] at ev3
      refine lv_aload_n hx hb dX8_figureOf_9 rfl (lv_at hl 0 rfl) ?_
      refine kb_get (v := .int (V.2.1 16)) hx hb hts hin8 hown hK hH 0 rfl rfl rfl 16 (by decide) (hts (.fieldLink RX8 69 "CockWarModel" "at" "I") (List.mem_of_getElem? (i := 2) rfl)) (fun _ h9 => h9) rfl dX8_figureOf_10 ?_
      refine lv_aload_n hx hb dX8_figureOf_13 rfl (lv_at hl 0 rfl) ?_
      refine kb_get (v := .int (V.2.1 15)) hx hb hts hin8 hown hK hH 0 rfl rfl rfl 15 (by decide) (hts (.fieldLink RX8 63 "CockWarModel" "length" "I") (List.mem_of_getElem? (i := 3) rfl)) (fun _ h9 => h9) rfl dX8_figureOf_14 ?_
      refine lv_icmp_ge (tgt := 35) hx hb dX8_figureOf_17 (by decide) (fun c5 => ?_) (fun c5 => ?_)
      · rw [if_pos c5] at ev3
        refine lv_bipush (v := -9) hx hb dX8_figureOf_35 (by decide) ?_
        subst ev3
        exact u1 _ _ _ ⟨hH, lv_sub hl [0, 1] rfl⟩
      · have hD := hD c5
        rw [if_neg c5] at ev3
        refine lv_aload_n hx hb dX8_figureOf_20 rfl (lv_at hl 0 rfl) ?_
        refine kb_get (v := .ref (g 15)) hx hb hts hin8 hown hK hH 0 rfl rfl rfl 14 (by decide) (hts (.fieldLink RX8 34 "CockWarModel" "text" "[I") (List.mem_of_getElem? (i := 4) rfl)) (fun _ h9 => h9) rfl dX8_figureOf_21 ?_
        refine lv_aload_n hx hb dX8_figureOf_24 rfl (lv_at hl 0 rfl) ?_
        refine kb_get (v := .int (V.2.1 16)) hx hb hts hin8 hown hK hH 0 rfl rfl rfl 16 (by decide) (hts (.fieldLink RX8 69 "CockWarModel" "at" "I") (List.mem_of_getElem? (i := 2) rfl)) (fun _ h9 => h9) rfl dX8_figureOf_25 ?_
        have hz6 := hD
        refine kb_iald hx hb hK hH 9 rfl hz6 dX8_figureOf_28 ?_
        refine lv_bipush (v := 48) hx hb dX8_figureOf_29 (by decide) ?_
        refine lv_isub hx hb dX8_figureOf_31 ?_
        refine lv_goto (tgt := 37) hx hb dX8_figureOf_32 (by decide) ?_
        subst ev3
        exact u1 _ _ _ ⟨hH, lv_sub hl [0, 1] rfl⟩
  · obtain ⟨hH, hl⟩ := hX
    refine lv_istore_n (lv' := [(2, .int v3), (0, .ref (g 0)), (1, .int x0)]) hx hb dX8_figureOf_37 rfl hl (by decide) rfl (fun ls hl => ?_)
    refine lv_iload_n hx hb dX8_figureOf_38 rfl (lv_at hl 0 rfl) ?_
    refine lv_i2l (v := (v3.toInt64)) hx hb dX8_figureOf_39 rfl ?_
    refine lv_lconst (v := 0) hx hb dX8_figureOf_40 (by decide) ?_
    refine lv_ldc2 (v := 9) hx hb hown (hts (.constantLong RX8 72 (9)) (List.mem_of_getElem? (i := 5) rfl)) dX8_figureOf_41 ?_
    refine kb_ci hH hA [] (Wc := ([] : List va_W)) (Wc' := ([] : List va_W)) (WS' := (w_O8 G g V)) rfl (by decide) rfl rfl (va_runS (As := [.long (v3.toInt64), .long (0 : Int64), .long (9 : Int64)]) (rest := []) ⟨hx, hb, hml, hown, hts⟩ (c_X8_in l G (v3.toInt64) (0 : Int64) (9 : Int64) rfl _) (va_cwS 3 hts gX8_figureOf_X8_in rfl rfl rfl hd_X8_in ⟨Nat.le_of_ble_eq_true rfl, Nat.le_of_ble_eq_true rfl⟩) (kb_preS hH hK hN [] rfl (by decide)) rfl rfl hl.1 rfl (lv_room (Nat.le_of_ble_eq_true rfl)) dX8_figureOf_44 ⟨Nat.le_of_ble_eq_true rfl, Nat.le_of_ble_eq_true rfl⟩) (fun H locs hH => ?_)
    refine lv_if_eq (tgt := 58) hx hb dX8_figureOf_47 (by decide) (fun c7 => ?_) (fun c7 => ?_)
    · rw [if_pos c7] at hF
      refine lv_aload_n hx hb dX8_figureOf_58 rfl (lv_at hl 1 rfl) ?_
      refine lv_aload_n hx hb dX8_figureOf_59 rfl (lv_at hl 1 rfl) ?_
      refine kb_get (v := .int (V.2.1 17)) hx hb hts hin8 hown hK hH 0 rfl rfl rfl 17 (by decide) (hts (.fieldLink RX8 66 "CockWarModel" "faultAt" "I") (List.mem_of_getElem? (i := 1) rfl)) (fun _ h9 => h9) rfl dX8_figureOf_60 ?_
      refine lv_bipush (v := -9) hx hb dX8_figureOf_63 (by decide) ?_
      refine lv_icmp_ne (tgt := 75) hx hb dX8_figureOf_65 (by decide) (fun c8 => ?_) (fun c8 => ?_)
      · rw [if_neg c8] at hF
        refine lv_aload_n hx hb dX8_figureOf_75 rfl (lv_at hl 1 rfl) ?_
        refine kb_get (v := .int (V.2.1 17)) hx hb hts hin8 hown hK hH 0 rfl rfl rfl 17 (by decide) (hts (.fieldLink RX8 66 "CockWarModel" "faultAt" "I") (List.mem_of_getElem? (i := 1) rfl)) (fun _ h9 => h9) rfl dX8_figureOf_76 ?_
        refine kb_put (ty := .int) (v := .int (V.2.1 17)) (WS' := (w_O8 G g V)) hx hb hts hin8 tyX8 tyX8_ok nmX8 hown hK hH 0 rfl rfl 17 (by decide) (hts (.fieldLink RX8 66 "CockWarModel" "faultAt" "I") (List.mem_of_getElem? (i := 1) rfl)) (fun _ h9 => h9) rfl (by decide +kernel) rfl rfl (Nat.le_of_ble_eq_true rfl) rfl dX8_figureOf_79 (fun H locs hH => ?_)
        refine lv_iconst (v := 0) hx hb dX8_figureOf_82 (by decide) ?_
        subst hF
        exact kb_iret hx hb hr hH rfl rfl dX8_figureOf_83 hlocks
      · rw [if_pos c8] at hF
        refine lv_aload_n hx hb dX8_figureOf_68 rfl (lv_at hl 1 rfl) ?_
        refine kb_get (v := .int (V.2.1 16)) hx hb hts hin8 hown hK hH 0 rfl rfl rfl 16 (by decide) (hts (.fieldLink RX8 69 "CockWarModel" "at" "I") (List.mem_of_getElem? (i := 2) rfl)) (fun _ h9 => h9) rfl dX8_figureOf_69 ?_
        refine lv_goto (tgt := 79) hx hb dX8_figureOf_72 (by decide) ?_
        refine kb_put (ty := .int) (v := .int (V.2.1 16)) (WS' := (w_O8 G g (oI V 17 (V.2.1 16)))) hx hb hts hin8 tyX8 tyX8_ok nmX8 hown hK hH 0 rfl rfl 17 (by decide) (hts (.fieldLink RX8 66 "CockWarModel" "faultAt" "I") (List.mem_of_getElem? (i := 1) rfl)) (fun _ h9 => h9) rfl (by decide +kernel) rfl rfl (Nat.le_of_ble_eq_true rfl) rfl dX8_figureOf_79 (fun H locs hH => ?_)
        refine lv_iconst (v := 0) hx hb dX8_figureOf_82 (by decide) ?_
        subst hF
        exact kb_iret hx hb hr hH rfl rfl dX8_figureOf_83 hlocks
    · rw [if_neg c7] at hF
      refine lv_iload_n hx hb dX8_figureOf_50 rfl (lv_at hl 2 rfl) ?_
      refine lv_iload_n hx hb dX8_figureOf_51 rfl (lv_at hl 0 rfl) ?_
      refine kb_ci hH hA [] (Wc := ([] : List va_W)) (Wc' := ([] : List va_W)) (WS' := (w_O8 G g V)) rfl (by decide) rfl rfl (va_runS (As := [.int x0, .int v3]) (rest := []) ⟨hx, hb, hml, hown, hts⟩ (c_X8_has l G x0 v3 rfl _) (va_cwS 2 hts gX8_figureOf_X8_has rfl rfl rfl hd_X8_has ⟨Nat.le_of_ble_eq_true rfl, Nat.le_of_ble_eq_true rfl⟩) (kb_preS hH hK hN [] rfl (by decide)) rfl rfl hl.1 rfl (lv_room (Nat.le_of_ble_eq_true rfl)) dX8_figureOf_52 ⟨Nat.le_of_ble_eq_true rfl, Nat.le_of_ble_eq_true rfl⟩) (fun H locs hH => ?_)
      refine lv_if_ne (tgt := 84) hx hb dX8_figureOf_55 (by decide) (fun c9 => ?_) (fun c9 => ?_)
      · rw [if_neg c9] at hF
        refine lv_aload_n hx hb dX8_figureOf_84 rfl (lv_at hl 1 rfl) ?_
        refine lv_dup hx hb dX8_figureOf_85 rfl ?_
        refine kb_get (v := .int (V.2.1 16)) hx hb hts hin8 hown hK hH 0 rfl rfl rfl 16 (by decide) (hts (.fieldLink RX8 69 "CockWarModel" "at" "I") (List.mem_of_getElem? (i := 2) rfl)) (fun _ h9 => h9) rfl dX8_figureOf_86 ?_
        refine lv_iconst (v := 1) hx hb dX8_figureOf_89 (by decide) ?_
        refine lv_iadd hx hb dX8_figureOf_90 ?_
        refine kb_put (ty := .int) (v := .int ((V.2.1 16) + (1 : Int32))) (WS' := (w_O8 G g (oI V 16 ((V.2.1 16) + (1 : Int32))))) hx hb hts hin8 tyX8 tyX8_ok nmX8 hown hK hH 0 rfl rfl 16 (by decide) (hts (.fieldLink RX8 69 "CockWarModel" "at" "I") (List.mem_of_getElem? (i := 2) rfl)) (fun _ h9 => h9) rfl (by decide +kernel) rfl rfl (Nat.le_of_ble_eq_true rfl) rfl dX8_figureOf_91 (fun H locs hH => ?_)
        refine lv_iload_n hx hb dX8_figureOf_94 rfl (lv_at hl 0 rfl) ?_
        subst hF
        exact kb_iret hx hb hr hH rfl rfl dX8_figureOf_95 hlocks
      · rw [if_pos c9] at hF
        refine lv_aload_n hx hb dX8_figureOf_58 rfl (lv_at hl 1 rfl) ?_
        refine lv_aload_n hx hb dX8_figureOf_59 rfl (lv_at hl 1 rfl) ?_
        refine kb_get (v := .int (V.2.1 17)) hx hb hts hin8 hown hK hH 0 rfl rfl rfl 17 (by decide) (hts (.fieldLink RX8 66 "CockWarModel" "faultAt" "I") (List.mem_of_getElem? (i := 1) rfl)) (fun _ h9 => h9) rfl dX8_figureOf_60 ?_
        refine lv_bipush (v := -9) hx hb dX8_figureOf_63 (by decide) ?_
        refine lv_icmp_ne (tgt := 75) hx hb dX8_figureOf_65 (by decide) (fun c10 => ?_) (fun c10 => ?_)
        · rw [if_neg c10] at hF
          refine lv_aload_n hx hb dX8_figureOf_75 rfl (lv_at hl 1 rfl) ?_
          refine kb_get (v := .int (V.2.1 17)) hx hb hts hin8 hown hK hH 0 rfl rfl rfl 17 (by decide) (hts (.fieldLink RX8 66 "CockWarModel" "faultAt" "I") (List.mem_of_getElem? (i := 1) rfl)) (fun _ h9 => h9) rfl dX8_figureOf_76 ?_
          refine kb_put (ty := .int) (v := .int (V.2.1 17)) (WS' := (w_O8 G g V)) hx hb hts hin8 tyX8 tyX8_ok nmX8 hown hK hH 0 rfl rfl 17 (by decide) (hts (.fieldLink RX8 66 "CockWarModel" "faultAt" "I") (List.mem_of_getElem? (i := 1) rfl)) (fun _ h9 => h9) rfl (by decide +kernel) rfl rfl (Nat.le_of_ble_eq_true rfl) rfl dX8_figureOf_79 (fun H locs hH => ?_)
          refine lv_iconst (v := 0) hx hb dX8_figureOf_82 (by decide) ?_
          subst hF
          exact kb_iret hx hb hr hH rfl rfl dX8_figureOf_83 hlocks
        · rw [if_pos c10] at hF
          refine lv_aload_n hx hb dX8_figureOf_68 rfl (lv_at hl 1 rfl) ?_
          refine kb_get (v := .int (V.2.1 16)) hx hb hts hin8 hown hK hH 0 rfl rfl rfl 16 (by decide) (hts (.fieldLink RX8 69 "CockWarModel" "at" "I") (List.mem_of_getElem? (i := 2) rfl)) (fun _ h9 => h9) rfl dX8_figureOf_69 ?_
          refine lv_goto (tgt := 79) hx hb dX8_figureOf_72 (by decide) ?_
          refine kb_put (ty := .int) (v := .int (V.2.1 16)) (WS' := (w_O8 G g (oI V 17 (V.2.1 16)))) hx hb hts hin8 tyX8 tyX8_ok nmX8 hown hK hH 0 rfl rfl 17 (by decide) (hts (.fieldLink RX8 66 "CockWarModel" "faultAt" "I") (List.mem_of_getElem? (i := 1) rfl)) (fun _ h9 => h9) rfl (by decide +kernel) rfl rfl (Nat.le_of_ble_eq_true rfl) rfl dX8_figureOf_79 (fun H locs hH => ?_)
          refine lv_iconst (v := 0) hx hb dX8_figureOf_82 (by decide) ?_
          subst hF
          exact kb_iret hx hb hr hH rfl rfl dX8_figureOf_83 hlocks
def f_X8_readCock (V : OV) : (OV) := (kAp (f_X8_figureOf V ((1023 : Int32) &&& ((V.2.1 13) ^^^ (-1 : Int32)))) (fun q1 => (kAp (f_X8_figure (oA q1.2 6 (upd (q1.2.1 6) (V.2.1 10).toNatClampNeg q1.1)) (0 : Int32) (1 : Int32)) (fun q4 => (kAp (f_X8_figure q4.2 (0 : Int32) (3 : Int32)) (fun q6 => (kAp (f_X8_figure (oA q6.2 7 (upd (q6.2.1 7) (V.2.1 10).toNatClampNeg q6.1)) (0 : Int32) (4 : Int32)) (fun q9 => (kAp (f_X8_figure (oA q9.2 6 (upd (q9.2.1 6) ((6 : Int32) + (V.2.1 10)).toNatClampNeg q9.1)) (1 : Int32) (9 : Int32)) (fun q12 => (kAp (f_X8_figure (oA q12.2 8 (upd (q12.2.1 8) (V.2.1 10).toNatClampNeg q12.1)) (0 : Int32) (1 : Int32)) (fun q15 => (oI (oI (oA q15.2 6 (upd (upd (q15.2.1 6) (22 : Int32).toNatClampNeg (((q15.2.1 6) (22 : Int32).toNatClampNeg) ||| (q4.1 <<< ((V.2.1 10) &&& 31)))) (23 : Int32).toNatClampNeg (((upd (q15.2.1 6) (22 : Int32).toNatClampNeg (((q15.2.1 6) (22 : Int32).toNatClampNeg) ||| (q4.1 <<< ((V.2.1 10) &&& 31)))) (23 : Int32).toNatClampNeg) ||| (q15.1 <<< ((V.2.1 10) &&& 31))))) 10 ((q15.2.2.1 10) + (1 : Int32))) 13 ((q15.2.2.1 13) ||| ((1 : Int32) <<< (((upd (upd (q15.2.1 6) (22 : Int32).toNatClampNeg (((q15.2.1 6) (22 : Int32).toNatClampNeg) ||| (q4.1 <<< ((V.2.1 10) &&& 31)))) (23 : Int32).toNatClampNeg (((upd (q15.2.1 6) (22 : Int32).toNatClampNeg (((q15.2.1 6) (22 : Int32).toNatClampNeg) ||| (q4.1 <<< ((V.2.1 10) &&& 31)))) (23 : Int32).toNatClampNeg) ||| (q15.1 <<< ((V.2.1 10) &&& 31)))) (V.2.1 10).toNatClampNeg) &&& 31))))))))))))))))
def d_X8_readCock (V : OV) : Prop := ((d_X8_figureOf V ((1023 : Int32) &&& ((V.2.1 13) ^^^ (-1 : Int32)))) ∧ (kAp (f_X8_figureOf V ((1023 : Int32) &&& ((V.2.1 13) ^^^ (-1 : Int32)))) (fun q1 => (vp_in (V.2.1 10) 27 ∧ ((d_X8_figure (oA q1.2 6 (upd (q1.2.1 6) (V.2.1 10).toNatClampNeg q1.1)) (0 : Int32) (1 : Int32)) ∧ (kAp (f_X8_figure (oA q1.2 6 (upd (q1.2.1 6) (V.2.1 10).toNatClampNeg q1.1)) (0 : Int32) (1 : Int32)) (fun q4 => ((d_X8_figure q4.2 (0 : Int32) (3 : Int32)) ∧ (kAp (f_X8_figure q4.2 (0 : Int32) (3 : Int32)) (fun q6 => (vp_in (V.2.1 10) 6 ∧ ((d_X8_figure (oA q6.2 7 (upd (q6.2.1 7) (V.2.1 10).toNatClampNeg q6.1)) (0 : Int32) (4 : Int32)) ∧ (kAp (f_X8_figure (oA q6.2 7 (upd (q6.2.1 7) (V.2.1 10).toNatClampNeg q6.1)) (0 : Int32) (4 : Int32)) (fun q9 => (vp_in ((6 : Int32) + (V.2.1 10)) 27 ∧ ((d_X8_figure (oA q9.2 6 (upd (q9.2.1 6) ((6 : Int32) + (V.2.1 10)).toNatClampNeg q9.1)) (1 : Int32) (9 : Int32)) ∧ (kAp (f_X8_figure (oA q9.2 6 (upd (q9.2.1 6) ((6 : Int32) + (V.2.1 10)).toNatClampNeg q9.1)) (1 : Int32) (9 : Int32)) (fun q12 => (vp_in (V.2.1 10) 6 ∧ ((d_X8_figure (oA q12.2 8 (upd (q12.2.1 8) (V.2.1 10).toNatClampNeg q12.1)) (0 : Int32) (1 : Int32)) ∧ (kAp (f_X8_figure (oA q12.2 8 (upd (q12.2.1 8) (V.2.1 10).toNatClampNeg q12.1)) (0 : Int32) (1 : Int32)) (fun q15 => vp_in (V.2.1 10) 27))))))))))))))))))))))
set_option maxHeartbeats 4000000 in
set_option maxRecDepth 100000 in
theorem c_X8_readCock (l : Launch) (G : Ge) (g : Nat → Nat) (V : OV) (hD : d_X8_readCock V) {F : (OV)} (hF : f_X8_readCock V = F) : CV l yX8_readCock wsX8_readCock { frames := 2, cells := 0, slots := 0, locals := 48 } [.ref (g 0)] G (w_O8 G g V) (w_O8 G g F) := by
  intro sz
  refine Met.ofW (cc := cX8_readCock) (maxL := 4) (ret := none) (by decide) rfl ?_
  intro p e s m args below meth c s₁ B hml hv
  obtain ⟨rfl, hpre⟩ := hv
  obtain ⟨hsz, hH, hK, hN, hA⟩ := kb_start hpre
  subst hsz
  have hx := B.exec
  have hb := B.bytes
  have hr := B.returns
  have hts := atoms_spec (ws := wsX8_readCock) B.pre
  have hown : s.vm.findClass RX8 = some m.cls := findClass_of_methodNamed B.named
  have hlocks := B.notSynchronized
  generalize hAe : va_A (List.flatten (w_O8 G g V)) s.heap.size = A at hH hA ⊢
  have hl := lv_entry ([.ref (g 0)]) (n := 4) (Nat.le_of_ble_eq_true rfl)
  rw [lg_entry_eq]
  generalize (lg_sl ([.ref (g 0)]) ++ List.replicate (4 - (lg_sl ([.ref (g 0)])).length) Slot.unset).toArray = ls at hl ⊢
  have hl : lv_has ls 4 [(0, .ref (g 0))] := hl
  have hH : HP G A s.heap (w_O8 G g V) s.heap [] := hH
  have hin8 : ∀ w ∈ u_ws RX8 TX8 31, w ∈ wsX8_readCock := fun w h => List.mem_cons_of_mem _ (List.mem_append_right _ h)
  have hF : (kAp (f_X8_figureOf V ((1023 : Int32) &&& ((V.2.1 13) ^^^ (-1 : Int32)))) (fun q1 => (kAp (f_X8_figure (oA q1.2 6 (upd (q1.2.1 6) (V.2.1 10).toNatClampNeg q1.1)) (0 : Int32) (1 : Int32)) (fun q4 => (kAp (f_X8_figure q4.2 (0 : Int32) (3 : Int32)) (fun q6 => (kAp (f_X8_figure (oA q6.2 7 (upd (q6.2.1 7) (V.2.1 10).toNatClampNeg q6.1)) (0 : Int32) (4 : Int32)) (fun q9 => (kAp (f_X8_figure (oA q9.2 6 (upd (q9.2.1 6) ((6 : Int32) + (V.2.1 10)).toNatClampNeg q9.1)) (1 : Int32) (9 : Int32)) (fun q12 => (kAp (f_X8_figure (oA q12.2 8 (upd (q12.2.1 8) (V.2.1 10).toNatClampNeg q12.1)) (0 : Int32) (1 : Int32)) (fun q15 => (oI (oI (oA q15.2 6 (upd (upd (q15.2.1 6) (22 : Int32).toNatClampNeg (((q15.2.1 6) (22 : Int32).toNatClampNeg) ||| (q4.1 <<< ((V.2.1 10) &&& 31)))) (23 : Int32).toNatClampNeg (((upd (q15.2.1 6) (22 : Int32).toNatClampNeg (((q15.2.1 6) (22 : Int32).toNatClampNeg) ||| (q4.1 <<< ((V.2.1 10) &&& 31)))) (23 : Int32).toNatClampNeg) ||| (q15.1 <<< ((V.2.1 10) &&& 31))))) 10 ((q15.2.2.1 10) + (1 : Int32))) 13 ((q15.2.2.1 13) ||| ((1 : Int32) <<< (((upd (upd (q15.2.1 6) (22 : Int32).toNatClampNeg (((q15.2.1 6) (22 : Int32).toNatClampNeg) ||| (q4.1 <<< ((V.2.1 10) &&& 31)))) (23 : Int32).toNatClampNeg (((upd (q15.2.1 6) (22 : Int32).toNatClampNeg (((q15.2.1 6) (22 : Int32).toNatClampNeg) ||| (q4.1 <<< ((V.2.1 10) &&& 31)))) (23 : Int32).toNatClampNeg) ||| (q15.1 <<< ((V.2.1 10) &&& 31)))) (V.2.1 10).toNatClampNeg) &&& 31)))))))))))))))) = F := hF
  have hD : ((d_X8_figureOf V ((1023 : Int32) &&& ((V.2.1 13) ^^^ (-1 : Int32)))) ∧ (kAp (f_X8_figureOf V ((1023 : Int32) &&& ((V.2.1 13) ^^^ (-1 : Int32)))) (fun q1 => (vp_in (V.2.1 10) 27 ∧ ((d_X8_figure (oA q1.2 6 (upd (q1.2.1 6) (V.2.1 10).toNatClampNeg q1.1)) (0 : Int32) (1 : Int32)) ∧ (kAp (f_X8_figure (oA q1.2 6 (upd (q1.2.1 6) (V.2.1 10).toNatClampNeg q1.1)) (0 : Int32) (1 : Int32)) (fun q4 => ((d_X8_figure q4.2 (0 : Int32) (3 : Int32)) ∧ (kAp (f_X8_figure q4.2 (0 : Int32) (3 : Int32)) (fun q6 => (vp_in (V.2.1 10) 6 ∧ ((d_X8_figure (oA q6.2 7 (upd (q6.2.1 7) (V.2.1 10).toNatClampNeg q6.1)) (0 : Int32) (4 : Int32)) ∧ (kAp (f_X8_figure (oA q6.2 7 (upd (q6.2.1 7) (V.2.1 10).toNatClampNeg q6.1)) (0 : Int32) (4 : Int32)) (fun q9 => (vp_in ((6 : Int32) + (V.2.1 10)) 27 ∧ ((d_X8_figure (oA q9.2 6 (upd (q9.2.1 6) ((6 : Int32) + (V.2.1 10)).toNatClampNeg q9.1)) (1 : Int32) (9 : Int32)) ∧ (kAp (f_X8_figure (oA q9.2 6 (upd (q9.2.1 6) ((6 : Int32) + (V.2.1 10)).toNatClampNeg q9.1)) (1 : Int32) (9 : Int32)) (fun q12 => (vp_in (V.2.1 10) 6 ∧ ((d_X8_figure (oA q12.2 8 (upd (q12.2.1 8) (V.2.1 10).toNatClampNeg q12.1)) (0 : Int32) (1 : Int32)) ∧ (kAp (f_X8_figure (oA q12.2 8 (upd (q12.2.1 8) (V.2.1 10).toNatClampNeg q12.1)) (0 : Int32) (1 : Int32)) (fun q15 => vp_in (V.2.1 10) 27)))))))))))))))))))))) := hD
  refine lv_aload_n hx hb dX8_readCock_0 rfl (lv_at hl 0 rfl) ?_
  refine kb_get (v := .int (V.2.1 10)) hx hb hts hin8 hown hK hH 0 rfl rfl rfl 10 (by decide) (hts (.fieldLink RX8 78 "CockWarModel" "readCocks" "I") (List.mem_of_getElem? (i := 1) rfl)) (fun _ h9 => h9) rfl dX8_readCock_1 ?_
  refine lv_istore_n (lv' := [(1, .int (V.2.1 10)), (0, .ref (g 0))]) hx hb dX8_readCock_4 rfl hl (by decide) rfl (fun ls hl => ?_)
  refine lv_aload_n hx hb dX8_readCock_5 rfl (lv_at hl 1 rfl) ?_
  refine kb_get (v := .ref (g 7)) hx hb hts hin8 hown hK hH 0 rfl rfl rfl 6 (by decide) (hts (.fieldLink RX8 22 "CockWarModel" "read" "[I") (List.mem_of_getElem? (i := 2) rfl)) (fun _ h9 => h9) rfl dX8_readCock_6 ?_
  refine lv_iload_n hx hb dX8_readCock_9 rfl (lv_at hl 0 rfl) ?_
  refine lv_aload_n hx hb dX8_readCock_10 rfl (lv_at hl 1 rfl) ?_
  refine lv_sipush (v := 1023) hx hb dX8_readCock_11 (by decide) ?_
  refine lv_aload_n hx hb dX8_readCock_14 rfl (lv_at hl 1 rfl) ?_
  refine kb_get (v := .int (V.2.1 13)) hx hb hts hin8 hown hK hH 0 rfl rfl rfl 13 (by decide) (hts (.fieldLink RX8 87 "CockWarModel" "readCells" "I") (List.mem_of_getElem? (i := 3) rfl)) (fun _ h9 => h9) rfl dX8_readCock_15 ?_
  refine lv_iconst (v := -1) hx hb dX8_readCock_18 (by decide) ?_
  refine lv_ixor hx hb dX8_readCock_19 ?_
  refine lv_iand hx hb dX8_readCock_20 ?_
  obtain ⟨hz2, hD⟩ := hD
  obtain ⟨q1, hq1⟩ : ∃ z, z = (f_X8_figureOf V ((1023 : Int32) &&& ((V.2.1 13) ^^^ (-1 : Int32)))) := ⟨_, rfl⟩
  have hF := kAp_eq hF hq1
  have hD := kAp_D hD hq1
  refine kb_ci hH hA [0, 1, 2, 3, 4, 5, 6, 7, 8, 9, 10, 11, 12, 13, 14] (Wc := (w_O8 G g V)) (Wc' := (w_O8 G g q1.2)) (WS' := (w_O8 G g q1.2)) rfl (by decide) rfl rfl (va_runV (As := [.int ((1023 : Int32) &&& ((V.2.1 13) ^^^ (-1 : Int32)))]) (rest := [.int (V.2.1 10), .ref (g 7)]) ⟨hx, hb, hml, hown, hts⟩ (c_X8_figureOf l G g V ((1023 : Int32) &&& ((V.2.1 13) ^^^ (-1 : Int32))) hz2 hq1.symm _) (cwV 1 hts gX8_readCock_X8_figureOf rfl rfl rfl he_X8_figureOf ⟨Nat.le_of_ble_eq_true rfl, Nat.le_of_ble_eq_true rfl⟩) (kb_preV hH hK hN [0, 1, 2, 3, 4, 5, 6, 7, 8, 9, 10, 11, 12, 13, 14] rfl (by decide) 0 rfl rfl rfl rfl) rfl rfl hl.1 rfl (lv_room (Nat.le_of_ble_eq_true rfl)) dX8_readCock_21 ⟨Nat.le_of_ble_eq_true rfl, Nat.le_of_ble_eq_true rfl⟩) (fun H locs hH => ?_)
  obtain ⟨hz3, hD⟩ := hD
  refine kb_iast (WS' := (w_O8 G g (oA q1.2 6 (upd (q1.2.1 6) (V.2.1 10).toNatClampNeg q1.1)))) hx hb hK hH 5 rfl hz3 rfl dX8_readCock_24 (fun H locs hH => ?_)
  refine lv_aload_n hx hb dX8_readCock_25 rfl (lv_at hl 1 rfl) ?_
  refine lv_iconst (v := 0) hx hb dX8_readCock_26 (by decide) ?_
  refine lv_iconst (v := 1) hx hb dX8_readCock_27 (by decide) ?_
  obtain ⟨hz5, hD⟩ := hD
  obtain ⟨q4, hq4⟩ : ∃ z, z = (f_X8_figure (oA q1.2 6 (upd (q1.2.1 6) (V.2.1 10).toNatClampNeg q1.1)) (0 : Int32) (1 : Int32)) := ⟨_, rfl⟩
  have hF := kAp_eq hF hq4
  have hD := kAp_D hD hq4
  refine kb_ci hH hA [0, 1, 2, 3, 4, 5, 6, 7, 8, 9, 10, 11, 12, 13, 14] (Wc := (w_O8 G g (oA q1.2 6 (upd (q1.2.1 6) (V.2.1 10).toNatClampNeg q1.1)))) (Wc' := (w_O8 G g q4.2)) (WS' := (w_O8 G g q4.2)) rfl (by decide) rfl rfl (va_runV (As := [.int (0 : Int32), .int (1 : Int32)]) (rest := []) ⟨hx, hb, hml, hown, hts⟩ (c_X8_figure l G g (oA q1.2 6 (upd (q1.2.1 6) (V.2.1 10).toNatClampNeg q1.1)) (0 : Int32) (1 : Int32) hz5 hq4.symm _) (cwV 2 hts gX8_readCock_X8_figure rfl rfl rfl he_X8_figure ⟨Nat.le_of_ble_eq_true rfl, Nat.le_of_ble_eq_true rfl⟩) (kb_preV hH hK hN [0, 1, 2, 3, 4, 5, 6, 7, 8, 9, 10, 11, 12, 13, 14] rfl (by decide) 0 rfl rfl rfl rfl) rfl rfl hl.1 rfl (lv_room (Nat.le_of_ble_eq_true rfl)) dX8_readCock_28 ⟨Nat.le_of_ble_eq_true rfl, Nat.le_of_ble_eq_true rfl⟩) (fun H locs hH => ?_)
  refine lv_istore_n (lv' := [(2, .int q4.1), (1, .int (V.2.1 10)), (0, .ref (g 0))]) hx hb dX8_readCock_31 rfl hl (by decide) rfl (fun ls hl => ?_)
  refine lv_aload_n hx hb dX8_readCock_32 rfl (lv_at hl 2 rfl) ?_
  refine kb_get (v := .ref (g 8)) hx hb hts hin8 hown hK hH 0 rfl rfl rfl 7 (by decide) (hts (.fieldLink RX8 25 "CockWarModel" "readHigh" "[I") (List.mem_of_getElem? (i := 4) rfl)) (fun _ h9 => h9) rfl dX8_readCock_33 ?_
  refine lv_iload_n hx hb dX8_readCock_36 rfl (lv_at hl 1 rfl) ?_
  refine lv_aload_n hx hb dX8_readCock_37 rfl (lv_at hl 2 rfl) ?_
  refine lv_iconst (v := 0) hx hb dX8_readCock_38 (by decide) ?_
  refine lv_iconst (v := 3) hx hb dX8_readCock_39 (by decide) ?_
  obtain ⟨hz7, hD⟩ := hD
  obtain ⟨q6, hq6⟩ : ∃ z, z = (f_X8_figure q4.2 (0 : Int32) (3 : Int32)) := ⟨_, rfl⟩
  have hF := kAp_eq hF hq6
  have hD := kAp_D hD hq6
  refine kb_ci hH hA [0, 1, 2, 3, 4, 5, 6, 7, 8, 9, 10, 11, 12, 13, 14] (Wc := (w_O8 G g q4.2)) (Wc' := (w_O8 G g q6.2)) (WS' := (w_O8 G g q6.2)) rfl (by decide) rfl rfl (va_runV (As := [.int (0 : Int32), .int (3 : Int32)]) (rest := [.int (V.2.1 10), .ref (g 8)]) ⟨hx, hb, hml, hown, hts⟩ (c_X8_figure l G g q4.2 (0 : Int32) (3 : Int32) hz7 hq6.symm _) (cwV 2 hts gX8_readCock_X8_figure rfl rfl rfl he_X8_figure ⟨Nat.le_of_ble_eq_true rfl, Nat.le_of_ble_eq_true rfl⟩) (kb_preV hH hK hN [0, 1, 2, 3, 4, 5, 6, 7, 8, 9, 10, 11, 12, 13, 14] rfl (by decide) 0 rfl rfl rfl rfl) rfl rfl hl.1 rfl (lv_room (Nat.le_of_ble_eq_true rfl)) dX8_readCock_40 ⟨Nat.le_of_ble_eq_true rfl, Nat.le_of_ble_eq_true rfl⟩) (fun H locs hH => ?_)
  obtain ⟨hz8, hD⟩ := hD
  refine kb_iast (WS' := (w_O8 G g (oA q6.2 7 (upd (q6.2.1 7) (V.2.1 10).toNatClampNeg q6.1)))) hx hb hK hH 6 rfl hz8 rfl dX8_readCock_43 (fun H locs hH => ?_)
  refine lv_aload_n hx hb dX8_readCock_44 rfl (lv_at hl 2 rfl) ?_
  refine kb_get (v := .ref (g 7)) hx hb hts hin8 hown hK hH 0 rfl rfl rfl 6 (by decide) (hts (.fieldLink RX8 22 "CockWarModel" "read" "[I") (List.mem_of_getElem? (i := 2) rfl)) (fun _ h9 => h9) rfl dX8_readCock_45 ?_
  refine lv_bipush (v := 6) hx hb dX8_readCock_48 (by decide) ?_
  refine lv_iload_n hx hb dX8_readCock_50 rfl (lv_at hl 1 rfl) ?_
  refine lv_iadd hx hb dX8_readCock_51 ?_
  refine lv_aload_n hx hb dX8_readCock_52 rfl (lv_at hl 2 rfl) ?_
  refine lv_iconst (v := 0) hx hb dX8_readCock_53 (by decide) ?_
  refine lv_iconst (v := 4) hx hb dX8_readCock_54 (by decide) ?_
  obtain ⟨hz10, hD⟩ := hD
  obtain ⟨q9, hq9⟩ : ∃ z, z = (f_X8_figure (oA q6.2 7 (upd (q6.2.1 7) (V.2.1 10).toNatClampNeg q6.1)) (0 : Int32) (4 : Int32)) := ⟨_, rfl⟩
  have hF := kAp_eq hF hq9
  have hD := kAp_D hD hq9
  refine kb_ci hH hA [0, 1, 2, 3, 4, 5, 6, 7, 8, 9, 10, 11, 12, 13, 14] (Wc := (w_O8 G g (oA q6.2 7 (upd (q6.2.1 7) (V.2.1 10).toNatClampNeg q6.1)))) (Wc' := (w_O8 G g q9.2)) (WS' := (w_O8 G g q9.2)) rfl (by decide) rfl rfl (va_runV (As := [.int (0 : Int32), .int (4 : Int32)]) (rest := [.int ((6 : Int32) + (V.2.1 10)), .ref (g 7)]) ⟨hx, hb, hml, hown, hts⟩ (c_X8_figure l G g (oA q6.2 7 (upd (q6.2.1 7) (V.2.1 10).toNatClampNeg q6.1)) (0 : Int32) (4 : Int32) hz10 hq9.symm _) (cwV 2 hts gX8_readCock_X8_figure rfl rfl rfl he_X8_figure ⟨Nat.le_of_ble_eq_true rfl, Nat.le_of_ble_eq_true rfl⟩) (kb_preV hH hK hN [0, 1, 2, 3, 4, 5, 6, 7, 8, 9, 10, 11, 12, 13, 14] rfl (by decide) 0 rfl rfl rfl rfl) rfl rfl hl.1 rfl (lv_room (Nat.le_of_ble_eq_true rfl)) dX8_readCock_55 ⟨Nat.le_of_ble_eq_true rfl, Nat.le_of_ble_eq_true rfl⟩) (fun H locs hH => ?_)
  obtain ⟨hz11, hD⟩ := hD
  refine kb_iast (WS' := (w_O8 G g (oA q9.2 6 (upd (q9.2.1 6) ((6 : Int32) + (V.2.1 10)).toNatClampNeg q9.1)))) hx hb hK hH 5 rfl hz11 rfl dX8_readCock_58 (fun H locs hH => ?_)
  refine lv_aload_n hx hb dX8_readCock_59 rfl (lv_at hl 2 rfl) ?_
  refine kb_get (v := .ref (g 9)) hx hb hts hin8 hown hK hH 0 rfl rfl rfl 8 (by decide) (hts (.fieldLink RX8 28 "CockWarModel" "readWeight" "[I") (List.mem_of_getElem? (i := 5) rfl)) (fun _ h9 => h9) rfl dX8_readCock_60 ?_
  refine lv_iload_n hx hb dX8_readCock_63 rfl (lv_at hl 1 rfl) ?_
  refine lv_aload_n hx hb dX8_readCock_64 rfl (lv_at hl 2 rfl) ?_
  refine lv_iconst (v := 1) hx hb dX8_readCock_65 (by decide) ?_
  refine lv_bipush (v := 9) hx hb dX8_readCock_66 (by decide) ?_
  obtain ⟨hz13, hD⟩ := hD
  obtain ⟨q12, hq12⟩ : ∃ z, z = (f_X8_figure (oA q9.2 6 (upd (q9.2.1 6) ((6 : Int32) + (V.2.1 10)).toNatClampNeg q9.1)) (1 : Int32) (9 : Int32)) := ⟨_, rfl⟩
  have hF := kAp_eq hF hq12
  have hD := kAp_D hD hq12
  refine kb_ci hH hA [0, 1, 2, 3, 4, 5, 6, 7, 8, 9, 10, 11, 12, 13, 14] (Wc := (w_O8 G g (oA q9.2 6 (upd (q9.2.1 6) ((6 : Int32) + (V.2.1 10)).toNatClampNeg q9.1)))) (Wc' := (w_O8 G g q12.2)) (WS' := (w_O8 G g q12.2)) rfl (by decide) rfl rfl (va_runV (As := [.int (1 : Int32), .int (9 : Int32)]) (rest := [.int (V.2.1 10), .ref (g 9)]) ⟨hx, hb, hml, hown, hts⟩ (c_X8_figure l G g (oA q9.2 6 (upd (q9.2.1 6) ((6 : Int32) + (V.2.1 10)).toNatClampNeg q9.1)) (1 : Int32) (9 : Int32) hz13 hq12.symm _) (cwV 2 hts gX8_readCock_X8_figure rfl rfl rfl he_X8_figure ⟨Nat.le_of_ble_eq_true rfl, Nat.le_of_ble_eq_true rfl⟩) (kb_preV hH hK hN [0, 1, 2, 3, 4, 5, 6, 7, 8, 9, 10, 11, 12, 13, 14] rfl (by decide) 0 rfl rfl rfl rfl) rfl rfl hl.1 rfl (lv_room (Nat.le_of_ble_eq_true rfl)) dX8_readCock_68 ⟨Nat.le_of_ble_eq_true rfl, Nat.le_of_ble_eq_true rfl⟩) (fun H locs hH => ?_)
  obtain ⟨hz14, hD⟩ := hD
  refine kb_iast (WS' := (w_O8 G g (oA q12.2 8 (upd (q12.2.1 8) (V.2.1 10).toNatClampNeg q12.1)))) hx hb hK hH 7 rfl hz14 rfl dX8_readCock_71 (fun H locs hH => ?_)
  refine lv_aload_n hx hb dX8_readCock_72 rfl (lv_at hl 2 rfl) ?_
  refine lv_iconst (v := 0) hx hb dX8_readCock_73 (by decide) ?_
  refine lv_iconst (v := 1) hx hb dX8_readCock_74 (by decide) ?_
  obtain ⟨hz16, hD⟩ := hD
  obtain ⟨q15, hq15⟩ : ∃ z, z = (f_X8_figure (oA q12.2 8 (upd (q12.2.1 8) (V.2.1 10).toNatClampNeg q12.1)) (0 : Int32) (1 : Int32)) := ⟨_, rfl⟩
  have hF := kAp_eq hF hq15
  have hD := kAp_D hD hq15
  refine kb_ci hH hA [0, 1, 2, 3, 4, 5, 6, 7, 8, 9, 10, 11, 12, 13, 14] (Wc := (w_O8 G g (oA q12.2 8 (upd (q12.2.1 8) (V.2.1 10).toNatClampNeg q12.1)))) (Wc' := (w_O8 G g q15.2)) (WS' := (w_O8 G g q15.2)) rfl (by decide) rfl rfl (va_runV (As := [.int (0 : Int32), .int (1 : Int32)]) (rest := []) ⟨hx, hb, hml, hown, hts⟩ (c_X8_figure l G g (oA q12.2 8 (upd (q12.2.1 8) (V.2.1 10).toNatClampNeg q12.1)) (0 : Int32) (1 : Int32) hz16 hq15.symm _) (cwV 2 hts gX8_readCock_X8_figure rfl rfl rfl he_X8_figure ⟨Nat.le_of_ble_eq_true rfl, Nat.le_of_ble_eq_true rfl⟩) (kb_preV hH hK hN [0, 1, 2, 3, 4, 5, 6, 7, 8, 9, 10, 11, 12, 13, 14] rfl (by decide) 0 rfl rfl rfl rfl) rfl rfl hl.1 rfl (lv_room (Nat.le_of_ble_eq_true rfl)) dX8_readCock_75 ⟨Nat.le_of_ble_eq_true rfl, Nat.le_of_ble_eq_true rfl⟩) (fun H locs hH => ?_)
  refine lv_istore_n (lv' := [(3, .int q15.1), (2, .int q4.1), (1, .int (V.2.1 10)), (0, .ref (g 0))]) hx hb dX8_readCock_78 rfl hl (by decide) rfl (fun ls hl => ?_)
  refine lv_aload_n hx hb dX8_readCock_79 rfl (lv_at hl 3 rfl) ?_
  refine kb_get (v := .ref (g 7)) hx hb hts hin8 hown hK hH 0 rfl rfl rfl 6 (by decide) (hts (.fieldLink RX8 22 "CockWarModel" "read" "[I") (List.mem_of_getElem? (i := 2) rfl)) (fun _ h9 => h9) rfl dX8_readCock_80 ?_
  refine lv_bipush (v := 22) hx hb dX8_readCock_83 (by decide) ?_
  refine lv_dup2_11 hx hb dX8_readCock_85 rfl rfl ?_
  refine kb_iald hx hb hK hH 5 rfl (show ¬ ((22 : Int32) < 0 ∨ 27 ≤ (22 : Int32).toNatClampNeg) by decide) dX8_readCock_86 ?_
  refine lv_iload_n hx hb dX8_readCock_87 rfl (lv_at hl 1 rfl) ?_
  refine lv_iload_n hx hb dX8_readCock_88 rfl (lv_at hl 2 rfl) ?_
  refine lv_ishl hx hb dX8_readCock_89 ?_
  refine lv_ior hx hb dX8_readCock_90 ?_
  refine kb_iast (WS' := (w_O8 G g (oA q15.2 6 (upd (q15.2.1 6) (22 : Int32).toNatClampNeg (((q15.2.1 6) (22 : Int32).toNatClampNeg) ||| (q4.1 <<< ((V.2.1 10) &&& 31))))))) hx hb hK hH 5 rfl (show ¬ ((22 : Int32) < 0 ∨ 27 ≤ (22 : Int32).toNatClampNeg) by decide) rfl dX8_readCock_91 (fun H locs hH => ?_)
  refine lv_aload_n hx hb dX8_readCock_92 rfl (lv_at hl 3 rfl) ?_
  refine kb_get (v := .ref (g 7)) hx hb hts hin8 hown hK hH 0 rfl rfl rfl 6 (by decide) (hts (.fieldLink RX8 22 "CockWarModel" "read" "[I") (List.mem_of_getElem? (i := 2) rfl)) (fun _ h9 => h9) rfl dX8_readCock_93 ?_
  refine lv_bipush (v := 23) hx hb dX8_readCock_96 (by decide) ?_
  refine lv_dup2_11 hx hb dX8_readCock_98 rfl rfl ?_
  refine kb_iald hx hb hK hH 5 rfl (show ¬ ((23 : Int32) < 0 ∨ 27 ≤ (23 : Int32).toNatClampNeg) by decide) dX8_readCock_99 ?_
  refine lv_iload_n hx hb dX8_readCock_100 rfl (lv_at hl 0 rfl) ?_
  refine lv_iload_n hx hb dX8_readCock_101 rfl (lv_at hl 2 rfl) ?_
  refine lv_ishl hx hb dX8_readCock_102 ?_
  refine lv_ior hx hb dX8_readCock_103 ?_
  refine kb_iast (WS' := (w_O8 G g (oA q15.2 6 (upd (upd (q15.2.1 6) (22 : Int32).toNatClampNeg (((q15.2.1 6) (22 : Int32).toNatClampNeg) ||| (q4.1 <<< ((V.2.1 10) &&& 31)))) (23 : Int32).toNatClampNeg (((upd (q15.2.1 6) (22 : Int32).toNatClampNeg (((q15.2.1 6) (22 : Int32).toNatClampNeg) ||| (q4.1 <<< ((V.2.1 10) &&& 31)))) (23 : Int32).toNatClampNeg) ||| (q15.1 <<< ((V.2.1 10) &&& 31))))))) hx hb hK hH 5 rfl (show ¬ ((23 : Int32) < 0 ∨ 27 ≤ (23 : Int32).toNatClampNeg) by decide) rfl dX8_readCock_104 (fun H locs hH => ?_)
  refine lv_aload_n hx hb dX8_readCock_105 rfl (lv_at hl 3 rfl) ?_
  refine lv_dup hx hb dX8_readCock_106 rfl ?_
  refine kb_get (v := .int (q15.2.2.1 13)) hx hb hts hin8 hown hK hH 0 rfl rfl rfl 13 (by decide) (hts (.fieldLink RX8 87 "CockWarModel" "readCells" "I") (List.mem_of_getElem? (i := 3) rfl)) (fun _ h9 => h9) rfl dX8_readCock_107 ?_
  refine lv_iconst (v := 1) hx hb dX8_readCock_110 (by decide) ?_
  refine lv_aload_n hx hb dX8_readCock_111 rfl (lv_at hl 3 rfl) ?_
  refine kb_get (v := .ref (g 7)) hx hb hts hin8 hown hK hH 0 rfl rfl rfl 6 (by decide) (hts (.fieldLink RX8 22 "CockWarModel" "read" "[I") (List.mem_of_getElem? (i := 2) rfl)) (fun _ h9 => h9) rfl dX8_readCock_112 ?_
  refine lv_iload_n hx hb dX8_readCock_115 rfl (lv_at hl 2 rfl) ?_
  have hz17 := hD
  refine kb_iald hx hb hK hH 5 rfl hz17 dX8_readCock_116 ?_
  refine lv_ishl hx hb dX8_readCock_117 ?_
  refine lv_ior hx hb dX8_readCock_118 ?_
  refine kb_put (ty := .int) (v := .int ((q15.2.2.1 13) ||| ((1 : Int32) <<< (((upd (upd (q15.2.1 6) (22 : Int32).toNatClampNeg (((q15.2.1 6) (22 : Int32).toNatClampNeg) ||| (q4.1 <<< ((V.2.1 10) &&& 31)))) (23 : Int32).toNatClampNeg (((upd (q15.2.1 6) (22 : Int32).toNatClampNeg (((q15.2.1 6) (22 : Int32).toNatClampNeg) ||| (q4.1 <<< ((V.2.1 10) &&& 31)))) (23 : Int32).toNatClampNeg) ||| (q15.1 <<< ((V.2.1 10) &&& 31)))) (V.2.1 10).toNatClampNeg) &&& 31)))) (WS' := (w_O8 G g (oI (oA q15.2 6 (upd (upd (q15.2.1 6) (22 : Int32).toNatClampNeg (((q15.2.1 6) (22 : Int32).toNatClampNeg) ||| (q4.1 <<< ((V.2.1 10) &&& 31)))) (23 : Int32).toNatClampNeg (((upd (q15.2.1 6) (22 : Int32).toNatClampNeg (((q15.2.1 6) (22 : Int32).toNatClampNeg) ||| (q4.1 <<< ((V.2.1 10) &&& 31)))) (23 : Int32).toNatClampNeg) ||| (q15.1 <<< ((V.2.1 10) &&& 31))))) 13 ((q15.2.2.1 13) ||| ((1 : Int32) <<< (((upd (upd (q15.2.1 6) (22 : Int32).toNatClampNeg (((q15.2.1 6) (22 : Int32).toNatClampNeg) ||| (q4.1 <<< ((V.2.1 10) &&& 31)))) (23 : Int32).toNatClampNeg (((upd (q15.2.1 6) (22 : Int32).toNatClampNeg (((q15.2.1 6) (22 : Int32).toNatClampNeg) ||| (q4.1 <<< ((V.2.1 10) &&& 31)))) (23 : Int32).toNatClampNeg) ||| (q15.1 <<< ((V.2.1 10) &&& 31)))) (V.2.1 10).toNatClampNeg) &&& 31)))))) hx hb hts hin8 tyX8 tyX8_ok nmX8 hown hK hH 0 rfl rfl 13 (by decide) (hts (.fieldLink RX8 87 "CockWarModel" "readCells" "I") (List.mem_of_getElem? (i := 3) rfl)) (fun _ h9 => h9) rfl (by decide +kernel) rfl rfl (Nat.le_of_ble_eq_true rfl) rfl dX8_readCock_119 (fun H locs hH => ?_)
  refine lv_aload_n hx hb dX8_readCock_122 rfl (lv_at hl 3 rfl) ?_
  refine lv_dup hx hb dX8_readCock_123 rfl ?_
  refine kb_get (v := .int (q15.2.2.1 10)) hx hb hts hin8 hown hK hH 0 rfl rfl rfl 10 (by decide) (hts (.fieldLink RX8 78 "CockWarModel" "readCocks" "I") (List.mem_of_getElem? (i := 1) rfl)) (fun _ h9 => h9) rfl dX8_readCock_124 ?_
  refine lv_iconst (v := 1) hx hb dX8_readCock_127 (by decide) ?_
  refine lv_iadd hx hb dX8_readCock_128 ?_
  refine kb_put (ty := .int) (v := .int ((q15.2.2.1 10) + (1 : Int32))) (WS' := (w_O8 G g (oI (oI (oA q15.2 6 (upd (upd (q15.2.1 6) (22 : Int32).toNatClampNeg (((q15.2.1 6) (22 : Int32).toNatClampNeg) ||| (q4.1 <<< ((V.2.1 10) &&& 31)))) (23 : Int32).toNatClampNeg (((upd (q15.2.1 6) (22 : Int32).toNatClampNeg (((q15.2.1 6) (22 : Int32).toNatClampNeg) ||| (q4.1 <<< ((V.2.1 10) &&& 31)))) (23 : Int32).toNatClampNeg) ||| (q15.1 <<< ((V.2.1 10) &&& 31))))) 10 ((q15.2.2.1 10) + (1 : Int32))) 13 ((q15.2.2.1 13) ||| ((1 : Int32) <<< (((upd (upd (q15.2.1 6) (22 : Int32).toNatClampNeg (((q15.2.1 6) (22 : Int32).toNatClampNeg) ||| (q4.1 <<< ((V.2.1 10) &&& 31)))) (23 : Int32).toNatClampNeg (((upd (q15.2.1 6) (22 : Int32).toNatClampNeg (((q15.2.1 6) (22 : Int32).toNatClampNeg) ||| (q4.1 <<< ((V.2.1 10) &&& 31)))) (23 : Int32).toNatClampNeg) ||| (q15.1 <<< ((V.2.1 10) &&& 31)))) (V.2.1 10).toNatClampNeg) &&& 31)))))) hx hb hts hin8 tyX8 tyX8_ok nmX8 hown hK hH 0 rfl rfl 10 (by decide) (hts (.fieldLink RX8 78 "CockWarModel" "readCocks" "I") (List.mem_of_getElem? (i := 1) rfl)) (fun _ h9 => h9) rfl (by decide +kernel) rfl rfl (Nat.le_of_ble_eq_true rfl) rfl dX8_readCock_129 (fun H locs hH => ?_)
  subst hF
  exact kb_vret hx hb hr hH rfl dX8_readCock_132 hlocks
def f_X8_readPart (V : OV) (x0 : Int32) : (OV) := (if x0 = (84 : Int32) then (if (V.2.1 12) = (1023 : Int32) then (if x0 = (67 : Int32) then (if (6 : Int32) ≤ (V.2.1 10) then (if x0 = (87 : Int32) then (if (4 : Int32) ≤ (V.2.1 11) then (oI V 17 (V.2.1 16)) else (kAp (f_X8_figure (oI V 16 ((V.2.1 16) + (1 : Int32))) (0 : Int32) (1 : Int32)) (fun q7 => (kAp (f_X8_figure (oA q7.2 9 (upd (q7.2.1 9) ((3 : Int32) * (V.2.1 11)).toNatClampNeg q7.1)) (0 : Int32) (5 : Int32)) (fun q10 => (kAp (f_X8_figure (oA q10.2 9 (upd (q10.2.1 9) (((3 : Int32) * (q7.2.2.1 11)) + (1 : Int32)).toNatClampNeg q10.1)) (1 : Int32) (9 : Int32)) (fun q13 => (oI (oA q13.2 9 (upd (q13.2.1 9) (((3 : Int32) * (q10.2.2.1 11)) + (2 : Int32)).toNatClampNeg q13.1)) 11 ((q13.2.2.1 11) + (1 : Int32)))))))))) else (oI V 17 (V.2.1 16))) else (kAp (f_X8_readCock (oI V 16 ((V.2.1 16) + (1 : Int32)))) (fun q16 => q16))) else (if x0 = (87 : Int32) then (if (4 : Int32) ≤ (V.2.1 11) then (oI V 17 (V.2.1 16)) else (kAp (f_X8_figure (oI V 16 ((V.2.1 16) + (1 : Int32))) (0 : Int32) (1 : Int32)) (fun q20 => (kAp (f_X8_figure (oA q20.2 9 (upd (q20.2.1 9) ((3 : Int32) * (V.2.1 11)).toNatClampNeg q20.1)) (0 : Int32) (5 : Int32)) (fun q23 => (kAp (f_X8_figure (oA q23.2 9 (upd (q23.2.1 9) (((3 : Int32) * (q20.2.2.1 11)) + (1 : Int32)).toNatClampNeg q23.1)) (1 : Int32) (9 : Int32)) (fun q26 => (oI (oA q26.2 9 (upd (q26.2.1 9) (((3 : Int32) * (q23.2.2.1 11)) + (2 : Int32)).toNatClampNeg q26.1)) 11 ((q26.2.2.1 11) + (1 : Int32)))))))))) else (oI V 17 (V.2.1 16)))) else (kAp (f_X8_figureOf (oI V 16 ((V.2.1 16) + (1 : Int32))) ((1023 : Int32) &&& ((V.2.1 12) ^^^ (-1 : Int32)))) (fun q29 => (kAp (f_X8_figure q29.2 (1 : Int32) (3 : Int32)) (fun q31 => (kAp ((if (q31.2.2.1 17) = (-9 : Int32) then q31.1 else ((q31.2.1 6) ((12 : Int32) + q29.1).toNatClampNeg)) : Int32) (fun v35 => (if (q31.2.2.1 17) = (-9 : Int32) then (oI (oA q31.2 6 (upd (q31.2.1 6) ((12 : Int32) + q29.1).toNatClampNeg v35)) 12 ((q31.2.2.1 12) ||| ((1 : Int32) <<< (q29.1 &&& 31)))) else (oI (oA q31.2 6 (upd (q31.2.1 6) ((12 : Int32) + q29.1).toNatClampNeg v35)) 12 ((q31.2.2.1 12) ||| (0 : Int32))))))))))) else (if x0 = (67 : Int32) then (if (6 : Int32) ≤ (V.2.1 10) then (if x0 = (87 : Int32) then (if (4 : Int32) ≤ (V.2.1 11) then (oI V 17 (V.2.1 16)) else (kAp (f_X8_figure (oI V 16 ((V.2.1 16) + (1 : Int32))) (0 : Int32) (1 : Int32)) (fun q44 => (kAp (f_X8_figure (oA q44.2 9 (upd (q44.2.1 9) ((3 : Int32) * (V.2.1 11)).toNatClampNeg q44.1)) (0 : Int32) (5 : Int32)) (fun q47 => (kAp (f_X8_figure (oA q47.2 9 (upd (q47.2.1 9) (((3 : Int32) * (q44.2.2.1 11)) + (1 : Int32)).toNatClampNeg q47.1)) (1 : Int32) (9 : Int32)) (fun q50 => (oI (oA q50.2 9 (upd (q50.2.1 9) (((3 : Int32) * (q47.2.2.1 11)) + (2 : Int32)).toNatClampNeg q50.1)) 11 ((q50.2.2.1 11) + (1 : Int32)))))))))) else (oI V 17 (V.2.1 16))) else (kAp (f_X8_readCock (oI V 16 ((V.2.1 16) + (1 : Int32)))) (fun q53 => q53))) else (if x0 = (87 : Int32) then (if (4 : Int32) ≤ (V.2.1 11) then (oI V 17 (V.2.1 16)) else (kAp (f_X8_figure (oI V 16 ((V.2.1 16) + (1 : Int32))) (0 : Int32) (1 : Int32)) (fun q57 => (kAp (f_X8_figure (oA q57.2 9 (upd (q57.2.1 9) ((3 : Int32) * (V.2.1 11)).toNatClampNeg q57.1)) (0 : Int32) (5 : Int32)) (fun q60 => (kAp (f_X8_figure (oA q60.2 9 (upd (q60.2.1 9) (((3 : Int32) * (q57.2.2.1 11)) + (1 : Int32)).toNatClampNeg q60.1)) (1 : Int32) (9 : Int32)) (fun q63 => (oI (oA q63.2 9 (upd (q63.2.1 9) (((3 : Int32) * (q60.2.2.1 11)) + (2 : Int32)).toNatClampNeg q63.1)) 11 ((q63.2.2.1 11) + (1 : Int32)))))))))) else (oI V 17 (V.2.1 16)))))
def d_X8_readPart (V : OV) (x0 : Int32) : Prop := ((x0 = (84 : Int32) → (((V.2.1 12) = (1023 : Int32) → ((x0 = (67 : Int32) → (((6 : Int32) ≤ (V.2.1 10) → (x0 = (87 : Int32) → (¬ ((4 : Int32) ≤ (V.2.1 11)) → ((d_X8_figure (oI V 16 ((V.2.1 16) + (1 : Int32))) (0 : Int32) (1 : Int32)) ∧ (kAp (f_X8_figure (oI V 16 ((V.2.1 16) + (1 : Int32))) (0 : Int32) (1 : Int32)) (fun q7 => (vp_in ((3 : Int32) * (V.2.1 11)) 12 ∧ ((d_X8_figure (oA q7.2 9 (upd (q7.2.1 9) ((3 : Int32) * (V.2.1 11)).toNatClampNeg q7.1)) (0 : Int32) (5 : Int32)) ∧ (kAp (f_X8_figure (oA q7.2 9 (upd (q7.2.1 9) ((3 : Int32) * (V.2.1 11)).toNatClampNeg q7.1)) (0 : Int32) (5 : Int32)) (fun q10 => (vp_in (((3 : Int32) * (q7.2.2.1 11)) + (1 : Int32)) 12 ∧ ((d_X8_figure (oA q10.2 9 (upd (q10.2.1 9) (((3 : Int32) * (q7.2.2.1 11)) + (1 : Int32)).toNatClampNeg q10.1)) (1 : Int32) (9 : Int32)) ∧ (kAp (f_X8_figure (oA q10.2 9 (upd (q10.2.1 9) (((3 : Int32) * (q7.2.2.1 11)) + (1 : Int32)).toNatClampNeg q10.1)) (1 : Int32) (9 : Int32)) (fun q13 => vp_in (((3 : Int32) * (q10.2.2.1 11)) + (2 : Int32)) 12)))))))))))))) ∧ (¬ ((6 : Int32) ≤ (V.2.1 10)) → (d_X8_readCock (oI V 16 ((V.2.1 16) + (1 : Int32))))))) ∧ (¬ (x0 = (67 : Int32)) → (x0 = (87 : Int32) → (¬ ((4 : Int32) ≤ (V.2.1 11)) → ((d_X8_figure (oI V 16 ((V.2.1 16) + (1 : Int32))) (0 : Int32) (1 : Int32)) ∧ (kAp (f_X8_figure (oI V 16 ((V.2.1 16) + (1 : Int32))) (0 : Int32) (1 : Int32)) (fun q20 => (vp_in ((3 : Int32) * (V.2.1 11)) 12 ∧ ((d_X8_figure (oA q20.2 9 (upd (q20.2.1 9) ((3 : Int32) * (V.2.1 11)).toNatClampNeg q20.1)) (0 : Int32) (5 : Int32)) ∧ (kAp (f_X8_figure (oA q20.2 9 (upd (q20.2.1 9) ((3 : Int32) * (V.2.1 11)).toNatClampNeg q20.1)) (0 : Int32) (5 : Int32)) (fun q23 => (vp_in (((3 : Int32) * (q20.2.2.1 11)) + (1 : Int32)) 12 ∧ ((d_X8_figure (oA q23.2 9 (upd (q23.2.1 9) (((3 : Int32) * (q20.2.2.1 11)) + (1 : Int32)).toNatClampNeg q23.1)) (1 : Int32) (9 : Int32)) ∧ (kAp (f_X8_figure (oA q23.2 9 (upd (q23.2.1 9) (((3 : Int32) * (q20.2.2.1 11)) + (1 : Int32)).toNatClampNeg q23.1)) (1 : Int32) (9 : Int32)) (fun q26 => vp_in (((3 : Int32) * (q23.2.2.1 11)) + (2 : Int32)) 12)))))))))))))))) ∧ (¬ ((V.2.1 12) = (1023 : Int32)) → ((d_X8_figureOf (oI V 16 ((V.2.1 16) + (1 : Int32))) ((1023 : Int32) &&& ((V.2.1 12) ^^^ (-1 : Int32)))) ∧ (kAp (f_X8_figureOf (oI V 16 ((V.2.1 16) + (1 : Int32))) ((1023 : Int32) &&& ((V.2.1 12) ^^^ (-1 : Int32)))) (fun q29 => ((d_X8_figure q29.2 (1 : Int32) (3 : Int32)) ∧ (kAp (f_X8_figure q29.2 (1 : Int32) (3 : Int32)) (fun q31 => ((¬ ((q31.2.2.1 17) = (-9 : Int32)) → vp_in ((12 : Int32) + q29.1) 27) ∧ (kAp ((if (q31.2.2.1 17) = (-9 : Int32) then q31.1 else ((q31.2.1 6) ((12 : Int32) + q29.1).toNatClampNeg)) : Int32) (fun v35 => vp_in ((12 : Int32) + q29.1) 27)))))))))))) ∧ (¬ (x0 = (84 : Int32)) → ((x0 = (67 : Int32) → (((6 : Int32) ≤ (V.2.1 10) → (x0 = (87 : Int32) → (¬ ((4 : Int32) ≤ (V.2.1 11)) → ((d_X8_figure (oI V 16 ((V.2.1 16) + (1 : Int32))) (0 : Int32) (1 : Int32)) ∧ (kAp (f_X8_figure (oI V 16 ((V.2.1 16) + (1 : Int32))) (0 : Int32) (1 : Int32)) (fun q44 => (vp_in ((3 : Int32) * (V.2.1 11)) 12 ∧ ((d_X8_figure (oA q44.2 9 (upd (q44.2.1 9) ((3 : Int32) * (V.2.1 11)).toNatClampNeg q44.1)) (0 : Int32) (5 : Int32)) ∧ (kAp (f_X8_figure (oA q44.2 9 (upd (q44.2.1 9) ((3 : Int32) * (V.2.1 11)).toNatClampNeg q44.1)) (0 : Int32) (5 : Int32)) (fun q47 => (vp_in (((3 : Int32) * (q44.2.2.1 11)) + (1 : Int32)) 12 ∧ ((d_X8_figure (oA q47.2 9 (upd (q47.2.1 9) (((3 : Int32) * (q44.2.2.1 11)) + (1 : Int32)).toNatClampNeg q47.1)) (1 : Int32) (9 : Int32)) ∧ (kAp (f_X8_figure (oA q47.2 9 (upd (q47.2.1 9) (((3 : Int32) * (q44.2.2.1 11)) + (1 : Int32)).toNatClampNeg q47.1)) (1 : Int32) (9 : Int32)) (fun q50 => vp_in (((3 : Int32) * (q47.2.2.1 11)) + (2 : Int32)) 12)))))))))))))) ∧ (¬ ((6 : Int32) ≤ (V.2.1 10)) → (d_X8_readCock (oI V 16 ((V.2.1 16) + (1 : Int32))))))) ∧ (¬ (x0 = (67 : Int32)) → (x0 = (87 : Int32) → (¬ ((4 : Int32) ≤ (V.2.1 11)) → ((d_X8_figure (oI V 16 ((V.2.1 16) + (1 : Int32))) (0 : Int32) (1 : Int32)) ∧ (kAp (f_X8_figure (oI V 16 ((V.2.1 16) + (1 : Int32))) (0 : Int32) (1 : Int32)) (fun q57 => (vp_in ((3 : Int32) * (V.2.1 11)) 12 ∧ ((d_X8_figure (oA q57.2 9 (upd (q57.2.1 9) ((3 : Int32) * (V.2.1 11)).toNatClampNeg q57.1)) (0 : Int32) (5 : Int32)) ∧ (kAp (f_X8_figure (oA q57.2 9 (upd (q57.2.1 9) ((3 : Int32) * (V.2.1 11)).toNatClampNeg q57.1)) (0 : Int32) (5 : Int32)) (fun q60 => (vp_in (((3 : Int32) * (q57.2.2.1 11)) + (1 : Int32)) 12 ∧ ((d_X8_figure (oA q60.2 9 (upd (q60.2.1 9) (((3 : Int32) * (q57.2.2.1 11)) + (1 : Int32)).toNatClampNeg q60.1)) (1 : Int32) (9 : Int32)) ∧ (kAp (f_X8_figure (oA q60.2 9 (upd (q60.2.1 9) (((3 : Int32) * (q57.2.2.1 11)) + (1 : Int32)).toNatClampNeg q60.1)) (1 : Int32) (9 : Int32)) (fun q63 => vp_in (((3 : Int32) * (q60.2.2.1 11)) + (2 : Int32)) 12)))))))))))))))))
set_option maxHeartbeats 4000000 in
set_option maxRecDepth 100000 in
theorem c_X8_readPart (l : Launch) (G : Ge) (g : Nat → Nat) (V : OV) (x0 : Int32) (hD : d_X8_readPart V x0) {F : (OV)} (hF : f_X8_readPart V x0 = F) : CV l yX8_readPart wsX8_readPart { frames := 3, cells := 0, slots := 0, locals := 71 } [.ref (g 0), .int x0] G (w_O8 G g V) (w_O8 G g F) := by
  intro sz
  refine Met.ofW (cc := cX8_readPart) (maxL := 4) (ret := none) (by decide) rfl ?_
  intro p e s m args below meth c s₁ B hml hv
  obtain ⟨rfl, hpre⟩ := hv
  obtain ⟨hsz, hH, hK, hN, hA⟩ := kb_start hpre
  subst hsz
  have hx := B.exec
  have hb := B.bytes
  have hr := B.returns
  have hts := atoms_spec (ws := wsX8_readPart) B.pre
  have hown : s.vm.findClass RX8 = some m.cls := findClass_of_methodNamed B.named
  have hlocks := B.notSynchronized
  generalize hAe : va_A (List.flatten (w_O8 G g V)) s.heap.size = A at hH hA ⊢
  have hl := lv_entry ([.ref (g 0), .int x0]) (n := 4) (Nat.le_of_ble_eq_true rfl)
  rw [lg_entry_eq]
  generalize (lg_sl ([.ref (g 0), .int x0]) ++ List.replicate (4 - (lg_sl ([.ref (g 0), .int x0])).length) Slot.unset).toArray = ls at hl ⊢
  have hl : lv_has ls 4 [(0, .ref (g 0)), (1, .int x0)] := hl
  have hH : HP G A s.heap (w_O8 G g V) s.heap [] := hH
  have hin8 : ∀ w ∈ u_ws RX8 TX8 31, w ∈ wsX8_readPart := fun w h => List.mem_cons_of_mem _ (List.mem_append_right _ h)
  have hF : (if x0 = (84 : Int32) then (if (V.2.1 12) = (1023 : Int32) then (if x0 = (67 : Int32) then (if (6 : Int32) ≤ (V.2.1 10) then (if x0 = (87 : Int32) then (if (4 : Int32) ≤ (V.2.1 11) then (oI V 17 (V.2.1 16)) else (kAp (f_X8_figure (oI V 16 ((V.2.1 16) + (1 : Int32))) (0 : Int32) (1 : Int32)) (fun q7 => (kAp (f_X8_figure (oA q7.2 9 (upd (q7.2.1 9) ((3 : Int32) * (V.2.1 11)).toNatClampNeg q7.1)) (0 : Int32) (5 : Int32)) (fun q10 => (kAp (f_X8_figure (oA q10.2 9 (upd (q10.2.1 9) (((3 : Int32) * (q7.2.2.1 11)) + (1 : Int32)).toNatClampNeg q10.1)) (1 : Int32) (9 : Int32)) (fun q13 => (oI (oA q13.2 9 (upd (q13.2.1 9) (((3 : Int32) * (q10.2.2.1 11)) + (2 : Int32)).toNatClampNeg q13.1)) 11 ((q13.2.2.1 11) + (1 : Int32)))))))))) else (oI V 17 (V.2.1 16))) else (kAp (f_X8_readCock (oI V 16 ((V.2.1 16) + (1 : Int32)))) (fun q16 => q16))) else (if x0 = (87 : Int32) then (if (4 : Int32) ≤ (V.2.1 11) then (oI V 17 (V.2.1 16)) else (kAp (f_X8_figure (oI V 16 ((V.2.1 16) + (1 : Int32))) (0 : Int32) (1 : Int32)) (fun q20 => (kAp (f_X8_figure (oA q20.2 9 (upd (q20.2.1 9) ((3 : Int32) * (V.2.1 11)).toNatClampNeg q20.1)) (0 : Int32) (5 : Int32)) (fun q23 => (kAp (f_X8_figure (oA q23.2 9 (upd (q23.2.1 9) (((3 : Int32) * (q20.2.2.1 11)) + (1 : Int32)).toNatClampNeg q23.1)) (1 : Int32) (9 : Int32)) (fun q26 => (oI (oA q26.2 9 (upd (q26.2.1 9) (((3 : Int32) * (q23.2.2.1 11)) + (2 : Int32)).toNatClampNeg q26.1)) 11 ((q26.2.2.1 11) + (1 : Int32)))))))))) else (oI V 17 (V.2.1 16)))) else (kAp (f_X8_figureOf (oI V 16 ((V.2.1 16) + (1 : Int32))) ((1023 : Int32) &&& ((V.2.1 12) ^^^ (-1 : Int32)))) (fun q29 => (kAp (f_X8_figure q29.2 (1 : Int32) (3 : Int32)) (fun q31 => (kAp ((if (q31.2.2.1 17) = (-9 : Int32) then q31.1 else ((q31.2.1 6) ((12 : Int32) + q29.1).toNatClampNeg)) : Int32) (fun v35 => (if (q31.2.2.1 17) = (-9 : Int32) then (oI (oA q31.2 6 (upd (q31.2.1 6) ((12 : Int32) + q29.1).toNatClampNeg v35)) 12 ((q31.2.2.1 12) ||| ((1 : Int32) <<< (q29.1 &&& 31)))) else (oI (oA q31.2 6 (upd (q31.2.1 6) ((12 : Int32) + q29.1).toNatClampNeg v35)) 12 ((q31.2.2.1 12) ||| (0 : Int32))))))))))) else (if x0 = (67 : Int32) then (if (6 : Int32) ≤ (V.2.1 10) then (if x0 = (87 : Int32) then (if (4 : Int32) ≤ (V.2.1 11) then (oI V 17 (V.2.1 16)) else (kAp (f_X8_figure (oI V 16 ((V.2.1 16) + (1 : Int32))) (0 : Int32) (1 : Int32)) (fun q44 => (kAp (f_X8_figure (oA q44.2 9 (upd (q44.2.1 9) ((3 : Int32) * (V.2.1 11)).toNatClampNeg q44.1)) (0 : Int32) (5 : Int32)) (fun q47 => (kAp (f_X8_figure (oA q47.2 9 (upd (q47.2.1 9) (((3 : Int32) * (q44.2.2.1 11)) + (1 : Int32)).toNatClampNeg q47.1)) (1 : Int32) (9 : Int32)) (fun q50 => (oI (oA q50.2 9 (upd (q50.2.1 9) (((3 : Int32) * (q47.2.2.1 11)) + (2 : Int32)).toNatClampNeg q50.1)) 11 ((q50.2.2.1 11) + (1 : Int32)))))))))) else (oI V 17 (V.2.1 16))) else (kAp (f_X8_readCock (oI V 16 ((V.2.1 16) + (1 : Int32)))) (fun q53 => q53))) else (if x0 = (87 : Int32) then (if (4 : Int32) ≤ (V.2.1 11) then (oI V 17 (V.2.1 16)) else (kAp (f_X8_figure (oI V 16 ((V.2.1 16) + (1 : Int32))) (0 : Int32) (1 : Int32)) (fun q57 => (kAp (f_X8_figure (oA q57.2 9 (upd (q57.2.1 9) ((3 : Int32) * (V.2.1 11)).toNatClampNeg q57.1)) (0 : Int32) (5 : Int32)) (fun q60 => (kAp (f_X8_figure (oA q60.2 9 (upd (q60.2.1 9) (((3 : Int32) * (q57.2.2.1 11)) + (1 : Int32)).toNatClampNeg q60.1)) (1 : Int32) (9 : Int32)) (fun q63 => (oI (oA q63.2 9 (upd (q63.2.1 9) (((3 : Int32) * (q60.2.2.1 11)) + (2 : Int32)).toNatClampNeg q63.1)) 11 ((q63.2.2.1 11) + (1 : Int32)))))))))) else (oI V 17 (V.2.1 16))))) = F := hF
  have hD : ((x0 = (84 : Int32) → (((V.2.1 12) = (1023 : Int32) → ((x0 = (67 : Int32) → (((6 : Int32) ≤ (V.2.1 10) → (x0 = (87 : Int32) → (¬ ((4 : Int32) ≤ (V.2.1 11)) → ((d_X8_figure (oI V 16 ((V.2.1 16) + (1 : Int32))) (0 : Int32) (1 : Int32)) ∧ (kAp (f_X8_figure (oI V 16 ((V.2.1 16) + (1 : Int32))) (0 : Int32) (1 : Int32)) (fun q7 => (vp_in ((3 : Int32) * (V.2.1 11)) 12 ∧ ((d_X8_figure (oA q7.2 9 (upd (q7.2.1 9) ((3 : Int32) * (V.2.1 11)).toNatClampNeg q7.1)) (0 : Int32) (5 : Int32)) ∧ (kAp (f_X8_figure (oA q7.2 9 (upd (q7.2.1 9) ((3 : Int32) * (V.2.1 11)).toNatClampNeg q7.1)) (0 : Int32) (5 : Int32)) (fun q10 => (vp_in (((3 : Int32) * (q7.2.2.1 11)) + (1 : Int32)) 12 ∧ ((d_X8_figure (oA q10.2 9 (upd (q10.2.1 9) (((3 : Int32) * (q7.2.2.1 11)) + (1 : Int32)).toNatClampNeg q10.1)) (1 : Int32) (9 : Int32)) ∧ (kAp (f_X8_figure (oA q10.2 9 (upd (q10.2.1 9) (((3 : Int32) * (q7.2.2.1 11)) + (1 : Int32)).toNatClampNeg q10.1)) (1 : Int32) (9 : Int32)) (fun q13 => vp_in (((3 : Int32) * (q10.2.2.1 11)) + (2 : Int32)) 12)))))))))))))) ∧ (¬ ((6 : Int32) ≤ (V.2.1 10)) → (d_X8_readCock (oI V 16 ((V.2.1 16) + (1 : Int32))))))) ∧ (¬ (x0 = (67 : Int32)) → (x0 = (87 : Int32) → (¬ ((4 : Int32) ≤ (V.2.1 11)) → ((d_X8_figure (oI V 16 ((V.2.1 16) + (1 : Int32))) (0 : Int32) (1 : Int32)) ∧ (kAp (f_X8_figure (oI V 16 ((V.2.1 16) + (1 : Int32))) (0 : Int32) (1 : Int32)) (fun q20 => (vp_in ((3 : Int32) * (V.2.1 11)) 12 ∧ ((d_X8_figure (oA q20.2 9 (upd (q20.2.1 9) ((3 : Int32) * (V.2.1 11)).toNatClampNeg q20.1)) (0 : Int32) (5 : Int32)) ∧ (kAp (f_X8_figure (oA q20.2 9 (upd (q20.2.1 9) ((3 : Int32) * (V.2.1 11)).toNatClampNeg q20.1)) (0 : Int32) (5 : Int32)) (fun q23 => (vp_in (((3 : Int32) * (q20.2.2.1 11)) + (1 : Int32)) 12 ∧ ((d_X8_figure (oA q23.2 9 (upd (q23.2.1 9) (((3 : Int32) * (q20.2.2.1 11)) + (1 : Int32)).toNatClampNeg q23.1)) (1 : Int32) (9 : Int32)) ∧ (kAp (f_X8_figure (oA q23.2 9 (upd (q23.2.1 9) (((3 : Int32) * (q20.2.2.1 11)) + (1 : Int32)).toNatClampNeg q23.1)) (1 : Int32) (9 : Int32)) (fun q26 => vp_in (((3 : Int32) * (q23.2.2.1 11)) + (2 : Int32)) 12)))))))))))))))) ∧ (¬ ((V.2.1 12) = (1023 : Int32)) → ((d_X8_figureOf (oI V 16 ((V.2.1 16) + (1 : Int32))) ((1023 : Int32) &&& ((V.2.1 12) ^^^ (-1 : Int32)))) ∧ (kAp (f_X8_figureOf (oI V 16 ((V.2.1 16) + (1 : Int32))) ((1023 : Int32) &&& ((V.2.1 12) ^^^ (-1 : Int32)))) (fun q29 => ((d_X8_figure q29.2 (1 : Int32) (3 : Int32)) ∧ (kAp (f_X8_figure q29.2 (1 : Int32) (3 : Int32)) (fun q31 => ((¬ ((q31.2.2.1 17) = (-9 : Int32)) → vp_in ((12 : Int32) + q29.1) 27) ∧ (kAp ((if (q31.2.2.1 17) = (-9 : Int32) then q31.1 else ((q31.2.1 6) ((12 : Int32) + q29.1).toNatClampNeg)) : Int32) (fun v35 => vp_in ((12 : Int32) + q29.1) 27)))))))))))) ∧ (¬ (x0 = (84 : Int32)) → ((x0 = (67 : Int32) → (((6 : Int32) ≤ (V.2.1 10) → (x0 = (87 : Int32) → (¬ ((4 : Int32) ≤ (V.2.1 11)) → ((d_X8_figure (oI V 16 ((V.2.1 16) + (1 : Int32))) (0 : Int32) (1 : Int32)) ∧ (kAp (f_X8_figure (oI V 16 ((V.2.1 16) + (1 : Int32))) (0 : Int32) (1 : Int32)) (fun q44 => (vp_in ((3 : Int32) * (V.2.1 11)) 12 ∧ ((d_X8_figure (oA q44.2 9 (upd (q44.2.1 9) ((3 : Int32) * (V.2.1 11)).toNatClampNeg q44.1)) (0 : Int32) (5 : Int32)) ∧ (kAp (f_X8_figure (oA q44.2 9 (upd (q44.2.1 9) ((3 : Int32) * (V.2.1 11)).toNatClampNeg q44.1)) (0 : Int32) (5 : Int32)) (fun q47 => (vp_in (((3 : Int32) * (q44.2.2.1 11)) + (1 : Int32)) 12 ∧ ((d_X8_figure (oA q47.2 9 (upd (q47.2.1 9) (((3 : Int32) * (q44.2.2.1 11)) + (1 : Int32)).toNatClampNeg q47.1)) (1 : Int32) (9 : Int32)) ∧ (kAp (f_X8_figure (oA q47.2 9 (upd (q47.2.1 9) (((3 : Int32) * (q44.2.2.1 11)) + (1 : Int32)).toNatClampNeg q47.1)) (1 : Int32) (9 : Int32)) (fun q50 => vp_in (((3 : Int32) * (q47.2.2.1 11)) + (2 : Int32)) 12)))))))))))))) ∧ (¬ ((6 : Int32) ≤ (V.2.1 10)) → (d_X8_readCock (oI V 16 ((V.2.1 16) + (1 : Int32))))))) ∧ (¬ (x0 = (67 : Int32)) → (x0 = (87 : Int32) → (¬ ((4 : Int32) ≤ (V.2.1 11)) → ((d_X8_figure (oI V 16 ((V.2.1 16) + (1 : Int32))) (0 : Int32) (1 : Int32)) ∧ (kAp (f_X8_figure (oI V 16 ((V.2.1 16) + (1 : Int32))) (0 : Int32) (1 : Int32)) (fun q57 => (vp_in ((3 : Int32) * (V.2.1 11)) 12 ∧ ((d_X8_figure (oA q57.2 9 (upd (q57.2.1 9) ((3 : Int32) * (V.2.1 11)).toNatClampNeg q57.1)) (0 : Int32) (5 : Int32)) ∧ (kAp (f_X8_figure (oA q57.2 9 (upd (q57.2.1 9) ((3 : Int32) * (V.2.1 11)).toNatClampNeg q57.1)) (0 : Int32) (5 : Int32)) (fun q60 => (vp_in (((3 : Int32) * (q57.2.2.1 11)) + (1 : Int32)) 12 ∧ ((d_X8_figure (oA q60.2 9 (upd (q60.2.1 9) (((3 : Int32) * (q57.2.2.1 11)) + (1 : Int32)).toNatClampNeg q60.1)) (1 : Int32) (9 : Int32)) ∧ (kAp (f_X8_figure (oA q60.2 9 (upd (q60.2.1 9) (((3 : Int32) * (q57.2.2.1 11)) + (1 : Int32)).toNatClampNeg q60.1)) (1 : Int32) (9 : Int32)) (fun q63 => vp_in (((3 : Int32) * (q60.2.2.1 11)) + (2 : Int32)) 12))))))))))))))))) := hD
  refine lv_iload_n hx hb dX8_readPart_0 rfl (lv_at hl 1 rfl) ?_
  refine lv_bipush (v := 84) hx hb dX8_readPart_1 (by decide) ?_
  refine lv_icmp_ne (tgt := 107) hx hb dX8_readPart_3 (by decide) (fun c1 => ?_) (fun c1 => ?_)
  · have hD := hD.2 c1
    rw [if_neg c1] at hF
    refine lv_iload_n hx hb dX8_readPart_107 rfl (lv_at hl 1 rfl) ?_
    refine lv_bipush (v := 67) hx hb dX8_readPart_108 (by decide) ?_
    refine lv_icmp_ne (tgt := 139) hx hb dX8_readPart_110 (by decide) (fun c40 => ?_) (fun c40 => ?_)
    · have hD := hD.2 c40
      rw [if_neg c40] at hF
      refine lv_iload_n hx hb dX8_readPart_139 rfl (lv_at hl 1 rfl) ?_
      refine lv_bipush (v := 87) hx hb dX8_readPart_140 (by decide) ?_
      refine lv_icmp_ne (tgt := 232) hx hb dX8_readPart_142 (by decide) (fun c55 => ?_) (fun c55 => ?_)
      · rw [if_neg c55] at hF
        refine lv_aload_n hx hb dX8_readPart_232 rfl (lv_at hl 0 rfl) ?_
        refine lv_aload_n hx hb dX8_readPart_233 rfl (lv_at hl 0 rfl) ?_
        refine kb_get (v := .int (V.2.1 16)) hx hb hts hin8 hown hK hH 0 rfl rfl rfl 16 (by decide) (hts (.fieldLink RX8 69 "CockWarModel" "at" "I") (List.mem_of_getElem? (i := 2) rfl)) (fun _ h9 => h9) rfl dX8_readPart_234 ?_
        refine kb_put (ty := .int) (v := .int (V.2.1 16)) (WS' := (w_O8 G g (oI V 17 (V.2.1 16)))) hx hb hts hin8 tyX8 tyX8_ok nmX8 hown hK hH 0 rfl rfl 17 (by decide) (hts (.fieldLink RX8 66 "CockWarModel" "faultAt" "I") (List.mem_of_getElem? (i := 4) rfl)) (fun _ h9 => h9) rfl (by decide +kernel) rfl rfl (Nat.le_of_ble_eq_true rfl) rfl dX8_readPart_237 (fun H locs hH => ?_)
        subst hF
        exact kb_vret hx hb hr hH rfl dX8_readPart_240 hlocks
      · have hD := hD c55
        rw [if_pos c55] at hF
        refine lv_aload_n hx hb dX8_readPart_145 rfl (lv_at hl 0 rfl) ?_
        refine kb_get (v := .int (V.2.1 11)) hx hb hts hin8 hown hK hH 0 rfl rfl rfl 11 (by decide) (hts (.fieldLink RX8 81 "CockWarModel" "readWinds" "I") (List.mem_of_getElem? (i := 6) rfl)) (fun _ h9 => h9) rfl dX8_readPart_146 ?_
        refine lv_iconst (v := 4) hx hb dX8_readPart_149 (by decide) ?_
        refine lv_icmp_ge (tgt := 232) hx hb dX8_readPart_150 (by decide) (fun c56 => ?_) (fun c56 => ?_)
        · rw [if_pos c56] at hF
          refine lv_aload_n hx hb dX8_readPart_232 rfl (lv_at hl 0 rfl) ?_
          refine lv_aload_n hx hb dX8_readPart_233 rfl (lv_at hl 0 rfl) ?_
          refine kb_get (v := .int (V.2.1 16)) hx hb hts hin8 hown hK hH 0 rfl rfl rfl 16 (by decide) (hts (.fieldLink RX8 69 "CockWarModel" "at" "I") (List.mem_of_getElem? (i := 2) rfl)) (fun _ h9 => h9) rfl dX8_readPart_234 ?_
          refine kb_put (ty := .int) (v := .int (V.2.1 16)) (WS' := (w_O8 G g (oI V 17 (V.2.1 16)))) hx hb hts hin8 tyX8 tyX8_ok nmX8 hown hK hH 0 rfl rfl 17 (by decide) (hts (.fieldLink RX8 66 "CockWarModel" "faultAt" "I") (List.mem_of_getElem? (i := 4) rfl)) (fun _ h9 => h9) rfl (by decide +kernel) rfl rfl (Nat.le_of_ble_eq_true rfl) rfl dX8_readPart_237 (fun H locs hH => ?_)
          subst hF
          exact kb_vret hx hb hr hH rfl dX8_readPart_240 hlocks
        · have hD := hD c56
          rw [if_neg c56] at hF
          refine lv_aload_n hx hb dX8_readPart_153 rfl (lv_at hl 0 rfl) ?_
          refine lv_dup hx hb dX8_readPart_154 rfl ?_
          refine kb_get (v := .int (V.2.1 16)) hx hb hts hin8 hown hK hH 0 rfl rfl rfl 16 (by decide) (hts (.fieldLink RX8 69 "CockWarModel" "at" "I") (List.mem_of_getElem? (i := 2) rfl)) (fun _ h9 => h9) rfl dX8_readPart_155 ?_
          refine lv_iconst (v := 1) hx hb dX8_readPart_158 (by decide) ?_
          refine lv_iadd hx hb dX8_readPart_159 ?_
          refine kb_put (ty := .int) (v := .int ((V.2.1 16) + (1 : Int32))) (WS' := (w_O8 G g (oI V 16 ((V.2.1 16) + (1 : Int32))))) hx hb hts hin8 tyX8 tyX8_ok nmX8 hown hK hH 0 rfl rfl 16 (by decide) (hts (.fieldLink RX8 69 "CockWarModel" "at" "I") (List.mem_of_getElem? (i := 2) rfl)) (fun _ h9 => h9) rfl (by decide +kernel) rfl rfl (Nat.le_of_ble_eq_true rfl) rfl dX8_readPart_160 (fun H locs hH => ?_)
          refine lv_aload_n hx hb dX8_readPart_163 rfl (lv_at hl 0 rfl) ?_
          refine kb_get (v := .ref (g 10)) hx hb hts hin8 hown hK hH 0 rfl rfl rfl 9 (by decide) (hts (.fieldLink RX8 31 "CockWarModel" "readWind" "[I") (List.mem_of_getElem? (i := 7) rfl)) (fun _ h9 => h9) rfl dX8_readPart_164 ?_
          refine lv_iconst (v := 3) hx hb dX8_readPart_167 (by decide) ?_
          refine lv_aload_n hx hb dX8_readPart_168 rfl (lv_at hl 0 rfl) ?_
          refine kb_get (v := .int (V.2.1 11)) hx hb hts hin8 hown hK hH 0 rfl rfl rfl 11 (by decide) (hts (.fieldLink RX8 81 "CockWarModel" "readWinds" "I") (List.mem_of_getElem? (i := 6) rfl)) (fun _ h9 => h9) rfl dX8_readPart_169 ?_
          refine lv_imul hx hb dX8_readPart_172 ?_
          refine lv_aload_n hx hb dX8_readPart_173 rfl (lv_at hl 0 rfl) ?_
          refine lv_iconst (v := 0) hx hb dX8_readPart_174 (by decide) ?_
          refine lv_iconst (v := 1) hx hb dX8_readPart_175 (by decide) ?_
          obtain ⟨hz58, hD⟩ := hD
          obtain ⟨q57, hq57⟩ : ∃ z, z = (f_X8_figure (oI V 16 ((V.2.1 16) + (1 : Int32))) (0 : Int32) (1 : Int32)) := ⟨_, rfl⟩
          have hF := kAp_eq hF hq57
          have hD := kAp_D hD hq57
          refine kb_ci hH hA [0, 1, 2, 3, 4, 5, 6, 7, 8, 9, 10, 11, 12, 13, 14] (Wc := (w_O8 G g (oI V 16 ((V.2.1 16) + (1 : Int32))))) (Wc' := (w_O8 G g q57.2)) (WS' := (w_O8 G g q57.2)) rfl (by decide) rfl rfl (va_runV (As := [.int (0 : Int32), .int (1 : Int32)]) (rest := [.int ((3 : Int32) * (V.2.1 11)), .ref (g 10)]) ⟨hx, hb, hml, hown, hts⟩ (c_X8_figure l G g (oI V 16 ((V.2.1 16) + (1 : Int32))) (0 : Int32) (1 : Int32) hz58 hq57.symm _) (cwV 2 hts gX8_readPart_X8_figure rfl rfl rfl he_X8_figure ⟨Nat.le_of_ble_eq_true rfl, Nat.le_of_ble_eq_true rfl⟩) (kb_preV hH hK hN [0, 1, 2, 3, 4, 5, 6, 7, 8, 9, 10, 11, 12, 13, 14] rfl (by decide) 0 rfl rfl rfl rfl) rfl rfl hl.1 rfl (lv_room (Nat.le_of_ble_eq_true rfl)) dX8_readPart_176 ⟨Nat.le_of_ble_eq_true rfl, Nat.le_of_ble_eq_true rfl⟩) (fun H locs hH => ?_)
          obtain ⟨hz59, hD⟩ := hD
          refine kb_iast (WS' := (w_O8 G g (oA q57.2 9 (upd (q57.2.1 9) ((3 : Int32) * (V.2.1 11)).toNatClampNeg q57.1)))) hx hb hK hH 8 rfl hz59 rfl dX8_readPart_179 (fun H locs hH => ?_)
          refine lv_aload_n hx hb dX8_readPart_180 rfl (lv_at hl 0 rfl) ?_
          refine kb_get (v := .ref (g 10)) hx hb hts hin8 hown hK hH 0 rfl rfl rfl 9 (by decide) (hts (.fieldLink RX8 31 "CockWarModel" "readWind" "[I") (List.mem_of_getElem? (i := 7) rfl)) (fun _ h9 => h9) rfl dX8_readPart_181 ?_
          refine lv_iconst (v := 3) hx hb dX8_readPart_184 (by decide) ?_
          refine lv_aload_n hx hb dX8_readPart_185 rfl (lv_at hl 0 rfl) ?_
          refine kb_get (v := .int (q57.2.2.1 11)) hx hb hts hin8 hown hK hH 0 rfl rfl rfl 11 (by decide) (hts (.fieldLink RX8 81 "CockWarModel" "readWinds" "I") (List.mem_of_getElem? (i := 6) rfl)) (fun _ h9 => h9) rfl dX8_readPart_186 ?_
          refine lv_imul hx hb dX8_readPart_189 ?_
          refine lv_iconst (v := 1) hx hb dX8_readPart_190 (by decide) ?_
          refine lv_iadd hx hb dX8_readPart_191 ?_
          refine lv_aload_n hx hb dX8_readPart_192 rfl (lv_at hl 0 rfl) ?_
          refine lv_iconst (v := 0) hx hb dX8_readPart_193 (by decide) ?_
          refine lv_iconst (v := 5) hx hb dX8_readPart_194 (by decide) ?_
          obtain ⟨hz61, hD⟩ := hD
          obtain ⟨q60, hq60⟩ : ∃ z, z = (f_X8_figure (oA q57.2 9 (upd (q57.2.1 9) ((3 : Int32) * (V.2.1 11)).toNatClampNeg q57.1)) (0 : Int32) (5 : Int32)) := ⟨_, rfl⟩
          have hF := kAp_eq hF hq60
          have hD := kAp_D hD hq60
          refine kb_ci hH hA [0, 1, 2, 3, 4, 5, 6, 7, 8, 9, 10, 11, 12, 13, 14] (Wc := (w_O8 G g (oA q57.2 9 (upd (q57.2.1 9) ((3 : Int32) * (V.2.1 11)).toNatClampNeg q57.1)))) (Wc' := (w_O8 G g q60.2)) (WS' := (w_O8 G g q60.2)) rfl (by decide) rfl rfl (va_runV (As := [.int (0 : Int32), .int (5 : Int32)]) (rest := [.int (((3 : Int32) * (q57.2.2.1 11)) + (1 : Int32)), .ref (g 10)]) ⟨hx, hb, hml, hown, hts⟩ (c_X8_figure l G g (oA q57.2 9 (upd (q57.2.1 9) ((3 : Int32) * (V.2.1 11)).toNatClampNeg q57.1)) (0 : Int32) (5 : Int32) hz61 hq60.symm _) (cwV 2 hts gX8_readPart_X8_figure rfl rfl rfl he_X8_figure ⟨Nat.le_of_ble_eq_true rfl, Nat.le_of_ble_eq_true rfl⟩) (kb_preV hH hK hN [0, 1, 2, 3, 4, 5, 6, 7, 8, 9, 10, 11, 12, 13, 14] rfl (by decide) 0 rfl rfl rfl rfl) rfl rfl hl.1 rfl (lv_room (Nat.le_of_ble_eq_true rfl)) dX8_readPart_195 ⟨Nat.le_of_ble_eq_true rfl, Nat.le_of_ble_eq_true rfl⟩) (fun H locs hH => ?_)
          obtain ⟨hz62, hD⟩ := hD
          refine kb_iast (WS' := (w_O8 G g (oA q60.2 9 (upd (q60.2.1 9) (((3 : Int32) * (q57.2.2.1 11)) + (1 : Int32)).toNatClampNeg q60.1)))) hx hb hK hH 8 rfl hz62 rfl dX8_readPart_198 (fun H locs hH => ?_)
          refine lv_aload_n hx hb dX8_readPart_199 rfl (lv_at hl 0 rfl) ?_
          refine kb_get (v := .ref (g 10)) hx hb hts hin8 hown hK hH 0 rfl rfl rfl 9 (by decide) (hts (.fieldLink RX8 31 "CockWarModel" "readWind" "[I") (List.mem_of_getElem? (i := 7) rfl)) (fun _ h9 => h9) rfl dX8_readPart_200 ?_
          refine lv_iconst (v := 3) hx hb dX8_readPart_203 (by decide) ?_
          refine lv_aload_n hx hb dX8_readPart_204 rfl (lv_at hl 0 rfl) ?_
          refine kb_get (v := .int (q60.2.2.1 11)) hx hb hts hin8 hown hK hH 0 rfl rfl rfl 11 (by decide) (hts (.fieldLink RX8 81 "CockWarModel" "readWinds" "I") (List.mem_of_getElem? (i := 6) rfl)) (fun _ h9 => h9) rfl dX8_readPart_205 ?_
          refine lv_imul hx hb dX8_readPart_208 ?_
          refine lv_iconst (v := 2) hx hb dX8_readPart_209 (by decide) ?_
          refine lv_iadd hx hb dX8_readPart_210 ?_
          refine lv_aload_n hx hb dX8_readPart_211 rfl (lv_at hl 0 rfl) ?_
          refine lv_iconst (v := 1) hx hb dX8_readPart_212 (by decide) ?_
          refine lv_bipush (v := 9) hx hb dX8_readPart_213 (by decide) ?_
          obtain ⟨hz64, hD⟩ := hD
          obtain ⟨q63, hq63⟩ : ∃ z, z = (f_X8_figure (oA q60.2 9 (upd (q60.2.1 9) (((3 : Int32) * (q57.2.2.1 11)) + (1 : Int32)).toNatClampNeg q60.1)) (1 : Int32) (9 : Int32)) := ⟨_, rfl⟩
          have hF := kAp_eq hF hq63
          have hD := kAp_D hD hq63
          refine kb_ci hH hA [0, 1, 2, 3, 4, 5, 6, 7, 8, 9, 10, 11, 12, 13, 14] (Wc := (w_O8 G g (oA q60.2 9 (upd (q60.2.1 9) (((3 : Int32) * (q57.2.2.1 11)) + (1 : Int32)).toNatClampNeg q60.1)))) (Wc' := (w_O8 G g q63.2)) (WS' := (w_O8 G g q63.2)) rfl (by decide) rfl rfl (va_runV (As := [.int (1 : Int32), .int (9 : Int32)]) (rest := [.int (((3 : Int32) * (q60.2.2.1 11)) + (2 : Int32)), .ref (g 10)]) ⟨hx, hb, hml, hown, hts⟩ (c_X8_figure l G g (oA q60.2 9 (upd (q60.2.1 9) (((3 : Int32) * (q57.2.2.1 11)) + (1 : Int32)).toNatClampNeg q60.1)) (1 : Int32) (9 : Int32) hz64 hq63.symm _) (cwV 2 hts gX8_readPart_X8_figure rfl rfl rfl he_X8_figure ⟨Nat.le_of_ble_eq_true rfl, Nat.le_of_ble_eq_true rfl⟩) (kb_preV hH hK hN [0, 1, 2, 3, 4, 5, 6, 7, 8, 9, 10, 11, 12, 13, 14] rfl (by decide) 0 rfl rfl rfl rfl) rfl rfl hl.1 rfl (lv_room (Nat.le_of_ble_eq_true rfl)) dX8_readPart_215 ⟨Nat.le_of_ble_eq_true rfl, Nat.le_of_ble_eq_true rfl⟩) (fun H locs hH => ?_)
          have hz65 := hD
          refine kb_iast (WS' := (w_O8 G g (oA q63.2 9 (upd (q63.2.1 9) (((3 : Int32) * (q60.2.2.1 11)) + (2 : Int32)).toNatClampNeg q63.1)))) hx hb hK hH 8 rfl hz65 rfl dX8_readPart_218 (fun H locs hH => ?_)
          refine lv_aload_n hx hb dX8_readPart_219 rfl (lv_at hl 0 rfl) ?_
          refine lv_dup hx hb dX8_readPart_220 rfl ?_
          refine kb_get (v := .int (q63.2.2.1 11)) hx hb hts hin8 hown hK hH 0 rfl rfl rfl 11 (by decide) (hts (.fieldLink RX8 81 "CockWarModel" "readWinds" "I") (List.mem_of_getElem? (i := 6) rfl)) (fun _ h9 => h9) rfl dX8_readPart_221 ?_
          refine lv_iconst (v := 1) hx hb dX8_readPart_224 (by decide) ?_
          refine lv_iadd hx hb dX8_readPart_225 ?_
          refine kb_put (ty := .int) (v := .int ((q63.2.2.1 11) + (1 : Int32))) (WS' := (w_O8 G g (oI (oA q63.2 9 (upd (q63.2.1 9) (((3 : Int32) * (q60.2.2.1 11)) + (2 : Int32)).toNatClampNeg q63.1)) 11 ((q63.2.2.1 11) + (1 : Int32))))) hx hb hts hin8 tyX8 tyX8_ok nmX8 hown hK hH 0 rfl rfl 11 (by decide) (hts (.fieldLink RX8 81 "CockWarModel" "readWinds" "I") (List.mem_of_getElem? (i := 6) rfl)) (fun _ h9 => h9) rfl (by decide +kernel) rfl rfl (Nat.le_of_ble_eq_true rfl) rfl dX8_readPart_226 (fun H locs hH => ?_)
          refine lv_goto (tgt := 240) hx hb dX8_readPart_229 (by decide) ?_
          subst hF
          exact kb_vret hx hb hr hH rfl dX8_readPart_240 hlocks
    · have hD := hD.1 c40
      rw [if_pos c40] at hF
      refine lv_aload_n hx hb dX8_readPart_113 rfl (lv_at hl 0 rfl) ?_
      refine kb_get (v := .int (V.2.1 10)) hx hb hts hin8 hown hK hH 0 rfl rfl rfl 10 (by decide) (hts (.fieldLink RX8 78 "CockWarModel" "readCocks" "I") (List.mem_of_getElem? (i := 5) rfl)) (fun _ h9 => h9) rfl dX8_readPart_114 ?_
      refine lv_bipush (v := 6) hx hb dX8_readPart_117 (by decide) ?_
      refine lv_icmp_ge (tgt := 139) hx hb dX8_readPart_119 (by decide) (fun c41 => ?_) (fun c41 => ?_)
      · have hD := hD.1 c41
        rw [if_pos c41] at hF
        refine lv_iload_n hx hb dX8_readPart_139 rfl (lv_at hl 1 rfl) ?_
        refine lv_bipush (v := 87) hx hb dX8_readPart_140 (by decide) ?_
        refine lv_icmp_ne (tgt := 232) hx hb dX8_readPart_142 (by decide) (fun c42 => ?_) (fun c42 => ?_)
        · rw [if_neg c42] at hF
          refine lv_aload_n hx hb dX8_readPart_232 rfl (lv_at hl 0 rfl) ?_
          refine lv_aload_n hx hb dX8_readPart_233 rfl (lv_at hl 0 rfl) ?_
          refine kb_get (v := .int (V.2.1 16)) hx hb hts hin8 hown hK hH 0 rfl rfl rfl 16 (by decide) (hts (.fieldLink RX8 69 "CockWarModel" "at" "I") (List.mem_of_getElem? (i := 2) rfl)) (fun _ h9 => h9) rfl dX8_readPart_234 ?_
          refine kb_put (ty := .int) (v := .int (V.2.1 16)) (WS' := (w_O8 G g (oI V 17 (V.2.1 16)))) hx hb hts hin8 tyX8 tyX8_ok nmX8 hown hK hH 0 rfl rfl 17 (by decide) (hts (.fieldLink RX8 66 "CockWarModel" "faultAt" "I") (List.mem_of_getElem? (i := 4) rfl)) (fun _ h9 => h9) rfl (by decide +kernel) rfl rfl (Nat.le_of_ble_eq_true rfl) rfl dX8_readPart_237 (fun H locs hH => ?_)
          subst hF
          exact kb_vret hx hb hr hH rfl dX8_readPart_240 hlocks
        · have hD := hD c42
          rw [if_pos c42] at hF
          refine lv_aload_n hx hb dX8_readPart_145 rfl (lv_at hl 0 rfl) ?_
          refine kb_get (v := .int (V.2.1 11)) hx hb hts hin8 hown hK hH 0 rfl rfl rfl 11 (by decide) (hts (.fieldLink RX8 81 "CockWarModel" "readWinds" "I") (List.mem_of_getElem? (i := 6) rfl)) (fun _ h9 => h9) rfl dX8_readPart_146 ?_
          refine lv_iconst (v := 4) hx hb dX8_readPart_149 (by decide) ?_
          refine lv_icmp_ge (tgt := 232) hx hb dX8_readPart_150 (by decide) (fun c43 => ?_) (fun c43 => ?_)
          · rw [if_pos c43] at hF
            refine lv_aload_n hx hb dX8_readPart_232 rfl (lv_at hl 0 rfl) ?_
            refine lv_aload_n hx hb dX8_readPart_233 rfl (lv_at hl 0 rfl) ?_
            refine kb_get (v := .int (V.2.1 16)) hx hb hts hin8 hown hK hH 0 rfl rfl rfl 16 (by decide) (hts (.fieldLink RX8 69 "CockWarModel" "at" "I") (List.mem_of_getElem? (i := 2) rfl)) (fun _ h9 => h9) rfl dX8_readPart_234 ?_
            refine kb_put (ty := .int) (v := .int (V.2.1 16)) (WS' := (w_O8 G g (oI V 17 (V.2.1 16)))) hx hb hts hin8 tyX8 tyX8_ok nmX8 hown hK hH 0 rfl rfl 17 (by decide) (hts (.fieldLink RX8 66 "CockWarModel" "faultAt" "I") (List.mem_of_getElem? (i := 4) rfl)) (fun _ h9 => h9) rfl (by decide +kernel) rfl rfl (Nat.le_of_ble_eq_true rfl) rfl dX8_readPart_237 (fun H locs hH => ?_)
            subst hF
            exact kb_vret hx hb hr hH rfl dX8_readPart_240 hlocks
          · have hD := hD c43
            rw [if_neg c43] at hF
            refine lv_aload_n hx hb dX8_readPart_153 rfl (lv_at hl 0 rfl) ?_
            refine lv_dup hx hb dX8_readPart_154 rfl ?_
            refine kb_get (v := .int (V.2.1 16)) hx hb hts hin8 hown hK hH 0 rfl rfl rfl 16 (by decide) (hts (.fieldLink RX8 69 "CockWarModel" "at" "I") (List.mem_of_getElem? (i := 2) rfl)) (fun _ h9 => h9) rfl dX8_readPart_155 ?_
            refine lv_iconst (v := 1) hx hb dX8_readPart_158 (by decide) ?_
            refine lv_iadd hx hb dX8_readPart_159 ?_
            refine kb_put (ty := .int) (v := .int ((V.2.1 16) + (1 : Int32))) (WS' := (w_O8 G g (oI V 16 ((V.2.1 16) + (1 : Int32))))) hx hb hts hin8 tyX8 tyX8_ok nmX8 hown hK hH 0 rfl rfl 16 (by decide) (hts (.fieldLink RX8 69 "CockWarModel" "at" "I") (List.mem_of_getElem? (i := 2) rfl)) (fun _ h9 => h9) rfl (by decide +kernel) rfl rfl (Nat.le_of_ble_eq_true rfl) rfl dX8_readPart_160 (fun H locs hH => ?_)
            refine lv_aload_n hx hb dX8_readPart_163 rfl (lv_at hl 0 rfl) ?_
            refine kb_get (v := .ref (g 10)) hx hb hts hin8 hown hK hH 0 rfl rfl rfl 9 (by decide) (hts (.fieldLink RX8 31 "CockWarModel" "readWind" "[I") (List.mem_of_getElem? (i := 7) rfl)) (fun _ h9 => h9) rfl dX8_readPart_164 ?_
            refine lv_iconst (v := 3) hx hb dX8_readPart_167 (by decide) ?_
            refine lv_aload_n hx hb dX8_readPart_168 rfl (lv_at hl 0 rfl) ?_
            refine kb_get (v := .int (V.2.1 11)) hx hb hts hin8 hown hK hH 0 rfl rfl rfl 11 (by decide) (hts (.fieldLink RX8 81 "CockWarModel" "readWinds" "I") (List.mem_of_getElem? (i := 6) rfl)) (fun _ h9 => h9) rfl dX8_readPart_169 ?_
            refine lv_imul hx hb dX8_readPart_172 ?_
            refine lv_aload_n hx hb dX8_readPart_173 rfl (lv_at hl 0 rfl) ?_
            refine lv_iconst (v := 0) hx hb dX8_readPart_174 (by decide) ?_
            refine lv_iconst (v := 1) hx hb dX8_readPart_175 (by decide) ?_
            obtain ⟨hz45, hD⟩ := hD
            obtain ⟨q44, hq44⟩ : ∃ z, z = (f_X8_figure (oI V 16 ((V.2.1 16) + (1 : Int32))) (0 : Int32) (1 : Int32)) := ⟨_, rfl⟩
            have hF := kAp_eq hF hq44
            have hD := kAp_D hD hq44
            refine kb_ci hH hA [0, 1, 2, 3, 4, 5, 6, 7, 8, 9, 10, 11, 12, 13, 14] (Wc := (w_O8 G g (oI V 16 ((V.2.1 16) + (1 : Int32))))) (Wc' := (w_O8 G g q44.2)) (WS' := (w_O8 G g q44.2)) rfl (by decide) rfl rfl (va_runV (As := [.int (0 : Int32), .int (1 : Int32)]) (rest := [.int ((3 : Int32) * (V.2.1 11)), .ref (g 10)]) ⟨hx, hb, hml, hown, hts⟩ (c_X8_figure l G g (oI V 16 ((V.2.1 16) + (1 : Int32))) (0 : Int32) (1 : Int32) hz45 hq44.symm _) (cwV 2 hts gX8_readPart_X8_figure rfl rfl rfl he_X8_figure ⟨Nat.le_of_ble_eq_true rfl, Nat.le_of_ble_eq_true rfl⟩) (kb_preV hH hK hN [0, 1, 2, 3, 4, 5, 6, 7, 8, 9, 10, 11, 12, 13, 14] rfl (by decide) 0 rfl rfl rfl rfl) rfl rfl hl.1 rfl (lv_room (Nat.le_of_ble_eq_true rfl)) dX8_readPart_176 ⟨Nat.le_of_ble_eq_true rfl, Nat.le_of_ble_eq_true rfl⟩) (fun H locs hH => ?_)
            obtain ⟨hz46, hD⟩ := hD
            refine kb_iast (WS' := (w_O8 G g (oA q44.2 9 (upd (q44.2.1 9) ((3 : Int32) * (V.2.1 11)).toNatClampNeg q44.1)))) hx hb hK hH 8 rfl hz46 rfl dX8_readPart_179 (fun H locs hH => ?_)
            refine lv_aload_n hx hb dX8_readPart_180 rfl (lv_at hl 0 rfl) ?_
            refine kb_get (v := .ref (g 10)) hx hb hts hin8 hown hK hH 0 rfl rfl rfl 9 (by decide) (hts (.fieldLink RX8 31 "CockWarModel" "readWind" "[I") (List.mem_of_getElem? (i := 7) rfl)) (fun _ h9 => h9) rfl dX8_readPart_181 ?_
            refine lv_iconst (v := 3) hx hb dX8_readPart_184 (by decide) ?_
            refine lv_aload_n hx hb dX8_readPart_185 rfl (lv_at hl 0 rfl) ?_
            refine kb_get (v := .int (q44.2.2.1 11)) hx hb hts hin8 hown hK hH 0 rfl rfl rfl 11 (by decide) (hts (.fieldLink RX8 81 "CockWarModel" "readWinds" "I") (List.mem_of_getElem? (i := 6) rfl)) (fun _ h9 => h9) rfl dX8_readPart_186 ?_
            refine lv_imul hx hb dX8_readPart_189 ?_
            refine lv_iconst (v := 1) hx hb dX8_readPart_190 (by decide) ?_
            refine lv_iadd hx hb dX8_readPart_191 ?_
            refine lv_aload_n hx hb dX8_readPart_192 rfl (lv_at hl 0 rfl) ?_
            refine lv_iconst (v := 0) hx hb dX8_readPart_193 (by decide) ?_
            refine lv_iconst (v := 5) hx hb dX8_readPart_194 (by decide) ?_
            obtain ⟨hz48, hD⟩ := hD
            obtain ⟨q47, hq47⟩ : ∃ z, z = (f_X8_figure (oA q44.2 9 (upd (q44.2.1 9) ((3 : Int32) * (V.2.1 11)).toNatClampNeg q44.1)) (0 : Int32) (5 : Int32)) := ⟨_, rfl⟩
            have hF := kAp_eq hF hq47
            have hD := kAp_D hD hq47
            refine kb_ci hH hA [0, 1, 2, 3, 4, 5, 6, 7, 8, 9, 10, 11, 12, 13, 14] (Wc := (w_O8 G g (oA q44.2 9 (upd (q44.2.1 9) ((3 : Int32) * (V.2.1 11)).toNatClampNeg q44.1)))) (Wc' := (w_O8 G g q47.2)) (WS' := (w_O8 G g q47.2)) rfl (by decide) rfl rfl (va_runV (As := [.int (0 : Int32), .int (5 : Int32)]) (rest := [.int (((3 : Int32) * (q44.2.2.1 11)) + (1 : Int32)), .ref (g 10)]) ⟨hx, hb, hml, hown, hts⟩ (c_X8_figure l G g (oA q44.2 9 (upd (q44.2.1 9) ((3 : Int32) * (V.2.1 11)).toNatClampNeg q44.1)) (0 : Int32) (5 : Int32) hz48 hq47.symm _) (cwV 2 hts gX8_readPart_X8_figure rfl rfl rfl he_X8_figure ⟨Nat.le_of_ble_eq_true rfl, Nat.le_of_ble_eq_true rfl⟩) (kb_preV hH hK hN [0, 1, 2, 3, 4, 5, 6, 7, 8, 9, 10, 11, 12, 13, 14] rfl (by decide) 0 rfl rfl rfl rfl) rfl rfl hl.1 rfl (lv_room (Nat.le_of_ble_eq_true rfl)) dX8_readPart_195 ⟨Nat.le_of_ble_eq_true rfl, Nat.le_of_ble_eq_true rfl⟩) (fun H locs hH => ?_)
            obtain ⟨hz49, hD⟩ := hD
            refine kb_iast (WS' := (w_O8 G g (oA q47.2 9 (upd (q47.2.1 9) (((3 : Int32) * (q44.2.2.1 11)) + (1 : Int32)).toNatClampNeg q47.1)))) hx hb hK hH 8 rfl hz49 rfl dX8_readPart_198 (fun H locs hH => ?_)
            refine lv_aload_n hx hb dX8_readPart_199 rfl (lv_at hl 0 rfl) ?_
            refine kb_get (v := .ref (g 10)) hx hb hts hin8 hown hK hH 0 rfl rfl rfl 9 (by decide) (hts (.fieldLink RX8 31 "CockWarModel" "readWind" "[I") (List.mem_of_getElem? (i := 7) rfl)) (fun _ h9 => h9) rfl dX8_readPart_200 ?_
            refine lv_iconst (v := 3) hx hb dX8_readPart_203 (by decide) ?_
            refine lv_aload_n hx hb dX8_readPart_204 rfl (lv_at hl 0 rfl) ?_
            refine kb_get (v := .int (q47.2.2.1 11)) hx hb hts hin8 hown hK hH 0 rfl rfl rfl 11 (by decide) (hts (.fieldLink RX8 81 "CockWarModel" "readWinds" "I") (List.mem_of_getElem? (i := 6) rfl)) (fun _ h9 => h9) rfl dX8_readPart_205 ?_
            refine lv_imul hx hb dX8_readPart_208 ?_
            refine lv_iconst (v := 2) hx hb dX8_readPart_209 (by decide) ?_
            refine lv_iadd hx hb dX8_readPart_210 ?_
            refine lv_aload_n hx hb dX8_readPart_211 rfl (lv_at hl 0 rfl) ?_
            refine lv_iconst (v := 1) hx hb dX8_readPart_212 (by decide) ?_
            refine lv_bipush (v := 9) hx hb dX8_readPart_213 (by decide) ?_
            obtain ⟨hz51, hD⟩ := hD
            obtain ⟨q50, hq50⟩ : ∃ z, z = (f_X8_figure (oA q47.2 9 (upd (q47.2.1 9) (((3 : Int32) * (q44.2.2.1 11)) + (1 : Int32)).toNatClampNeg q47.1)) (1 : Int32) (9 : Int32)) := ⟨_, rfl⟩
            have hF := kAp_eq hF hq50
            have hD := kAp_D hD hq50
            refine kb_ci hH hA [0, 1, 2, 3, 4, 5, 6, 7, 8, 9, 10, 11, 12, 13, 14] (Wc := (w_O8 G g (oA q47.2 9 (upd (q47.2.1 9) (((3 : Int32) * (q44.2.2.1 11)) + (1 : Int32)).toNatClampNeg q47.1)))) (Wc' := (w_O8 G g q50.2)) (WS' := (w_O8 G g q50.2)) rfl (by decide) rfl rfl (va_runV (As := [.int (1 : Int32), .int (9 : Int32)]) (rest := [.int (((3 : Int32) * (q47.2.2.1 11)) + (2 : Int32)), .ref (g 10)]) ⟨hx, hb, hml, hown, hts⟩ (c_X8_figure l G g (oA q47.2 9 (upd (q47.2.1 9) (((3 : Int32) * (q44.2.2.1 11)) + (1 : Int32)).toNatClampNeg q47.1)) (1 : Int32) (9 : Int32) hz51 hq50.symm _) (cwV 2 hts gX8_readPart_X8_figure rfl rfl rfl he_X8_figure ⟨Nat.le_of_ble_eq_true rfl, Nat.le_of_ble_eq_true rfl⟩) (kb_preV hH hK hN [0, 1, 2, 3, 4, 5, 6, 7, 8, 9, 10, 11, 12, 13, 14] rfl (by decide) 0 rfl rfl rfl rfl) rfl rfl hl.1 rfl (lv_room (Nat.le_of_ble_eq_true rfl)) dX8_readPart_215 ⟨Nat.le_of_ble_eq_true rfl, Nat.le_of_ble_eq_true rfl⟩) (fun H locs hH => ?_)
            have hz52 := hD
            refine kb_iast (WS' := (w_O8 G g (oA q50.2 9 (upd (q50.2.1 9) (((3 : Int32) * (q47.2.2.1 11)) + (2 : Int32)).toNatClampNeg q50.1)))) hx hb hK hH 8 rfl hz52 rfl dX8_readPart_218 (fun H locs hH => ?_)
            refine lv_aload_n hx hb dX8_readPart_219 rfl (lv_at hl 0 rfl) ?_
            refine lv_dup hx hb dX8_readPart_220 rfl ?_
            refine kb_get (v := .int (q50.2.2.1 11)) hx hb hts hin8 hown hK hH 0 rfl rfl rfl 11 (by decide) (hts (.fieldLink RX8 81 "CockWarModel" "readWinds" "I") (List.mem_of_getElem? (i := 6) rfl)) (fun _ h9 => h9) rfl dX8_readPart_221 ?_
            refine lv_iconst (v := 1) hx hb dX8_readPart_224 (by decide) ?_
            refine lv_iadd hx hb dX8_readPart_225 ?_
            refine kb_put (ty := .int) (v := .int ((q50.2.2.1 11) + (1 : Int32))) (WS' := (w_O8 G g (oI (oA q50.2 9 (upd (q50.2.1 9) (((3 : Int32) * (q47.2.2.1 11)) + (2 : Int32)).toNatClampNeg q50.1)) 11 ((q50.2.2.1 11) + (1 : Int32))))) hx hb hts hin8 tyX8 tyX8_ok nmX8 hown hK hH 0 rfl rfl 11 (by decide) (hts (.fieldLink RX8 81 "CockWarModel" "readWinds" "I") (List.mem_of_getElem? (i := 6) rfl)) (fun _ h9 => h9) rfl (by decide +kernel) rfl rfl (Nat.le_of_ble_eq_true rfl) rfl dX8_readPart_226 (fun H locs hH => ?_)
            refine lv_goto (tgt := 240) hx hb dX8_readPart_229 (by decide) ?_
            subst hF
            exact kb_vret hx hb hr hH rfl dX8_readPart_240 hlocks
      · have hD := hD.2 c41
        rw [if_neg c41] at hF
        refine lv_aload_n hx hb dX8_readPart_122 rfl (lv_at hl 0 rfl) ?_
        refine lv_dup hx hb dX8_readPart_123 rfl ?_
        refine kb_get (v := .int (V.2.1 16)) hx hb hts hin8 hown hK hH 0 rfl rfl rfl 16 (by decide) (hts (.fieldLink RX8 69 "CockWarModel" "at" "I") (List.mem_of_getElem? (i := 2) rfl)) (fun _ h9 => h9) rfl dX8_readPart_124 ?_
        refine lv_iconst (v := 1) hx hb dX8_readPart_127 (by decide) ?_
        refine lv_iadd hx hb dX8_readPart_128 ?_
        refine kb_put (ty := .int) (v := .int ((V.2.1 16) + (1 : Int32))) (WS' := (w_O8 G g (oI V 16 ((V.2.1 16) + (1 : Int32))))) hx hb hts hin8 tyX8 tyX8_ok nmX8 hown hK hH 0 rfl rfl 16 (by decide) (hts (.fieldLink RX8 69 "CockWarModel" "at" "I") (List.mem_of_getElem? (i := 2) rfl)) (fun _ h9 => h9) rfl (by decide +kernel) rfl rfl (Nat.le_of_ble_eq_true rfl) rfl dX8_readPart_129 (fun H locs hH => ?_)
        refine lv_aload_n hx hb dX8_readPart_132 rfl (lv_at hl 0 rfl) ?_
        have hz54 := hD
        obtain ⟨q53, hq53⟩ : ∃ z, z = (f_X8_readCock (oI V 16 ((V.2.1 16) + (1 : Int32)))) := ⟨_, rfl⟩
        have hF := kAp_eq hF hq53
        refine kb_cv hH hA [0, 1, 2, 3, 4, 5, 6, 7, 8, 9, 10, 11, 12, 13, 14] (Wc := (w_O8 G g (oI V 16 ((V.2.1 16) + (1 : Int32))))) (Wc' := (w_O8 G g q53)) (WS' := (w_O8 G g q53)) rfl (by decide) rfl rfl (va_runV (As := []) (rest := []) ⟨hx, hb, hml, hown, hts⟩ (c_X8_readCock l G g (oI V 16 ((V.2.1 16) + (1 : Int32))) hz54 hq53.symm _) (cwV 0 hts gX8_readPart_X8_readCock rfl rfl rfl he_X8_readCock ⟨Nat.le_of_ble_eq_true rfl, Nat.le_of_ble_eq_true rfl⟩) (kb_preV hH hK hN [0, 1, 2, 3, 4, 5, 6, 7, 8, 9, 10, 11, 12, 13, 14] rfl (by decide) 0 rfl rfl rfl rfl) rfl rfl hl.1 rfl (lv_room (Nat.le_of_ble_eq_true rfl)) dX8_readPart_133 ⟨Nat.le_of_ble_eq_true rfl, Nat.le_of_ble_eq_true rfl⟩) (fun H locs hH => ?_)
        refine lv_goto (tgt := 240) hx hb dX8_readPart_136 (by decide) ?_
        subst hF
        exact kb_vret hx hb hr hH rfl dX8_readPart_240 hlocks
  · have hD := hD.1 c1
    rw [if_pos c1] at hF
    refine lv_aload_n hx hb dX8_readPart_6 rfl (lv_at hl 0 rfl) ?_
    refine kb_get (v := .int (V.2.1 12)) hx hb hts hin8 hown hK hH 0 rfl rfl rfl 12 (by decide) (hts (.fieldLink RX8 84 "CockWarModel" "readTrees" "I") (List.mem_of_getElem? (i := 1) rfl)) (fun _ h9 => h9) rfl dX8_readPart_7 ?_
    refine lv_sipush (v := 1023) hx hb dX8_readPart_10 (by decide) ?_
    refine lv_icmp_eq (tgt := 107) hx hb dX8_readPart_13 (by decide) (fun c2 => ?_) (fun c2 => ?_)
    · have hD := hD.1 c2
      rw [if_pos c2] at hF
      refine lv_iload_n hx hb dX8_readPart_107 rfl (lv_at hl 1 rfl) ?_
      refine lv_bipush (v := 67) hx hb dX8_readPart_108 (by decide) ?_
      refine lv_icmp_ne (tgt := 139) hx hb dX8_readPart_110 (by decide) (fun c3 => ?_) (fun c3 => ?_)
      · have hD := hD.2 c3
        rw [if_neg c3] at hF
        refine lv_iload_n hx hb dX8_readPart_139 rfl (lv_at hl 1 rfl) ?_
        refine lv_bipush (v := 87) hx hb dX8_readPart_140 (by decide) ?_
        refine lv_icmp_ne (tgt := 232) hx hb dX8_readPart_142 (by decide) (fun c18 => ?_) (fun c18 => ?_)
        · rw [if_neg c18] at hF
          refine lv_aload_n hx hb dX8_readPart_232 rfl (lv_at hl 0 rfl) ?_
          refine lv_aload_n hx hb dX8_readPart_233 rfl (lv_at hl 0 rfl) ?_
          refine kb_get (v := .int (V.2.1 16)) hx hb hts hin8 hown hK hH 0 rfl rfl rfl 16 (by decide) (hts (.fieldLink RX8 69 "CockWarModel" "at" "I") (List.mem_of_getElem? (i := 2) rfl)) (fun _ h9 => h9) rfl dX8_readPart_234 ?_
          refine kb_put (ty := .int) (v := .int (V.2.1 16)) (WS' := (w_O8 G g (oI V 17 (V.2.1 16)))) hx hb hts hin8 tyX8 tyX8_ok nmX8 hown hK hH 0 rfl rfl 17 (by decide) (hts (.fieldLink RX8 66 "CockWarModel" "faultAt" "I") (List.mem_of_getElem? (i := 4) rfl)) (fun _ h9 => h9) rfl (by decide +kernel) rfl rfl (Nat.le_of_ble_eq_true rfl) rfl dX8_readPart_237 (fun H locs hH => ?_)
          subst hF
          exact kb_vret hx hb hr hH rfl dX8_readPart_240 hlocks
        · have hD := hD c18
          rw [if_pos c18] at hF
          refine lv_aload_n hx hb dX8_readPart_145 rfl (lv_at hl 0 rfl) ?_
          refine kb_get (v := .int (V.2.1 11)) hx hb hts hin8 hown hK hH 0 rfl rfl rfl 11 (by decide) (hts (.fieldLink RX8 81 "CockWarModel" "readWinds" "I") (List.mem_of_getElem? (i := 6) rfl)) (fun _ h9 => h9) rfl dX8_readPart_146 ?_
          refine lv_iconst (v := 4) hx hb dX8_readPart_149 (by decide) ?_
          refine lv_icmp_ge (tgt := 232) hx hb dX8_readPart_150 (by decide) (fun c19 => ?_) (fun c19 => ?_)
          · rw [if_pos c19] at hF
            refine lv_aload_n hx hb dX8_readPart_232 rfl (lv_at hl 0 rfl) ?_
            refine lv_aload_n hx hb dX8_readPart_233 rfl (lv_at hl 0 rfl) ?_
            refine kb_get (v := .int (V.2.1 16)) hx hb hts hin8 hown hK hH 0 rfl rfl rfl 16 (by decide) (hts (.fieldLink RX8 69 "CockWarModel" "at" "I") (List.mem_of_getElem? (i := 2) rfl)) (fun _ h9 => h9) rfl dX8_readPart_234 ?_
            refine kb_put (ty := .int) (v := .int (V.2.1 16)) (WS' := (w_O8 G g (oI V 17 (V.2.1 16)))) hx hb hts hin8 tyX8 tyX8_ok nmX8 hown hK hH 0 rfl rfl 17 (by decide) (hts (.fieldLink RX8 66 "CockWarModel" "faultAt" "I") (List.mem_of_getElem? (i := 4) rfl)) (fun _ h9 => h9) rfl (by decide +kernel) rfl rfl (Nat.le_of_ble_eq_true rfl) rfl dX8_readPart_237 (fun H locs hH => ?_)
            subst hF
            exact kb_vret hx hb hr hH rfl dX8_readPart_240 hlocks
          · have hD := hD c19
            rw [if_neg c19] at hF
            refine lv_aload_n hx hb dX8_readPart_153 rfl (lv_at hl 0 rfl) ?_
            refine lv_dup hx hb dX8_readPart_154 rfl ?_
            refine kb_get (v := .int (V.2.1 16)) hx hb hts hin8 hown hK hH 0 rfl rfl rfl 16 (by decide) (hts (.fieldLink RX8 69 "CockWarModel" "at" "I") (List.mem_of_getElem? (i := 2) rfl)) (fun _ h9 => h9) rfl dX8_readPart_155 ?_
            refine lv_iconst (v := 1) hx hb dX8_readPart_158 (by decide) ?_
            refine lv_iadd hx hb dX8_readPart_159 ?_
            refine kb_put (ty := .int) (v := .int ((V.2.1 16) + (1 : Int32))) (WS' := (w_O8 G g (oI V 16 ((V.2.1 16) + (1 : Int32))))) hx hb hts hin8 tyX8 tyX8_ok nmX8 hown hK hH 0 rfl rfl 16 (by decide) (hts (.fieldLink RX8 69 "CockWarModel" "at" "I") (List.mem_of_getElem? (i := 2) rfl)) (fun _ h9 => h9) rfl (by decide +kernel) rfl rfl (Nat.le_of_ble_eq_true rfl) rfl dX8_readPart_160 (fun H locs hH => ?_)
            refine lv_aload_n hx hb dX8_readPart_163 rfl (lv_at hl 0 rfl) ?_
            refine kb_get (v := .ref (g 10)) hx hb hts hin8 hown hK hH 0 rfl rfl rfl 9 (by decide) (hts (.fieldLink RX8 31 "CockWarModel" "readWind" "[I") (List.mem_of_getElem? (i := 7) rfl)) (fun _ h9 => h9) rfl dX8_readPart_164 ?_
            refine lv_iconst (v := 3) hx hb dX8_readPart_167 (by decide) ?_
            refine lv_aload_n hx hb dX8_readPart_168 rfl (lv_at hl 0 rfl) ?_
            refine kb_get (v := .int (V.2.1 11)) hx hb hts hin8 hown hK hH 0 rfl rfl rfl 11 (by decide) (hts (.fieldLink RX8 81 "CockWarModel" "readWinds" "I") (List.mem_of_getElem? (i := 6) rfl)) (fun _ h9 => h9) rfl dX8_readPart_169 ?_
            refine lv_imul hx hb dX8_readPart_172 ?_
            refine lv_aload_n hx hb dX8_readPart_173 rfl (lv_at hl 0 rfl) ?_
            refine lv_iconst (v := 0) hx hb dX8_readPart_174 (by decide) ?_
            refine lv_iconst (v := 1) hx hb dX8_readPart_175 (by decide) ?_
            obtain ⟨hz21, hD⟩ := hD
            obtain ⟨q20, hq20⟩ : ∃ z, z = (f_X8_figure (oI V 16 ((V.2.1 16) + (1 : Int32))) (0 : Int32) (1 : Int32)) := ⟨_, rfl⟩
            have hF := kAp_eq hF hq20
            have hD := kAp_D hD hq20
            refine kb_ci hH hA [0, 1, 2, 3, 4, 5, 6, 7, 8, 9, 10, 11, 12, 13, 14] (Wc := (w_O8 G g (oI V 16 ((V.2.1 16) + (1 : Int32))))) (Wc' := (w_O8 G g q20.2)) (WS' := (w_O8 G g q20.2)) rfl (by decide) rfl rfl (va_runV (As := [.int (0 : Int32), .int (1 : Int32)]) (rest := [.int ((3 : Int32) * (V.2.1 11)), .ref (g 10)]) ⟨hx, hb, hml, hown, hts⟩ (c_X8_figure l G g (oI V 16 ((V.2.1 16) + (1 : Int32))) (0 : Int32) (1 : Int32) hz21 hq20.symm _) (cwV 2 hts gX8_readPart_X8_figure rfl rfl rfl he_X8_figure ⟨Nat.le_of_ble_eq_true rfl, Nat.le_of_ble_eq_true rfl⟩) (kb_preV hH hK hN [0, 1, 2, 3, 4, 5, 6, 7, 8, 9, 10, 11, 12, 13, 14] rfl (by decide) 0 rfl rfl rfl rfl) rfl rfl hl.1 rfl (lv_room (Nat.le_of_ble_eq_true rfl)) dX8_readPart_176 ⟨Nat.le_of_ble_eq_true rfl, Nat.le_of_ble_eq_true rfl⟩) (fun H locs hH => ?_)
            obtain ⟨hz22, hD⟩ := hD
            refine kb_iast (WS' := (w_O8 G g (oA q20.2 9 (upd (q20.2.1 9) ((3 : Int32) * (V.2.1 11)).toNatClampNeg q20.1)))) hx hb hK hH 8 rfl hz22 rfl dX8_readPart_179 (fun H locs hH => ?_)
            refine lv_aload_n hx hb dX8_readPart_180 rfl (lv_at hl 0 rfl) ?_
            refine kb_get (v := .ref (g 10)) hx hb hts hin8 hown hK hH 0 rfl rfl rfl 9 (by decide) (hts (.fieldLink RX8 31 "CockWarModel" "readWind" "[I") (List.mem_of_getElem? (i := 7) rfl)) (fun _ h9 => h9) rfl dX8_readPart_181 ?_
            refine lv_iconst (v := 3) hx hb dX8_readPart_184 (by decide) ?_
            refine lv_aload_n hx hb dX8_readPart_185 rfl (lv_at hl 0 rfl) ?_
            refine kb_get (v := .int (q20.2.2.1 11)) hx hb hts hin8 hown hK hH 0 rfl rfl rfl 11 (by decide) (hts (.fieldLink RX8 81 "CockWarModel" "readWinds" "I") (List.mem_of_getElem? (i := 6) rfl)) (fun _ h9 => h9) rfl dX8_readPart_186 ?_
            refine lv_imul hx hb dX8_readPart_189 ?_
            refine lv_iconst (v := 1) hx hb dX8_readPart_190 (by decide) ?_
            refine lv_iadd hx hb dX8_readPart_191 ?_
            refine lv_aload_n hx hb dX8_readPart_192 rfl (lv_at hl 0 rfl) ?_
            refine lv_iconst (v := 0) hx hb dX8_readPart_193 (by decide) ?_
            refine lv_iconst (v := 5) hx hb dX8_readPart_194 (by decide) ?_
            obtain ⟨hz24, hD⟩ := hD
            obtain ⟨q23, hq23⟩ : ∃ z, z = (f_X8_figure (oA q20.2 9 (upd (q20.2.1 9) ((3 : Int32) * (V.2.1 11)).toNatClampNeg q20.1)) (0 : Int32) (5 : Int32)) := ⟨_, rfl⟩
            have hF := kAp_eq hF hq23
            have hD := kAp_D hD hq23
            refine kb_ci hH hA [0, 1, 2, 3, 4, 5, 6, 7, 8, 9, 10, 11, 12, 13, 14] (Wc := (w_O8 G g (oA q20.2 9 (upd (q20.2.1 9) ((3 : Int32) * (V.2.1 11)).toNatClampNeg q20.1)))) (Wc' := (w_O8 G g q23.2)) (WS' := (w_O8 G g q23.2)) rfl (by decide) rfl rfl (va_runV (As := [.int (0 : Int32), .int (5 : Int32)]) (rest := [.int (((3 : Int32) * (q20.2.2.1 11)) + (1 : Int32)), .ref (g 10)]) ⟨hx, hb, hml, hown, hts⟩ (c_X8_figure l G g (oA q20.2 9 (upd (q20.2.1 9) ((3 : Int32) * (V.2.1 11)).toNatClampNeg q20.1)) (0 : Int32) (5 : Int32) hz24 hq23.symm _) (cwV 2 hts gX8_readPart_X8_figure rfl rfl rfl he_X8_figure ⟨Nat.le_of_ble_eq_true rfl, Nat.le_of_ble_eq_true rfl⟩) (kb_preV hH hK hN [0, 1, 2, 3, 4, 5, 6, 7, 8, 9, 10, 11, 12, 13, 14] rfl (by decide) 0 rfl rfl rfl rfl) rfl rfl hl.1 rfl (lv_room (Nat.le_of_ble_eq_true rfl)) dX8_readPart_195 ⟨Nat.le_of_ble_eq_true rfl, Nat.le_of_ble_eq_true rfl⟩) (fun H locs hH => ?_)
            obtain ⟨hz25, hD⟩ := hD
            refine kb_iast (WS' := (w_O8 G g (oA q23.2 9 (upd (q23.2.1 9) (((3 : Int32) * (q20.2.2.1 11)) + (1 : Int32)).toNatClampNeg q23.1)))) hx hb hK hH 8 rfl hz25 rfl dX8_readPart_198 (fun H locs hH => ?_)
            refine lv_aload_n hx hb dX8_readPart_199 rfl (lv_at hl 0 rfl) ?_
            refine kb_get (v := .ref (g 10)) hx hb hts hin8 hown hK hH 0 rfl rfl rfl 9 (by decide) (hts (.fieldLink RX8 31 "CockWarModel" "readWind" "[I") (List.mem_of_getElem? (i := 7) rfl)) (fun _ h9 => h9) rfl dX8_readPart_200 ?_
            refine lv_iconst (v := 3) hx hb dX8_readPart_203 (by decide) ?_
            refine lv_aload_n hx hb dX8_readPart_204 rfl (lv_at hl 0 rfl) ?_
            refine kb_get (v := .int (q23.2.2.1 11)) hx hb hts hin8 hown hK hH 0 rfl rfl rfl 11 (by decide) (hts (.fieldLink RX8 81 "CockWarModel" "readWinds" "I") (List.mem_of_getElem? (i := 6) rfl)) (fun _ h9 => h9) rfl dX8_readPart_205 ?_
            refine lv_imul hx hb dX8_readPart_208 ?_
            refine lv_iconst (v := 2) hx hb dX8_readPart_209 (by decide) ?_
            refine lv_iadd hx hb dX8_readPart_210 ?_
            refine lv_aload_n hx hb dX8_readPart_211 rfl (lv_at hl 0 rfl) ?_
            refine lv_iconst (v := 1) hx hb dX8_readPart_212 (by decide) ?_
            refine lv_bipush (v := 9) hx hb dX8_readPart_213 (by decide) ?_
            obtain ⟨hz27, hD⟩ := hD
            obtain ⟨q26, hq26⟩ : ∃ z, z = (f_X8_figure (oA q23.2 9 (upd (q23.2.1 9) (((3 : Int32) * (q20.2.2.1 11)) + (1 : Int32)).toNatClampNeg q23.1)) (1 : Int32) (9 : Int32)) := ⟨_, rfl⟩
            have hF := kAp_eq hF hq26
            have hD := kAp_D hD hq26
            refine kb_ci hH hA [0, 1, 2, 3, 4, 5, 6, 7, 8, 9, 10, 11, 12, 13, 14] (Wc := (w_O8 G g (oA q23.2 9 (upd (q23.2.1 9) (((3 : Int32) * (q20.2.2.1 11)) + (1 : Int32)).toNatClampNeg q23.1)))) (Wc' := (w_O8 G g q26.2)) (WS' := (w_O8 G g q26.2)) rfl (by decide) rfl rfl (va_runV (As := [.int (1 : Int32), .int (9 : Int32)]) (rest := [.int (((3 : Int32) * (q23.2.2.1 11)) + (2 : Int32)), .ref (g 10)]) ⟨hx, hb, hml, hown, hts⟩ (c_X8_figure l G g (oA q23.2 9 (upd (q23.2.1 9) (((3 : Int32) * (q20.2.2.1 11)) + (1 : Int32)).toNatClampNeg q23.1)) (1 : Int32) (9 : Int32) hz27 hq26.symm _) (cwV 2 hts gX8_readPart_X8_figure rfl rfl rfl he_X8_figure ⟨Nat.le_of_ble_eq_true rfl, Nat.le_of_ble_eq_true rfl⟩) (kb_preV hH hK hN [0, 1, 2, 3, 4, 5, 6, 7, 8, 9, 10, 11, 12, 13, 14] rfl (by decide) 0 rfl rfl rfl rfl) rfl rfl hl.1 rfl (lv_room (Nat.le_of_ble_eq_true rfl)) dX8_readPart_215 ⟨Nat.le_of_ble_eq_true rfl, Nat.le_of_ble_eq_true rfl⟩) (fun H locs hH => ?_)
            have hz28 := hD
            refine kb_iast (WS' := (w_O8 G g (oA q26.2 9 (upd (q26.2.1 9) (((3 : Int32) * (q23.2.2.1 11)) + (2 : Int32)).toNatClampNeg q26.1)))) hx hb hK hH 8 rfl hz28 rfl dX8_readPart_218 (fun H locs hH => ?_)
            refine lv_aload_n hx hb dX8_readPart_219 rfl (lv_at hl 0 rfl) ?_
            refine lv_dup hx hb dX8_readPart_220 rfl ?_
            refine kb_get (v := .int (q26.2.2.1 11)) hx hb hts hin8 hown hK hH 0 rfl rfl rfl 11 (by decide) (hts (.fieldLink RX8 81 "CockWarModel" "readWinds" "I") (List.mem_of_getElem? (i := 6) rfl)) (fun _ h9 => h9) rfl dX8_readPart_221 ?_
            refine lv_iconst (v := 1) hx hb dX8_readPart_224 (by decide) ?_
            refine lv_iadd hx hb dX8_readPart_225 ?_
            refine kb_put (ty := .int) (v := .int ((q26.2.2.1 11) + (1 : Int32))) (WS' := (w_O8 G g (oI (oA q26.2 9 (upd (q26.2.1 9) (((3 : Int32) * (q23.2.2.1 11)) + (2 : Int32)).toNatClampNeg q26.1)) 11 ((q26.2.2.1 11) + (1 : Int32))))) hx hb hts hin8 tyX8 tyX8_ok nmX8 hown hK hH 0 rfl rfl 11 (by decide) (hts (.fieldLink RX8 81 "CockWarModel" "readWinds" "I") (List.mem_of_getElem? (i := 6) rfl)) (fun _ h9 => h9) rfl (by decide +kernel) rfl rfl (Nat.le_of_ble_eq_true rfl) rfl dX8_readPart_226 (fun H locs hH => ?_)
            refine lv_goto (tgt := 240) hx hb dX8_readPart_229 (by decide) ?_
            subst hF
            exact kb_vret hx hb hr hH rfl dX8_readPart_240 hlocks
      · have hD := hD.1 c3
        rw [if_pos c3] at hF
        refine lv_aload_n hx hb dX8_readPart_113 rfl (lv_at hl 0 rfl) ?_
        refine kb_get (v := .int (V.2.1 10)) hx hb hts hin8 hown hK hH 0 rfl rfl rfl 10 (by decide) (hts (.fieldLink RX8 78 "CockWarModel" "readCocks" "I") (List.mem_of_getElem? (i := 5) rfl)) (fun _ h9 => h9) rfl dX8_readPart_114 ?_
        refine lv_bipush (v := 6) hx hb dX8_readPart_117 (by decide) ?_
        refine lv_icmp_ge (tgt := 139) hx hb dX8_readPart_119 (by decide) (fun c4 => ?_) (fun c4 => ?_)
        · have hD := hD.1 c4
          rw [if_pos c4] at hF
          refine lv_iload_n hx hb dX8_readPart_139 rfl (lv_at hl 1 rfl) ?_
          refine lv_bipush (v := 87) hx hb dX8_readPart_140 (by decide) ?_
          refine lv_icmp_ne (tgt := 232) hx hb dX8_readPart_142 (by decide) (fun c5 => ?_) (fun c5 => ?_)
          · rw [if_neg c5] at hF
            refine lv_aload_n hx hb dX8_readPart_232 rfl (lv_at hl 0 rfl) ?_
            refine lv_aload_n hx hb dX8_readPart_233 rfl (lv_at hl 0 rfl) ?_
            refine kb_get (v := .int (V.2.1 16)) hx hb hts hin8 hown hK hH 0 rfl rfl rfl 16 (by decide) (hts (.fieldLink RX8 69 "CockWarModel" "at" "I") (List.mem_of_getElem? (i := 2) rfl)) (fun _ h9 => h9) rfl dX8_readPart_234 ?_
            refine kb_put (ty := .int) (v := .int (V.2.1 16)) (WS' := (w_O8 G g (oI V 17 (V.2.1 16)))) hx hb hts hin8 tyX8 tyX8_ok nmX8 hown hK hH 0 rfl rfl 17 (by decide) (hts (.fieldLink RX8 66 "CockWarModel" "faultAt" "I") (List.mem_of_getElem? (i := 4) rfl)) (fun _ h9 => h9) rfl (by decide +kernel) rfl rfl (Nat.le_of_ble_eq_true rfl) rfl dX8_readPart_237 (fun H locs hH => ?_)
            subst hF
            exact kb_vret hx hb hr hH rfl dX8_readPart_240 hlocks
          · have hD := hD c5
            rw [if_pos c5] at hF
            refine lv_aload_n hx hb dX8_readPart_145 rfl (lv_at hl 0 rfl) ?_
            refine kb_get (v := .int (V.2.1 11)) hx hb hts hin8 hown hK hH 0 rfl rfl rfl 11 (by decide) (hts (.fieldLink RX8 81 "CockWarModel" "readWinds" "I") (List.mem_of_getElem? (i := 6) rfl)) (fun _ h9 => h9) rfl dX8_readPart_146 ?_
            refine lv_iconst (v := 4) hx hb dX8_readPart_149 (by decide) ?_
            refine lv_icmp_ge (tgt := 232) hx hb dX8_readPart_150 (by decide) (fun c6 => ?_) (fun c6 => ?_)
            · rw [if_pos c6] at hF
              refine lv_aload_n hx hb dX8_readPart_232 rfl (lv_at hl 0 rfl) ?_
              refine lv_aload_n hx hb dX8_readPart_233 rfl (lv_at hl 0 rfl) ?_
              refine kb_get (v := .int (V.2.1 16)) hx hb hts hin8 hown hK hH 0 rfl rfl rfl 16 (by decide) (hts (.fieldLink RX8 69 "CockWarModel" "at" "I") (List.mem_of_getElem? (i := 2) rfl)) (fun _ h9 => h9) rfl dX8_readPart_234 ?_
              refine kb_put (ty := .int) (v := .int (V.2.1 16)) (WS' := (w_O8 G g (oI V 17 (V.2.1 16)))) hx hb hts hin8 tyX8 tyX8_ok nmX8 hown hK hH 0 rfl rfl 17 (by decide) (hts (.fieldLink RX8 66 "CockWarModel" "faultAt" "I") (List.mem_of_getElem? (i := 4) rfl)) (fun _ h9 => h9) rfl (by decide +kernel) rfl rfl (Nat.le_of_ble_eq_true rfl) rfl dX8_readPart_237 (fun H locs hH => ?_)
              subst hF
              exact kb_vret hx hb hr hH rfl dX8_readPart_240 hlocks
            · have hD := hD c6
              rw [if_neg c6] at hF
              refine lv_aload_n hx hb dX8_readPart_153 rfl (lv_at hl 0 rfl) ?_
              refine lv_dup hx hb dX8_readPart_154 rfl ?_
              refine kb_get (v := .int (V.2.1 16)) hx hb hts hin8 hown hK hH 0 rfl rfl rfl 16 (by decide) (hts (.fieldLink RX8 69 "CockWarModel" "at" "I") (List.mem_of_getElem? (i := 2) rfl)) (fun _ h9 => h9) rfl dX8_readPart_155 ?_
              refine lv_iconst (v := 1) hx hb dX8_readPart_158 (by decide) ?_
              refine lv_iadd hx hb dX8_readPart_159 ?_
              refine kb_put (ty := .int) (v := .int ((V.2.1 16) + (1 : Int32))) (WS' := (w_O8 G g (oI V 16 ((V.2.1 16) + (1 : Int32))))) hx hb hts hin8 tyX8 tyX8_ok nmX8 hown hK hH 0 rfl rfl 16 (by decide) (hts (.fieldLink RX8 69 "CockWarModel" "at" "I") (List.mem_of_getElem? (i := 2) rfl)) (fun _ h9 => h9) rfl (by decide +kernel) rfl rfl (Nat.le_of_ble_eq_true rfl) rfl dX8_readPart_160 (fun H locs hH => ?_)
              refine lv_aload_n hx hb dX8_readPart_163 rfl (lv_at hl 0 rfl) ?_
              refine kb_get (v := .ref (g 10)) hx hb hts hin8 hown hK hH 0 rfl rfl rfl 9 (by decide) (hts (.fieldLink RX8 31 "CockWarModel" "readWind" "[I") (List.mem_of_getElem? (i := 7) rfl)) (fun _ h9 => h9) rfl dX8_readPart_164 ?_
              refine lv_iconst (v := 3) hx hb dX8_readPart_167 (by decide) ?_
              refine lv_aload_n hx hb dX8_readPart_168 rfl (lv_at hl 0 rfl) ?_
              refine kb_get (v := .int (V.2.1 11)) hx hb hts hin8 hown hK hH 0 rfl rfl rfl 11 (by decide) (hts (.fieldLink RX8 81 "CockWarModel" "readWinds" "I") (List.mem_of_getElem? (i := 6) rfl)) (fun _ h9 => h9) rfl dX8_readPart_169 ?_
              refine lv_imul hx hb dX8_readPart_172 ?_
              refine lv_aload_n hx hb dX8_readPart_173 rfl (lv_at hl 0 rfl) ?_
              refine lv_iconst (v := 0) hx hb dX8_readPart_174 (by decide) ?_
              refine lv_iconst (v := 1) hx hb dX8_readPart_175 (by decide) ?_
              obtain ⟨hz8, hD⟩ := hD
              obtain ⟨q7, hq7⟩ : ∃ z, z = (f_X8_figure (oI V 16 ((V.2.1 16) + (1 : Int32))) (0 : Int32) (1 : Int32)) := ⟨_, rfl⟩
              have hF := kAp_eq hF hq7
              have hD := kAp_D hD hq7
              refine kb_ci hH hA [0, 1, 2, 3, 4, 5, 6, 7, 8, 9, 10, 11, 12, 13, 14] (Wc := (w_O8 G g (oI V 16 ((V.2.1 16) + (1 : Int32))))) (Wc' := (w_O8 G g q7.2)) (WS' := (w_O8 G g q7.2)) rfl (by decide) rfl rfl (va_runV (As := [.int (0 : Int32), .int (1 : Int32)]) (rest := [.int ((3 : Int32) * (V.2.1 11)), .ref (g 10)]) ⟨hx, hb, hml, hown, hts⟩ (c_X8_figure l G g (oI V 16 ((V.2.1 16) + (1 : Int32))) (0 : Int32) (1 : Int32) hz8 hq7.symm _) (cwV 2 hts gX8_readPart_X8_figure rfl rfl rfl he_X8_figure ⟨Nat.le_of_ble_eq_true rfl, Nat.le_of_ble_eq_true rfl⟩) (kb_preV hH hK hN [0, 1, 2, 3, 4, 5, 6, 7, 8, 9, 10, 11, 12, 13, 14] rfl (by decide) 0 rfl rfl rfl rfl) rfl rfl hl.1 rfl (lv_room (Nat.le_of_ble_eq_true rfl)) dX8_readPart_176 ⟨Nat.le_of_ble_eq_true rfl, Nat.le_of_ble_eq_true rfl⟩) (fun H locs hH => ?_)
              obtain ⟨hz9, hD⟩ := hD
              refine kb_iast (WS' := (w_O8 G g (oA q7.2 9 (upd (q7.2.1 9) ((3 : Int32) * (V.2.1 11)).toNatClampNeg q7.1)))) hx hb hK hH 8 rfl hz9 rfl dX8_readPart_179 (fun H locs hH => ?_)
              refine lv_aload_n hx hb dX8_readPart_180 rfl (lv_at hl 0 rfl) ?_
              refine kb_get (v := .ref (g 10)) hx hb hts hin8 hown hK hH 0 rfl rfl rfl 9 (by decide) (hts (.fieldLink RX8 31 "CockWarModel" "readWind" "[I") (List.mem_of_getElem? (i := 7) rfl)) (fun _ h9 => h9) rfl dX8_readPart_181 ?_
              refine lv_iconst (v := 3) hx hb dX8_readPart_184 (by decide) ?_
              refine lv_aload_n hx hb dX8_readPart_185 rfl (lv_at hl 0 rfl) ?_
              refine kb_get (v := .int (q7.2.2.1 11)) hx hb hts hin8 hown hK hH 0 rfl rfl rfl 11 (by decide) (hts (.fieldLink RX8 81 "CockWarModel" "readWinds" "I") (List.mem_of_getElem? (i := 6) rfl)) (fun _ h9 => h9) rfl dX8_readPart_186 ?_
              refine lv_imul hx hb dX8_readPart_189 ?_
              refine lv_iconst (v := 1) hx hb dX8_readPart_190 (by decide) ?_
              refine lv_iadd hx hb dX8_readPart_191 ?_
              refine lv_aload_n hx hb dX8_readPart_192 rfl (lv_at hl 0 rfl) ?_
              refine lv_iconst (v := 0) hx hb dX8_readPart_193 (by decide) ?_
              refine lv_iconst (v := 5) hx hb dX8_readPart_194 (by decide) ?_
              obtain ⟨hz11, hD⟩ := hD
              obtain ⟨q10, hq10⟩ : ∃ z, z = (f_X8_figure (oA q7.2 9 (upd (q7.2.1 9) ((3 : Int32) * (V.2.1 11)).toNatClampNeg q7.1)) (0 : Int32) (5 : Int32)) := ⟨_, rfl⟩
              have hF := kAp_eq hF hq10
              have hD := kAp_D hD hq10
              refine kb_ci hH hA [0, 1, 2, 3, 4, 5, 6, 7, 8, 9, 10, 11, 12, 13, 14] (Wc := (w_O8 G g (oA q7.2 9 (upd (q7.2.1 9) ((3 : Int32) * (V.2.1 11)).toNatClampNeg q7.1)))) (Wc' := (w_O8 G g q10.2)) (WS' := (w_O8 G g q10.2)) rfl (by decide) rfl rfl (va_runV (As := [.int (0 : Int32), .int (5 : Int32)]) (rest := [.int (((3 : Int32) * (q7.2.2.1 11)) + (1 : Int32)), .ref (g 10)]) ⟨hx, hb, hml, hown, hts⟩ (c_X8_figure l G g (oA q7.2 9 (upd (q7.2.1 9) ((3 : Int32) * (V.2.1 11)).toNatClampNeg q7.1)) (0 : Int32) (5 : Int32) hz11 hq10.symm _) (cwV 2 hts gX8_readPart_X8_figure rfl rfl rfl he_X8_figure ⟨Nat.le_of_ble_eq_true rfl, Nat.le_of_ble_eq_true rfl⟩) (kb_preV hH hK hN [0, 1, 2, 3, 4, 5, 6, 7, 8, 9, 10, 11, 12, 13, 14] rfl (by decide) 0 rfl rfl rfl rfl) rfl rfl hl.1 rfl (lv_room (Nat.le_of_ble_eq_true rfl)) dX8_readPart_195 ⟨Nat.le_of_ble_eq_true rfl, Nat.le_of_ble_eq_true rfl⟩) (fun H locs hH => ?_)
              obtain ⟨hz12, hD⟩ := hD
              refine kb_iast (WS' := (w_O8 G g (oA q10.2 9 (upd (q10.2.1 9) (((3 : Int32) * (q7.2.2.1 11)) + (1 : Int32)).toNatClampNeg q10.1)))) hx hb hK hH 8 rfl hz12 rfl dX8_readPart_198 (fun H locs hH => ?_)
              refine lv_aload_n hx hb dX8_readPart_199 rfl (lv_at hl 0 rfl) ?_
              refine kb_get (v := .ref (g 10)) hx hb hts hin8 hown hK hH 0 rfl rfl rfl 9 (by decide) (hts (.fieldLink RX8 31 "CockWarModel" "readWind" "[I") (List.mem_of_getElem? (i := 7) rfl)) (fun _ h9 => h9) rfl dX8_readPart_200 ?_
              refine lv_iconst (v := 3) hx hb dX8_readPart_203 (by decide) ?_
              refine lv_aload_n hx hb dX8_readPart_204 rfl (lv_at hl 0 rfl) ?_
              refine kb_get (v := .int (q10.2.2.1 11)) hx hb hts hin8 hown hK hH 0 rfl rfl rfl 11 (by decide) (hts (.fieldLink RX8 81 "CockWarModel" "readWinds" "I") (List.mem_of_getElem? (i := 6) rfl)) (fun _ h9 => h9) rfl dX8_readPart_205 ?_
              refine lv_imul hx hb dX8_readPart_208 ?_
              refine lv_iconst (v := 2) hx hb dX8_readPart_209 (by decide) ?_
              refine lv_iadd hx hb dX8_readPart_210 ?_
              refine lv_aload_n hx hb dX8_readPart_211 rfl (lv_at hl 0 rfl) ?_
              refine lv_iconst (v := 1) hx hb dX8_readPart_212 (by decide) ?_
              refine lv_bipush (v := 9) hx hb dX8_readPart_213 (by decide) ?_
              obtain ⟨hz14, hD⟩ := hD
              obtain ⟨q13, hq13⟩ : ∃ z, z = (f_X8_figure (oA q10.2 9 (upd (q10.2.1 9) (((3 : Int32) * (q7.2.2.1 11)) + (1 : Int32)).toNatClampNeg q10.1)) (1 : Int32) (9 : Int32)) := ⟨_, rfl⟩
              have hF := kAp_eq hF hq13
              have hD := kAp_D hD hq13
              refine kb_ci hH hA [0, 1, 2, 3, 4, 5, 6, 7, 8, 9, 10, 11, 12, 13, 14] (Wc := (w_O8 G g (oA q10.2 9 (upd (q10.2.1 9) (((3 : Int32) * (q7.2.2.1 11)) + (1 : Int32)).toNatClampNeg q10.1)))) (Wc' := (w_O8 G g q13.2)) (WS' := (w_O8 G g q13.2)) rfl (by decide) rfl rfl (va_runV (As := [.int (1 : Int32), .int (9 : Int32)]) (rest := [.int (((3 : Int32) * (q10.2.2.1 11)) + (2 : Int32)), .ref (g 10)]) ⟨hx, hb, hml, hown, hts⟩ (c_X8_figure l G g (oA q10.2 9 (upd (q10.2.1 9) (((3 : Int32) * (q7.2.2.1 11)) + (1 : Int32)).toNatClampNeg q10.1)) (1 : Int32) (9 : Int32) hz14 hq13.symm _) (cwV 2 hts gX8_readPart_X8_figure rfl rfl rfl he_X8_figure ⟨Nat.le_of_ble_eq_true rfl, Nat.le_of_ble_eq_true rfl⟩) (kb_preV hH hK hN [0, 1, 2, 3, 4, 5, 6, 7, 8, 9, 10, 11, 12, 13, 14] rfl (by decide) 0 rfl rfl rfl rfl) rfl rfl hl.1 rfl (lv_room (Nat.le_of_ble_eq_true rfl)) dX8_readPart_215 ⟨Nat.le_of_ble_eq_true rfl, Nat.le_of_ble_eq_true rfl⟩) (fun H locs hH => ?_)
              have hz15 := hD
              refine kb_iast (WS' := (w_O8 G g (oA q13.2 9 (upd (q13.2.1 9) (((3 : Int32) * (q10.2.2.1 11)) + (2 : Int32)).toNatClampNeg q13.1)))) hx hb hK hH 8 rfl hz15 rfl dX8_readPart_218 (fun H locs hH => ?_)
              refine lv_aload_n hx hb dX8_readPart_219 rfl (lv_at hl 0 rfl) ?_
              refine lv_dup hx hb dX8_readPart_220 rfl ?_
              refine kb_get (v := .int (q13.2.2.1 11)) hx hb hts hin8 hown hK hH 0 rfl rfl rfl 11 (by decide) (hts (.fieldLink RX8 81 "CockWarModel" "readWinds" "I") (List.mem_of_getElem? (i := 6) rfl)) (fun _ h9 => h9) rfl dX8_readPart_221 ?_
              refine lv_iconst (v := 1) hx hb dX8_readPart_224 (by decide) ?_
              refine lv_iadd hx hb dX8_readPart_225 ?_
              refine kb_put (ty := .int) (v := .int ((q13.2.2.1 11) + (1 : Int32))) (WS' := (w_O8 G g (oI (oA q13.2 9 (upd (q13.2.1 9) (((3 : Int32) * (q10.2.2.1 11)) + (2 : Int32)).toNatClampNeg q13.1)) 11 ((q13.2.2.1 11) + (1 : Int32))))) hx hb hts hin8 tyX8 tyX8_ok nmX8 hown hK hH 0 rfl rfl 11 (by decide) (hts (.fieldLink RX8 81 "CockWarModel" "readWinds" "I") (List.mem_of_getElem? (i := 6) rfl)) (fun _ h9 => h9) rfl (by decide +kernel) rfl rfl (Nat.le_of_ble_eq_true rfl) rfl dX8_readPart_226 (fun H locs hH => ?_)
              refine lv_goto (tgt := 240) hx hb dX8_readPart_229 (by decide) ?_
              subst hF
              exact kb_vret hx hb hr hH rfl dX8_readPart_240 hlocks
        · have hD := hD.2 c4
          rw [if_neg c4] at hF
          refine lv_aload_n hx hb dX8_readPart_122 rfl (lv_at hl 0 rfl) ?_
          refine lv_dup hx hb dX8_readPart_123 rfl ?_
          refine kb_get (v := .int (V.2.1 16)) hx hb hts hin8 hown hK hH 0 rfl rfl rfl 16 (by decide) (hts (.fieldLink RX8 69 "CockWarModel" "at" "I") (List.mem_of_getElem? (i := 2) rfl)) (fun _ h9 => h9) rfl dX8_readPart_124 ?_
          refine lv_iconst (v := 1) hx hb dX8_readPart_127 (by decide) ?_
          refine lv_iadd hx hb dX8_readPart_128 ?_
          refine kb_put (ty := .int) (v := .int ((V.2.1 16) + (1 : Int32))) (WS' := (w_O8 G g (oI V 16 ((V.2.1 16) + (1 : Int32))))) hx hb hts hin8 tyX8 tyX8_ok nmX8 hown hK hH 0 rfl rfl 16 (by decide) (hts (.fieldLink RX8 69 "CockWarModel" "at" "I") (List.mem_of_getElem? (i := 2) rfl)) (fun _ h9 => h9) rfl (by decide +kernel) rfl rfl (Nat.le_of_ble_eq_true rfl) rfl dX8_readPart_129 (fun H locs hH => ?_)
          refine lv_aload_n hx hb dX8_readPart_132 rfl (lv_at hl 0 rfl) ?_
          have hz17 := hD
          obtain ⟨q16, hq16⟩ : ∃ z, z = (f_X8_readCock (oI V 16 ((V.2.1 16) + (1 : Int32)))) := ⟨_, rfl⟩
          have hF := kAp_eq hF hq16
          refine kb_cv hH hA [0, 1, 2, 3, 4, 5, 6, 7, 8, 9, 10, 11, 12, 13, 14] (Wc := (w_O8 G g (oI V 16 ((V.2.1 16) + (1 : Int32))))) (Wc' := (w_O8 G g q16)) (WS' := (w_O8 G g q16)) rfl (by decide) rfl rfl (va_runV (As := []) (rest := []) ⟨hx, hb, hml, hown, hts⟩ (c_X8_readCock l G g (oI V 16 ((V.2.1 16) + (1 : Int32))) hz17 hq16.symm _) (cwV 0 hts gX8_readPart_X8_readCock rfl rfl rfl he_X8_readCock ⟨Nat.le_of_ble_eq_true rfl, Nat.le_of_ble_eq_true rfl⟩) (kb_preV hH hK hN [0, 1, 2, 3, 4, 5, 6, 7, 8, 9, 10, 11, 12, 13, 14] rfl (by decide) 0 rfl rfl rfl rfl) rfl rfl hl.1 rfl (lv_room (Nat.le_of_ble_eq_true rfl)) dX8_readPart_133 ⟨Nat.le_of_ble_eq_true rfl, Nat.le_of_ble_eq_true rfl⟩) (fun H locs hH => ?_)
          refine lv_goto (tgt := 240) hx hb dX8_readPart_136 (by decide) ?_
          subst hF
          exact kb_vret hx hb hr hH rfl dX8_readPart_240 hlocks
    · have hD := hD.2 c2
      rw [if_neg c2] at hF
      refine lv_aload_n hx hb dX8_readPart_16 rfl (lv_at hl 0 rfl) ?_
      refine lv_dup hx hb dX8_readPart_17 rfl ?_
      refine kb_get (v := .int (V.2.1 16)) hx hb hts hin8 hown hK hH 0 rfl rfl rfl 16 (by decide) (hts (.fieldLink RX8 69 "CockWarModel" "at" "I") (List.mem_of_getElem? (i := 2) rfl)) (fun _ h9 => h9) rfl dX8_readPart_18 ?_
      refine lv_iconst (v := 1) hx hb dX8_readPart_21 (by decide) ?_
      refine lv_iadd hx hb dX8_readPart_22 ?_
      refine kb_put (ty := .int) (v := .int ((V.2.1 16) + (1 : Int32))) (WS' := (w_O8 G g (oI V 16 ((V.2.1 16) + (1 : Int32))))) hx hb hts hin8 tyX8 tyX8_ok nmX8 hown hK hH 0 rfl rfl 16 (by decide) (hts (.fieldLink RX8 69 "CockWarModel" "at" "I") (List.mem_of_getElem? (i := 2) rfl)) (fun _ h9 => h9) rfl (by decide +kernel) rfl rfl (Nat.le_of_ble_eq_true rfl) rfl dX8_readPart_23 (fun H locs hH => ?_)
      refine lv_aload_n hx hb dX8_readPart_26 rfl (lv_at hl 0 rfl) ?_
      refine lv_sipush (v := 1023) hx hb dX8_readPart_27 (by decide) ?_
      refine lv_aload_n hx hb dX8_readPart_30 rfl (lv_at hl 0 rfl) ?_
      refine kb_get (v := .int (V.2.1 12)) hx hb hts hin8 hown hK hH 0 rfl rfl rfl 12 (by decide) (hts (.fieldLink RX8 84 "CockWarModel" "readTrees" "I") (List.mem_of_getElem? (i := 1) rfl)) (fun _ h9 => h9) rfl dX8_readPart_31 ?_
      refine lv_iconst (v := -1) hx hb dX8_readPart_34 (by decide) ?_
      refine lv_ixor hx hb dX8_readPart_35 ?_
      refine lv_iand hx hb dX8_readPart_36 ?_
      obtain ⟨hz30, hD⟩ := hD
      obtain ⟨q29, hq29⟩ : ∃ z, z = (f_X8_figureOf (oI V 16 ((V.2.1 16) + (1 : Int32))) ((1023 : Int32) &&& ((V.2.1 12) ^^^ (-1 : Int32)))) := ⟨_, rfl⟩
      have hF := kAp_eq hF hq29
      have hD := kAp_D hD hq29
      refine kb_ci hH hA [0, 1, 2, 3, 4, 5, 6, 7, 8, 9, 10, 11, 12, 13, 14] (Wc := (w_O8 G g (oI V 16 ((V.2.1 16) + (1 : Int32))))) (Wc' := (w_O8 G g q29.2)) (WS' := (w_O8 G g q29.2)) rfl (by decide) rfl rfl (va_runV (As := [.int ((1023 : Int32) &&& ((V.2.1 12) ^^^ (-1 : Int32)))]) (rest := []) ⟨hx, hb, hml, hown, hts⟩ (c_X8_figureOf l G g (oI V 16 ((V.2.1 16) + (1 : Int32))) ((1023 : Int32) &&& ((V.2.1 12) ^^^ (-1 : Int32))) hz30 hq29.symm _) (cwV 1 hts gX8_readPart_X8_figureOf rfl rfl rfl he_X8_figureOf ⟨Nat.le_of_ble_eq_true rfl, Nat.le_of_ble_eq_true rfl⟩) (kb_preV hH hK hN [0, 1, 2, 3, 4, 5, 6, 7, 8, 9, 10, 11, 12, 13, 14] rfl (by decide) 0 rfl rfl rfl rfl) rfl rfl hl.1 rfl (lv_room (Nat.le_of_ble_eq_true rfl)) dX8_readPart_37 ⟨Nat.le_of_ble_eq_true rfl, Nat.le_of_ble_eq_true rfl⟩) (fun H locs hH => ?_)
      refine lv_istore_n (lv' := [(2, .int q29.1), (0, .ref (g 0)), (1, .int x0)]) hx hb dX8_readPart_40 rfl hl (by decide) rfl (fun ls hl => ?_)
      refine lv_aload_n hx hb dX8_readPart_41 rfl (lv_at hl 1 rfl) ?_
      refine lv_iconst (v := 1) hx hb dX8_readPart_42 (by decide) ?_
      refine lv_iconst (v := 3) hx hb dX8_readPart_43 (by decide) ?_
      obtain ⟨hz32, hD⟩ := hD
      obtain ⟨q31, hq31⟩ : ∃ z, z = (f_X8_figure q29.2 (1 : Int32) (3 : Int32)) := ⟨_, rfl⟩
      have hF := kAp_eq hF hq31
      have hD := kAp_D hD hq31
      refine kb_ci hH hA [0, 1, 2, 3, 4, 5, 6, 7, 8, 9, 10, 11, 12, 13, 14] (Wc := (w_O8 G g q29.2)) (Wc' := (w_O8 G g q31.2)) (WS' := (w_O8 G g q31.2)) rfl (by decide) rfl rfl (va_runV (As := [.int (1 : Int32), .int (3 : Int32)]) (rest := []) ⟨hx, hb, hml, hown, hts⟩ (c_X8_figure l G g q29.2 (1 : Int32) (3 : Int32) hz32 hq31.symm _) (cwV 2 hts gX8_readPart_X8_figure rfl rfl rfl he_X8_figure ⟨Nat.le_of_ble_eq_true rfl, Nat.le_of_ble_eq_true rfl⟩) (kb_preV hH hK hN [0, 1, 2, 3, 4, 5, 6, 7, 8, 9, 10, 11, 12, 13, 14] rfl (by decide) 0 rfl rfl rfl rfl) rfl rfl hl.1 rfl (lv_room (Nat.le_of_ble_eq_true rfl)) dX8_readPart_44 ⟨Nat.le_of_ble_eq_true rfl, Nat.le_of_ble_eq_true rfl⟩) (fun H locs hH => ?_)
      refine lv_istore_n (lv' := [(3, .int q31.1), (2, .int q29.1), (0, .ref (g 0)), (1, .int x0)]) hx hb dX8_readPart_47 rfl hl (by decide) rfl (fun ls hl => ?_)
      refine lv_aload_n hx hb dX8_readPart_48 rfl (lv_at hl 2 rfl) ?_
      refine kb_get (v := .ref (g 7)) hx hb hts hin8 hown hK hH 0 rfl rfl rfl 6 (by decide) (hts (.fieldLink RX8 22 "CockWarModel" "read" "[I") (List.mem_of_getElem? (i := 3) rfl)) (fun _ h9 => h9) rfl dX8_readPart_49 ?_
      refine lv_bipush (v := 12) hx hb dX8_readPart_52 (by decide) ?_
      refine lv_iload_n hx hb dX8_readPart_54 rfl (lv_at hl 1 rfl) ?_
      refine lv_iadd hx hb dX8_readPart_55 ?_
      refine lv_aload_n hx hb dX8_readPart_56 rfl (lv_at hl 2 rfl) ?_
      refine kb_get (v := .int (q31.2.2.1 17)) hx hb hts hin8 hown hK hH 0 rfl rfl rfl 17 (by decide) (hts (.fieldLink RX8 66 "CockWarModel" "faultAt" "I") (List.mem_of_getElem? (i := 4) rfl)) (fun _ h9 => h9) rfl dX8_readPart_57 ?_
      refine lv_bipush (v := -9) hx hb dX8_readPart_60 (by decide) ?_
      obtain ⟨v35, ev35⟩ : ∃ z : Int32, (if (q31.2.2.1 17) = (-9 : Int32) then q31.1 else ((q31.2.1 6) ((12 : Int32) + q29.1).toNatClampNeg)) = z := ⟨_, rfl⟩
      have hF := kAp_eq hF ev35.symm
      obtain ⟨hDr, hD⟩ := hD
      have hD := kAp_D hD ev35.symm
      refine kb_cut (fun H locs ls => HP G A s.heap (w_O8 G g q31.2) H locs ∧ lv_has ls 4 [(2, .int q29.1), (0, .ref (g 0))]) 78 [.int v35, .int ((12 : Int32) + q29.1), .ref (g 7)] (fun u33 => ?_) (fun H locs ls hX => ?_)
      · have hD := hDr
        refine lv_icmp_ne (tgt := 69) hx hb dX8_readPart_62 (by decide) (fun c36 => ?_) (fun c36 => ?_)
        · have hD := hD c36
          rw [if_neg c36] at ev35
          refine lv_aload_n hx hb dX8_readPart_69 rfl (lv_at hl 2 rfl) ?_
          refine kb_get (v := .ref (g 7)) hx hb hts hin8 hown hK hH 0 rfl rfl rfl 6 (by decide) (hts (.fieldLink RX8 22 "CockWarModel" "read" "[I") (List.mem_of_getElem? (i := 3) rfl)) (fun _ h9 => h9) rfl dX8_readPart_70 ?_
          refine lv_bipush (v := 12) hx hb dX8_readPart_73 (by decide) ?_
          refine lv_iload_n hx hb dX8_readPart_75 rfl (lv_at hl 1 rfl) ?_
          refine lv_iadd hx hb dX8_readPart_76 ?_
          have hz37 := hD
          refine kb_iald hx hb hK hH 5 rfl hz37 dX8_readPart_77 ?_
          subst ev35
          exact u33 _ _ _ ⟨hH, lv_sub hl [1, 2] rfl⟩
        · rw [if_pos c36] at ev35
          refine lv_iload_n hx hb dX8_readPart_65 rfl (lv_at hl 0 rfl) ?_
          refine lv_goto (tgt := 78) hx hb dX8_readPart_66 (by decide) ?_
          subst ev35
          exact u33 _ _ _ ⟨hH, lv_sub hl [1, 2] rfl⟩
      · obtain ⟨hH, hl⟩ := hX
        have hz38 := hD
        refine kb_iast (WS' := (w_O8 G g (oA q31.2 6 (upd (q31.2.1 6) ((12 : Int32) + q29.1).toNatClampNeg v35)))) hx hb hK hH 5 rfl hz38 rfl dX8_readPart_78 (fun H locs hH => ?_)
        refine lv_aload_n hx hb dX8_readPart_79 rfl (lv_at hl 1 rfl) ?_
        refine lv_dup hx hb dX8_readPart_80 rfl ?_
        refine kb_get (v := .int (q31.2.2.1 12)) hx hb hts hin8 hown hK hH 0 rfl rfl rfl 12 (by decide) (hts (.fieldLink RX8 84 "CockWarModel" "readTrees" "I") (List.mem_of_getElem? (i := 1) rfl)) (fun _ h9 => h9) rfl dX8_readPart_81 ?_
        refine lv_aload_n hx hb dX8_readPart_84 rfl (lv_at hl 1 rfl) ?_
        refine kb_get (v := .int (q31.2.2.1 17)) hx hb hts hin8 hown hK hH 0 rfl rfl rfl 17 (by decide) (hts (.fieldLink RX8 66 "CockWarModel" "faultAt" "I") (List.mem_of_getElem? (i := 4) rfl)) (fun _ h9 => h9) rfl dX8_readPart_85 ?_
        refine lv_bipush (v := -9) hx hb dX8_readPart_88 (by decide) ?_
        refine lv_icmp_ne (tgt := 99) hx hb dX8_readPart_90 (by decide) (fun c39 => ?_) (fun c39 => ?_)
        · rw [if_neg c39] at hF
          refine lv_iconst (v := 0) hx hb dX8_readPart_99 (by decide) ?_
          refine lv_ior hx hb dX8_readPart_100 ?_
          refine kb_put (ty := .int) (v := .int ((q31.2.2.1 12) ||| (0 : Int32))) (WS' := (w_O8 G g (oI (oA q31.2 6 (upd (q31.2.1 6) ((12 : Int32) + q29.1).toNatClampNeg v35)) 12 ((q31.2.2.1 12) ||| (0 : Int32))))) hx hb hts hin8 tyX8 tyX8_ok nmX8 hown hK hH 0 rfl rfl 12 (by decide) (hts (.fieldLink RX8 84 "CockWarModel" "readTrees" "I") (List.mem_of_getElem? (i := 1) rfl)) (fun _ h9 => h9) rfl (by decide +kernel) rfl rfl (Nat.le_of_ble_eq_true rfl) rfl dX8_readPart_101 (fun H locs hH => ?_)
          refine lv_goto (tgt := 240) hx hb dX8_readPart_104 (by decide) ?_
          subst hF
          exact kb_vret hx hb hr hH rfl dX8_readPart_240 hlocks
        · rw [if_pos c39] at hF
          refine lv_iconst (v := 1) hx hb dX8_readPart_93 (by decide) ?_
          refine lv_iload_n hx hb dX8_readPart_94 rfl (lv_at hl 0 rfl) ?_
          refine lv_ishl hx hb dX8_readPart_95 ?_
          refine lv_goto (tgt := 100) hx hb dX8_readPart_96 (by decide) ?_
          refine lv_ior hx hb dX8_readPart_100 ?_
          refine kb_put (ty := .int) (v := .int ((q31.2.2.1 12) ||| ((1 : Int32) <<< (q29.1 &&& 31)))) (WS' := (w_O8 G g (oI (oA q31.2 6 (upd (q31.2.1 6) ((12 : Int32) + q29.1).toNatClampNeg v35)) 12 ((q31.2.2.1 12) ||| ((1 : Int32) <<< (q29.1 &&& 31)))))) hx hb hts hin8 tyX8 tyX8_ok nmX8 hown hK hH 0 rfl rfl 12 (by decide) (hts (.fieldLink RX8 84 "CockWarModel" "readTrees" "I") (List.mem_of_getElem? (i := 1) rfl)) (fun _ h9 => h9) rfl (by decide +kernel) rfl rfl (Nat.le_of_ble_eq_true rfl) rfl dX8_readPart_101 (fun H locs hH => ?_)
          refine lv_goto (tgt := 240) hx hb dX8_readPart_104 (by decide) ?_
          subst hF
          exact kb_vret hx hb hr hH rfl dX8_readPart_240 hlocks
def f_X8_readText_L1 (iL1 : Nat) (s : (OV)) : (OV) := (oA s 6 (upd (s.1 6) (nI iL1).toNatClampNeg (0 : Int32)))
def f_X8_readText_L6 (s : (OV)) : (OV) ⊕ (OV) := (if (s.2.1 17) = (-9 : Int32) then (if (s.2.1 15) ≤ (s.2.1 16) then (Sum.inr s) else (kAp (f_X8_readPart s ((s.1 14) (s.2.1 16).toNatClampNeg)) (fun q10 => (Sum.inl q10)))) else (Sum.inr s))
def d_X8_readText_L6 (s : (OV)) : Prop := ((s.2.1 17) = (-9 : Int32) → (¬ ((s.2.1 15) ≤ (s.2.1 16)) → (vp_in (s.2.1 16) 64 ∧ (d_X8_readPart s ((s.1 14) (s.2.1 16).toNatClampNeg)))))
def f_X8_readText (V : OV) : (Int32 × OV) := (kAp (lpu (f_X8_readText_L1) (cN (27 : Int32)) 0 (oI (oI (oI (oI (oI (oI V 10 (0 : Int32)) 11 (0 : Int32)) 12 (0 : Int32)) 13 (0 : Int32)) 16 (0 : Int32)) 17 (-9 : Int32))) (fun z3 => (if (z3.2.1 15) = 0 then ((0 : Int32), z3) else (if ((z3.1 14) (0 : Int32).toNatClampNeg) = (72 : Int32) then (kAp (lpw (f_X8_readText_L6) 70 (oI z3 16 (1 : Int32))) (fun z12 => ((z12.2.1 17), z12))) else ((0 : Int32), z3)))))
def d_X8_readText (V : OV) : Prop := (kAp (lpu (f_X8_readText_L1) (cN (27 : Int32)) 0 (oI (oI (oI (oI (oI (oI V 10 (0 : Int32)) 11 (0 : Int32)) 12 (0 : Int32)) 13 (0 : Int32)) 16 (0 : Int32)) 17 (-9 : Int32))) (fun z3 => (¬ ((z3.2.1 15) = 0) → (((z3.1 14) (0 : Int32).toNatClampNeg) = (72 : Int32) → (lpwD (f_X8_readText_L6) (d_X8_readText_L6) 70 (oI z3 16 (1 : Int32)))))))
set_option maxHeartbeats 4000000 in
set_option maxRecDepth 100000 in
theorem c_X8_readText (l : Launch) (G : Ge) (g : Nat → Nat) (V : OV) (hD : d_X8_readText V) {F : (Int32 × OV)} (hF : f_X8_readText V = F) : CI l yX8_readText wsX8_readText { frames := 4, cells := 0, slots := 0, locals := 94 } [.ref (g 0)] G (w_O8 G g V) (w_O8 G g F.2) F.1 := by
  intro sz
  refine Met.ofW (cc := cX8_readText) (maxL := 2) (ret := (some .int)) (by decide) rfl ?_
  intro p e s m args below meth c s₁ B hml hv
  obtain ⟨rfl, hpre⟩ := hv
  obtain ⟨hsz, hH, hK, hN, hA⟩ := kb_start hpre
  subst hsz
  have hx := B.exec
  have hb := B.bytes
  have hr := B.returns
  have hts := atoms_spec (ws := wsX8_readText) B.pre
  have hown : s.vm.findClass RX8 = some m.cls := findClass_of_methodNamed B.named
  have hlocks := B.notSynchronized
  generalize hAe : va_A (List.flatten (w_O8 G g V)) s.heap.size = A at hH hA ⊢
  have hl := lv_entry ([.ref (g 0)]) (n := 2) (Nat.le_of_ble_eq_true rfl)
  rw [lg_entry_eq]
  generalize (lg_sl ([.ref (g 0)]) ++ List.replicate (2 - (lg_sl ([.ref (g 0)])).length) Slot.unset).toArray = ls at hl ⊢
  have hl : lv_has ls 2 [(0, .ref (g 0))] := hl
  have hH : HP G A s.heap (w_O8 G g V) s.heap [] := hH
  have hin8 : ∀ w ∈ u_ws RX8 TX8 31, w ∈ wsX8_readText := fun w h => List.mem_cons_of_mem _ (List.mem_append_right _ h)
  have hF : (kAp (lpu (f_X8_readText_L1) (cN (27 : Int32)) 0 (oI (oI (oI (oI (oI (oI V 10 (0 : Int32)) 11 (0 : Int32)) 12 (0 : Int32)) 13 (0 : Int32)) 16 (0 : Int32)) 17 (-9 : Int32))) (fun z3 => (if (z3.2.1 15) = 0 then ((0 : Int32), z3) else (if ((z3.1 14) (0 : Int32).toNatClampNeg) = (72 : Int32) then (kAp (lpw (f_X8_readText_L6) 70 (oI z3 16 (1 : Int32))) (fun z12 => ((z12.2.1 17), z12))) else ((0 : Int32), z3))))) = F := hF
  have hD : (kAp (lpu (f_X8_readText_L1) (cN (27 : Int32)) 0 (oI (oI (oI (oI (oI (oI V 10 (0 : Int32)) 11 (0 : Int32)) 12 (0 : Int32)) 13 (0 : Int32)) 16 (0 : Int32)) 17 (-9 : Int32))) (fun z3 => (¬ ((z3.2.1 15) = 0) → (((z3.1 14) (0 : Int32).toNatClampNeg) = (72 : Int32) → (lpwD (f_X8_readText_L6) (d_X8_readText_L6) 70 (oI z3 16 (1 : Int32))))))) := hD
  refine lv_aload_n hx hb dX8_readText_0 rfl (lv_at hl 0 rfl) ?_
  refine lv_iconst (v := 0) hx hb dX8_readText_1 (by decide) ?_
  refine kb_put (ty := .int) (v := .int (0 : Int32)) (WS' := (w_O8 G g (oI V 16 (0 : Int32)))) hx hb hts hin8 tyX8 tyX8_ok nmX8 hown hK hH 0 rfl rfl 16 (by decide) (hts (.fieldLink RX8 69 "CockWarModel" "at" "I") (List.mem_of_getElem? (i := 1) rfl)) (fun _ h9 => h9) rfl (by decide +kernel) rfl rfl (Nat.le_of_ble_eq_true rfl) rfl dX8_readText_2 (fun H locs hH => ?_)
  refine lv_aload_n hx hb dX8_readText_5 rfl (lv_at hl 0 rfl) ?_
  refine lv_bipush (v := -9) hx hb dX8_readText_6 (by decide) ?_
  refine kb_put (ty := .int) (v := .int (-9 : Int32)) (WS' := (w_O8 G g (oI (oI V 16 (0 : Int32)) 17 (-9 : Int32)))) hx hb hts hin8 tyX8 tyX8_ok nmX8 hown hK hH 0 rfl rfl 17 (by decide) (hts (.fieldLink RX8 66 "CockWarModel" "faultAt" "I") (List.mem_of_getElem? (i := 2) rfl)) (fun _ h9 => h9) rfl (by decide +kernel) rfl rfl (Nat.le_of_ble_eq_true rfl) rfl dX8_readText_8 (fun H locs hH => ?_)
  refine lv_aload_n hx hb dX8_readText_11 rfl (lv_at hl 0 rfl) ?_
  refine lv_iconst (v := 0) hx hb dX8_readText_12 (by decide) ?_
  refine kb_put (ty := .int) (v := .int (0 : Int32)) (WS' := (w_O8 G g (oI (oI (oI V 10 (0 : Int32)) 16 (0 : Int32)) 17 (-9 : Int32)))) hx hb hts hin8 tyX8 tyX8_ok nmX8 hown hK hH 0 rfl rfl 10 (by decide) (hts (.fieldLink RX8 78 "CockWarModel" "readCocks" "I") (List.mem_of_getElem? (i := 3) rfl)) (fun _ h9 => h9) rfl (by decide +kernel) rfl rfl (Nat.le_of_ble_eq_true rfl) rfl dX8_readText_13 (fun H locs hH => ?_)
  refine lv_aload_n hx hb dX8_readText_16 rfl (lv_at hl 0 rfl) ?_
  refine lv_iconst (v := 0) hx hb dX8_readText_17 (by decide) ?_
  refine kb_put (ty := .int) (v := .int (0 : Int32)) (WS' := (w_O8 G g (oI (oI (oI (oI V 10 (0 : Int32)) 11 (0 : Int32)) 16 (0 : Int32)) 17 (-9 : Int32)))) hx hb hts hin8 tyX8 tyX8_ok nmX8 hown hK hH 0 rfl rfl 11 (by decide) (hts (.fieldLink RX8 81 "CockWarModel" "readWinds" "I") (List.mem_of_getElem? (i := 4) rfl)) (fun _ h9 => h9) rfl (by decide +kernel) rfl rfl (Nat.le_of_ble_eq_true rfl) rfl dX8_readText_18 (fun H locs hH => ?_)
  refine lv_aload_n hx hb dX8_readText_21 rfl (lv_at hl 0 rfl) ?_
  refine lv_iconst (v := 0) hx hb dX8_readText_22 (by decide) ?_
  refine kb_put (ty := .int) (v := .int (0 : Int32)) (WS' := (w_O8 G g (oI (oI (oI (oI (oI V 10 (0 : Int32)) 11 (0 : Int32)) 12 (0 : Int32)) 16 (0 : Int32)) 17 (-9 : Int32)))) hx hb hts hin8 tyX8 tyX8_ok nmX8 hown hK hH 0 rfl rfl 12 (by decide) (hts (.fieldLink RX8 84 "CockWarModel" "readTrees" "I") (List.mem_of_getElem? (i := 5) rfl)) (fun _ h9 => h9) rfl (by decide +kernel) rfl rfl (Nat.le_of_ble_eq_true rfl) rfl dX8_readText_23 (fun H locs hH => ?_)
  refine lv_aload_n hx hb dX8_readText_26 rfl (lv_at hl 0 rfl) ?_
  refine lv_iconst (v := 0) hx hb dX8_readText_27 (by decide) ?_
  refine kb_put (ty := .int) (v := .int (0 : Int32)) (WS' := (w_O8 G g (oI (oI (oI (oI (oI (oI V 10 (0 : Int32)) 11 (0 : Int32)) 12 (0 : Int32)) 13 (0 : Int32)) 16 (0 : Int32)) 17 (-9 : Int32)))) hx hb hts hin8 tyX8 tyX8_ok nmX8 hown hK hH 0 rfl rfl 13 (by decide) (hts (.fieldLink RX8 87 "CockWarModel" "readCells" "I") (List.mem_of_getElem? (i := 6) rfl)) (fun _ h9 => h9) rfl (by decide +kernel) rfl rfl (Nat.le_of_ble_eq_true rfl) rfl dX8_readText_28 (fun H locs hH => ?_)
  refine lv_iconst (v := 0) hx hb dX8_readText_31 (by decide) ?_
  refine lv_istore_n (lv' := [(1, .int (0 : Int32)), (0, .ref (g 0))]) hx hb dX8_readText_32 rfl hl (by decide) rfl (fun ls hl => ?_)
  obtain ⟨SFL1, hSFL1⟩ : ∃ z, z = (lpu (f_X8_readText_L1) (cN (27 : Int32)) 0 (oI (oI (oI (oI (oI (oI V 10 (0 : Int32)) 11 (0 : Int32)) 12 (0 : Int32)) 13 (0 : Int32)) 16 (0 : Int32)) 17 (-9 : Int32))) := ⟨_, rfl⟩
  have hF := kAp_eq hF hSFL1
  have hD := kAp_D hD hSFL1
  refine kb_cut (fun H locs ls => HP G A s.heap (w_O8 G g SFL1) H locs ∧ lv_has ls 2 [(0, .ref (g 0))]) 52 [] (fun EXL1 => ?_) (fun H locs ls hX => ?_)
  · refine kb_loop (σ := (OV)) (fun n i x => n + i = (cN (27 : Int32)) ∧ lpu (f_X8_readText_L1) n i x = SFL1) (fun iL1 x H locs ls => HP G A s.heap (w_O8 G g x) H locs ∧ lv_has ls 2 [(1, .int (nI iL1)), (0, .ref (g 0))]) (fun iL1 x H locs ls hI hX => ?_) (fun n iL1 x hI ihL1 H locs ls hX => ?_) (cN (27 : Int32)) 0 (oI (oI (oI (oI (oI (oI V 10 (0 : Int32)) 11 (0 : Int32)) 12 (0 : Int32)) 13 (0 : Int32)) 16 (0 : Int32)) 17 (-9 : Int32)) _ _ _ ⟨Nat.add_zero _, hSFL1.symm⟩ ⟨hH, lv_sub hl [0, 1] rfl⟩
    · obtain ⟨L1a, exL1a⟩ : ∃ z, z = x := ⟨_, rfl⟩
      subst exL1a
      have hH : HP G A s.heap (w_O8 G g L1a) H locs := hX.1
      have hl : lv_has ls 2 [(1, .int (nI iL1)), (0, .ref (g 0))] := hX.2
      obtain ⟨hiL1, hs⟩ := hI
      have hiL1 : iL1 = (cN (27 : Int32)) := by omega
      refine lv_iload_n hx hb dX8_readText_33 rfl (lv_at hl 0 rfl) ?_
      refine lv_bipush (v := 27) hx hb dX8_readText_34 (by decide) ?_
      refine lv_icmp_ge (tgt := 52) hx hb dX8_readText_36 (by decide) (fun _ => ?_) (fun c => absurd (cN_end hiL1) c)
      exact EXL1 _ _ _ ⟨by subst hs; exact hH, by subst hs; exact lv_sub hl [1] rfl⟩
    · obtain ⟨L1a, exL1a⟩ : ∃ z, z = x := ⟨_, rfl⟩
      subst exL1a
      have hH : HP G A s.heap (w_O8 G g L1a) H locs := hX.1
      have hl : lv_has ls 2 [(1, .int (nI iL1)), (0, .ref (g 0))] := hX.2
      obtain ⟨hiL1, hs⟩ := hI
      have hltL1 : iL1 < (cN (27 : Int32)) := by omega
      obtain ⟨BVL1, hBd⟩ : ∃ z, (f_X8_readText_L1) iL1 L1a = z := ⟨_, rfl⟩
      have hs : lpu (f_X8_readText_L1) n (iL1 + 1) BVL1 = SFL1 := by rw [← hBd]; exact hs
      have hBL1 : (oA L1a 6 (upd (L1a.1 6) (nI iL1).toNatClampNeg (0 : Int32))) = BVL1 := hBd
      refine lv_iload_n hx hb dX8_readText_33 rfl (lv_at hl 0 rfl) ?_
      refine lv_bipush (v := 27) hx hb dX8_readText_34 (by decide) ?_
      refine lv_icmp_ge (tgt := 52) hx hb dX8_readText_36 (by decide) (fun c => absurd c (cN_ge hltL1)) (fun c2 => ?_)
      refine lv_aload_n hx hb dX8_readText_39 rfl (lv_at hl 1 rfl) ?_
      refine kb_get (v := .ref (g 7)) hx hb hts hin8 hown hK hH 0 rfl rfl rfl 6 (by decide) (hts (.fieldLink RX8 22 "CockWarModel" "read" "[I") (List.mem_of_getElem? (i := 7) rfl)) (fun _ h9 => h9) rfl dX8_readText_40 ?_
      refine lv_iload_n hx hb dX8_readText_43 rfl (lv_at hl 0 rfl) ?_
      refine lv_iconst (v := 0) hx hb dX8_readText_44 (by decide) ?_
      refine kb_iast (WS' := (w_O8 G g (oA L1a 6 (upd (L1a.1 6) (nI iL1).toNatClampNeg (0 : Int32))))) hx hb hK hH 5 rfl (vp_in_nI (Nat.lt_of_lt_of_le hltL1 (by decide)) (by decide)) rfl dX8_readText_45 (fun H locs hH => ?_)
      refine lv_iinc (v := (nI (iL1 + 1))) (lv' := [(1, .int (nI (iL1 + 1))), (0, .ref (g 0))]) hx hb dX8_readText_46 hl (k := 0) rfl (nI_1 _) (by decide) rfl (fun ls hl => ?_)
      refine lv_goto (tgt := 33) hx hb dX8_readText_49 (by decide) ?_
      subst hBL1
      exact ihL1 _ _ _ _ ⟨by omega, hs⟩ ⟨hH, lv_sub hl [0, 1] rfl⟩
  · obtain ⟨hH, hl⟩ := hX
    refine lv_aload_n hx hb dX8_readText_52 rfl (lv_at hl 0 rfl) ?_
    refine kb_get (v := .int (SFL1.2.1 15)) hx hb hts hin8 hown hK hH 0 rfl rfl rfl 15 (by decide) (hts (.fieldLink RX8 63 "CockWarModel" "length" "I") (List.mem_of_getElem? (i := 8) rfl)) (fun _ h9 => h9) rfl dX8_readText_53 ?_
    refine lv_if_eq (tgt := 70) hx hb dX8_readText_56 (by decide) (fun c4 => ?_) (fun c4 => ?_)
    · rw [if_pos c4] at hF
      refine lv_iconst (v := 0) hx hb dX8_readText_70 (by decide) ?_
      subst hF
      exact kb_iret hx hb hr hH rfl rfl dX8_readText_71 hlocks
    · have hD := hD c4
      rw [if_neg c4] at hF
      refine lv_aload_n hx hb dX8_readText_59 rfl (lv_at hl 0 rfl) ?_
      refine kb_get (v := .ref (g 15)) hx hb hts hin8 hown hK hH 0 rfl rfl rfl 14 (by decide) (hts (.fieldLink RX8 34 "CockWarModel" "text" "[I") (List.mem_of_getElem? (i := 9) rfl)) (fun _ h9 => h9) rfl dX8_readText_60 ?_
      refine lv_iconst (v := 0) hx hb dX8_readText_63 (by decide) ?_
      refine kb_iald hx hb hK hH 9 rfl (show ¬ ((0 : Int32) < 0 ∨ 64 ≤ (0 : Int32).toNatClampNeg) by decide) dX8_readText_64 ?_
      refine lv_bipush (v := 72) hx hb dX8_readText_65 (by decide) ?_
      refine lv_icmp_eq (tgt := 72) hx hb dX8_readText_67 (by decide) (fun c5 => ?_) (fun c5 => ?_)
      · have hD := hD c5
        rw [if_pos c5] at hF
        refine lv_aload_n hx hb dX8_readText_72 rfl (lv_at hl 0 rfl) ?_
        refine lv_iconst (v := 1) hx hb dX8_readText_73 (by decide) ?_
        refine kb_put (ty := .int) (v := .int (1 : Int32)) (WS' := (w_O8 G g (oI SFL1 16 (1 : Int32)))) hx hb hts hin8 tyX8 tyX8_ok nmX8 hown hK hH 0 rfl rfl 16 (by decide) (hts (.fieldLink RX8 69 "CockWarModel" "at" "I") (List.mem_of_getElem? (i := 1) rfl)) (fun _ h9 => h9) rfl (by decide +kernel) rfl rfl (Nat.le_of_ble_eq_true rfl) rfl dX8_readText_74 (fun H locs hH => ?_)
        have hDlL6 := hD
        obtain ⟨SFL6, hSFL6⟩ : ∃ z, z = (lpw (f_X8_readText_L6) 70 (oI SFL1 16 (1 : Int32))) := ⟨_, rfl⟩
        have hF := kAp_eq hF hSFL6
        refine kb_cut (fun H locs ls => HP G A s.heap (w_O8 G g SFL6) H locs ∧ lv_has ls 2 [(0, .ref (g 0))]) 113 [] (fun EXL6 => ?_) (fun H locs ls hX => ?_)
        · refine kb_loop (σ := (OV)) (fun n i x => True ∧ lpw (f_X8_readText_L6) n x = SFL6 ∧ lpwD (f_X8_readText_L6) (d_X8_readText_L6) n x) (fun iL6 x H locs ls => HP G A s.heap (w_O8 G g x) H locs ∧ lv_has ls 2 [(0, .ref (g 0))]) (fun iL6 x H locs ls hI hX => ?_) (fun n iL6 x hI ihL6 H locs ls hX => ?_) 70 0 (oI SFL1 16 (1 : Int32)) _ _ _ ⟨trivial, hSFL6.symm, hDlL6⟩ ⟨hH, lv_sub hl [0] rfl⟩
          · obtain ⟨L6a, exL6a⟩ : ∃ z, z = x := ⟨_, rfl⟩
            subst exL6a
            have hH : HP G A s.heap (w_O8 G g L6a) H locs := hX.1
            have hl : lv_has ls 2 [(0, .ref (g 0))] := hX.2
            exact absurd hI.2.2 (by simp [lpwD])
          · obtain ⟨L6a, exL6a⟩ : ∃ z, z = x := ⟨_, rfl⟩
            subst exL6a
            have hH : HP G A s.heap (w_O8 G g L6a) H locs := hX.1
            have hl : lv_has ls 2 [(0, .ref (g 0))] := hX.2
            obtain ⟨hiL6, hs, hDi⟩ := hI
            obtain ⟨hD, hDn⟩ := hDi
            have hD : ((L6a.2.1 17) = (-9 : Int32) → (¬ ((L6a.2.1 15) ≤ (L6a.2.1 16)) → (vp_in (L6a.2.1 16) 64 ∧ (d_X8_readPart L6a ((L6a.1 14) (L6a.2.1 16).toNatClampNeg))))) := hD
            obtain ⟨BVL6, hBd⟩ : ∃ z, (f_X8_readText_L6) L6a = z := ⟨_, rfl⟩
            have hBL6 : (if (L6a.2.1 17) = (-9 : Int32) then (if (L6a.2.1 15) ≤ (L6a.2.1 16) then (Sum.inr L6a) else (kAp (f_X8_readPart L6a ((L6a.1 14) (L6a.2.1 16).toNatClampNeg)) (fun q10 => (Sum.inl q10)))) else (Sum.inr L6a)) = BVL6 := hBd
            refine lv_aload_n hx hb dX8_readText_77 rfl (lv_at hl 0 rfl) ?_
            refine kb_get (v := .int (L6a.2.1 17)) hx hb hts hin8 hown hK hH 0 rfl rfl rfl 17 (by decide) (hts (.fieldLink RX8 66 "CockWarModel" "faultAt" "I") (List.mem_of_getElem? (i := 2) rfl)) (fun _ h9 => h9) rfl dX8_readText_78 ?_
            refine lv_bipush (v := -9) hx hb dX8_readText_81 (by decide) ?_
            refine lv_icmp_ne (tgt := 113) hx hb dX8_readText_83 (by decide) (fun c7 => ?_) (fun c7 => ?_)
            · rw [if_neg c7] at hBL6
              have hs := lpw_r hs (hBd.trans hBL6.symm)
              exact EXL6 _ _ _ ⟨by subst hs; exact hH, by subst hs; exact lv_sub hl [0] rfl⟩
            · have hD := hD c7
              rw [if_pos c7] at hBL6
              refine lv_aload_n hx hb dX8_readText_86 rfl (lv_at hl 0 rfl) ?_
              refine kb_get (v := .int (L6a.2.1 16)) hx hb hts hin8 hown hK hH 0 rfl rfl rfl 16 (by decide) (hts (.fieldLink RX8 69 "CockWarModel" "at" "I") (List.mem_of_getElem? (i := 1) rfl)) (fun _ h9 => h9) rfl dX8_readText_87 ?_
              refine lv_aload_n hx hb dX8_readText_90 rfl (lv_at hl 0 rfl) ?_
              refine kb_get (v := .int (L6a.2.1 15)) hx hb hts hin8 hown hK hH 0 rfl rfl rfl 15 (by decide) (hts (.fieldLink RX8 63 "CockWarModel" "length" "I") (List.mem_of_getElem? (i := 8) rfl)) (fun _ h9 => h9) rfl dX8_readText_91 ?_
              refine lv_icmp_ge (tgt := 113) hx hb dX8_readText_94 (by decide) (fun c8 => ?_) (fun c8 => ?_)
              · rw [if_pos c8] at hBL6
                have hs := lpw_r hs (hBd.trans hBL6.symm)
                exact EXL6 _ _ _ ⟨by subst hs; exact hH, by subst hs; exact lv_sub hl [0] rfl⟩
              · have hD := hD c8
                rw [if_neg c8] at hBL6
                refine lv_aload_n hx hb dX8_readText_97 rfl (lv_at hl 0 rfl) ?_
                refine lv_aload_n hx hb dX8_readText_98 rfl (lv_at hl 0 rfl) ?_
                refine kb_get (v := .ref (g 15)) hx hb hts hin8 hown hK hH 0 rfl rfl rfl 14 (by decide) (hts (.fieldLink RX8 34 "CockWarModel" "text" "[I") (List.mem_of_getElem? (i := 9) rfl)) (fun _ h9 => h9) rfl dX8_readText_99 ?_
                refine lv_aload_n hx hb dX8_readText_102 rfl (lv_at hl 0 rfl) ?_
                refine kb_get (v := .int (L6a.2.1 16)) hx hb hts hin8 hown hK hH 0 rfl rfl rfl 16 (by decide) (hts (.fieldLink RX8 69 "CockWarModel" "at" "I") (List.mem_of_getElem? (i := 1) rfl)) (fun _ h9 => h9) rfl dX8_readText_103 ?_
                obtain ⟨hz9, hD⟩ := hD
                refine kb_iald hx hb hK hH 9 rfl hz9 dX8_readText_106 ?_
                have hz11 := hD
                obtain ⟨q10, hq10⟩ : ∃ z, z = (f_X8_readPart L6a ((L6a.1 14) (L6a.2.1 16).toNatClampNeg)) := ⟨_, rfl⟩
                have hBL6 := kAp_eq hBL6 hq10
                refine kb_cv hH hA [0, 1, 2, 3, 4, 5, 6, 7, 8, 9, 10, 11, 12, 13, 14] (Wc := (w_O8 G g L6a)) (Wc' := (w_O8 G g q10)) (WS' := (w_O8 G g q10)) rfl (by decide) rfl rfl (va_runV (As := [.int ((L6a.1 14) (L6a.2.1 16).toNatClampNeg)]) (rest := []) ⟨hx, hb, hml, hown, hts⟩ (c_X8_readPart l G g L6a ((L6a.1 14) (L6a.2.1 16).toNatClampNeg) hz11 hq10.symm _) (cwV 1 hts gX8_readText_X8_readPart rfl rfl rfl he_X8_readPart ⟨Nat.le_of_ble_eq_true rfl, Nat.le_of_ble_eq_true rfl⟩) (kb_preV hH hK hN [0, 1, 2, 3, 4, 5, 6, 7, 8, 9, 10, 11, 12, 13, 14] rfl (by decide) 0 rfl rfl rfl rfl) rfl rfl hl.1 rfl (lv_room (Nat.le_of_ble_eq_true rfl)) dX8_readText_107 ⟨Nat.le_of_ble_eq_true rfl, Nat.le_of_ble_eq_true rfl⟩) (fun H locs hH => ?_)
                refine lv_goto (tgt := 77) hx hb dX8_readText_110 (by decide) ?_
                have hs := lpw_l hs (hBd.trans hBL6.symm)
                have hDn := hDn _ (hBd.trans hBL6.symm)
                exact ihL6 _ _ _ _ ⟨trivial, hs, hDn⟩ ⟨hH, lv_sub hl [0] rfl⟩
        · obtain ⟨hH, hl⟩ := hX
          refine lv_aload_n hx hb dX8_readText_113 rfl (lv_at hl 0 rfl) ?_
          refine kb_get (v := .int (SFL6.2.1 17)) hx hb hts hin8 hown hK hH 0 rfl rfl rfl 17 (by decide) (hts (.fieldLink RX8 66 "CockWarModel" "faultAt" "I") (List.mem_of_getElem? (i := 2) rfl)) (fun _ h9 => h9) rfl dX8_readText_114 ?_
          subst hF
          exact kb_iret hx hb hr hH rfl rfl dX8_readText_117 hlocks
      · rw [if_neg c5] at hF
        refine lv_iconst (v := 0) hx hb dX8_readText_70 (by decide) ?_
        subst hF
        exact kb_iret hx hb hr hH rfl rfl dX8_readText_71 hlocks
def f_X8_fault (V : OV) : (Int32 × OV) := (kAp (f_X8_readText V) (fun q1 => (q1.1, q1.2)))
def d_X8_fault (V : OV) : Prop := (d_X8_readText V)
set_option maxHeartbeats 4000000 in
set_option maxRecDepth 100000 in
theorem c_X8_fault (l : Launch) (G : Ge) (g : Nat → Nat) (V : OV) (hD : d_X8_fault V) {F : (Int32 × OV)} (hF : f_X8_fault V = F) : CI l yX8_fault wsX8_fault { frames := 5, cells := 0, slots := 0, locals := 115 } [.ref (g 0)] G (w_O8 G g V) (w_O8 G g F.2) F.1 := by
  intro sz
  refine Met.ofW (cc := cX8_fault) (maxL := 1) (ret := (some .int)) (by decide) rfl ?_
  intro p e s m args below meth c s₁ B hml hv
  obtain ⟨rfl, hpre⟩ := hv
  obtain ⟨hsz, hH, hK, hN, hA⟩ := kb_start hpre
  subst hsz
  have hx := B.exec
  have hb := B.bytes
  have hr := B.returns
  have hts := atoms_spec (ws := wsX8_fault) B.pre
  have hown : s.vm.findClass RX8 = some m.cls := findClass_of_methodNamed B.named
  have hlocks := B.notSynchronized
  generalize hAe : va_A (List.flatten (w_O8 G g V)) s.heap.size = A at hH hA ⊢
  have hl := lv_entry ([.ref (g 0)]) (n := 1) (Nat.le_of_ble_eq_true rfl)
  rw [lg_entry_eq]
  generalize (lg_sl ([.ref (g 0)]) ++ List.replicate (1 - (lg_sl ([.ref (g 0)])).length) Slot.unset).toArray = ls at hl ⊢
  have hl : lv_has ls 1 [(0, .ref (g 0))] := hl
  have hH : HP G A s.heap (w_O8 G g V) s.heap [] := hH
  have hF : (kAp (f_X8_readText V) (fun q1 => (q1.1, q1.2))) = F := hF
  have hD : (d_X8_readText V) := hD
  refine lv_aload_n hx hb dX8_fault_0 rfl (lv_at hl 0 rfl) ?_
  have hz2 := hD
  obtain ⟨q1, hq1⟩ : ∃ z, z = (f_X8_readText V) := ⟨_, rfl⟩
  have hF := kAp_eq hF hq1
  refine kb_ci hH hA [0, 1, 2, 3, 4, 5, 6, 7, 8, 9, 10, 11, 12, 13, 14] (Wc := (w_O8 G g V)) (Wc' := (w_O8 G g q1.2)) (WS' := (w_O8 G g q1.2)) rfl (by decide) rfl rfl (va_runV (As := []) (rest := []) ⟨hx, hb, hml, hown, hts⟩ (c_X8_readText l G g V hz2 hq1.symm _) (cwV 0 hts gX8_fault_X8_readText rfl rfl rfl he_X8_readText ⟨Nat.le_of_ble_eq_true rfl, Nat.le_of_ble_eq_true rfl⟩) (kb_preV hH hK hN [0, 1, 2, 3, 4, 5, 6, 7, 8, 9, 10, 11, 12, 13, 14] rfl (by decide) 0 rfl rfl rfl rfl) rfl rfl hl.1 rfl (lv_room (Nat.le_of_ble_eq_true rfl)) dX8_fault_1 ⟨Nat.le_of_ble_eq_true rfl, Nat.le_of_ble_eq_true rfl⟩) (fun H locs hH => ?_)
  subst hF
  exact kb_iret hx hb hr hH rfl rfl dX8_fault_4 hlocks
def f_X8_hill_L4 (iL4 : Nat) (s : (OV)) : (OV) := (oA (oA s 2 (upd (s.1 2) (nI iL4).toNatClampNeg ((s.1 7) (nI iL4).toNatClampNeg))) 3 (upd (s.1 3) (nI iL4).toNatClampNeg ((s.1 8) (nI iL4).toNatClampNeg)))
def f_X8_hill_L7 (iL7 : Nat) (s : (OV)) : (OV) := (oA s 4 (upd (s.1 4) (nI iL7).toNatClampNeg ((s.1 9) (nI iL7).toNatClampNeg)))
def f_X8_hill_L10 (iL10 : Nat) (s : (OV)) : (OV) := (oA s 5 (upd (s.1 5) (nI iL10).toNatClampNeg ((s.1 6) (nI iL10).toNatClampNeg)))
def f_X8_hill (V : OV) : (Int32 × OV) := (kAp (f_X8_readText V) (fun q1 => (if q1.1 = (-9 : Int32) then (kAp (lpu (f_X8_hill_L4) (cN (6 : Int32)) 0 (oI (oI q1.2 0 (q1.2.2.1 10)) 1 (q1.2.2.1 11))) (fun z6 => (kAp (lpu (f_X8_hill_L7) (cN (12 : Int32)) 0 z6) (fun z9 => (kAp (lpu (f_X8_hill_L10) (cN (27 : Int32)) 0 z9) (fun z12 => ((((10 : Int32) * (z12.2.1 0)) + (z12.2.1 1)), (oI (oA z12 29 (upd (upd (z12.1 29) (0 : Int32).toNatClampNeg (vp_nar .boolean (0 : Int32))) (1 : Int32).toNatClampNeg (vp_nar .boolean (0 : Int32)))) 18 (0 : Int32))))))))) else ((-3 : Int32), q1.2))))
def d_X8_hill (V : OV) : Prop := (d_X8_readText V)
set_option maxHeartbeats 4000000 in
set_option maxRecDepth 100000 in
theorem c_X8_hill (l : Launch) (G : Ge) (g : Nat → Nat) (V : OV) (hD : d_X8_hill V) {F : (Int32 × OV)} (hF : f_X8_hill V = F) : CI l yX8_hill wsX8_hill { frames := 5, cells := 0, slots := 0, locals := 115 } [.ref (g 0)] G (w_O8 G g V) (w_O8 G g F.2) F.1 := by
  intro sz
  refine Met.ofW (cc := cX8_hill) (maxL := 2) (ret := (some .int)) (by decide) rfl ?_
  intro p e s m args below meth c s₁ B hml hv
  obtain ⟨rfl, hpre⟩ := hv
  obtain ⟨hsz, hH, hK, hN, hA⟩ := kb_start hpre
  subst hsz
  have hx := B.exec
  have hb := B.bytes
  have hr := B.returns
  have hts := atoms_spec (ws := wsX8_hill) B.pre
  have hown : s.vm.findClass RX8 = some m.cls := findClass_of_methodNamed B.named
  have hlocks := B.notSynchronized
  generalize hAe : va_A (List.flatten (w_O8 G g V)) s.heap.size = A at hH hA ⊢
  have hl := lv_entry ([.ref (g 0)]) (n := 2) (Nat.le_of_ble_eq_true rfl)
  rw [lg_entry_eq]
  generalize (lg_sl ([.ref (g 0)]) ++ List.replicate (2 - (lg_sl ([.ref (g 0)])).length) Slot.unset).toArray = ls at hl ⊢
  have hl : lv_has ls 2 [(0, .ref (g 0))] := hl
  have hH : HP G A s.heap (w_O8 G g V) s.heap [] := hH
  have hin8 : ∀ w ∈ u_ws RX8 TX8 31, w ∈ wsX8_hill := fun w h => List.mem_cons_of_mem _ (List.mem_append_right _ h)
  have hF : (kAp (f_X8_readText V) (fun q1 => (if q1.1 = (-9 : Int32) then (kAp (lpu (f_X8_hill_L4) (cN (6 : Int32)) 0 (oI (oI q1.2 0 (q1.2.2.1 10)) 1 (q1.2.2.1 11))) (fun z6 => (kAp (lpu (f_X8_hill_L7) (cN (12 : Int32)) 0 z6) (fun z9 => (kAp (lpu (f_X8_hill_L10) (cN (27 : Int32)) 0 z9) (fun z12 => ((((10 : Int32) * (z12.2.1 0)) + (z12.2.1 1)), (oI (oA z12 29 (upd (upd (z12.1 29) (0 : Int32).toNatClampNeg (vp_nar .boolean (0 : Int32))) (1 : Int32).toNatClampNeg (vp_nar .boolean (0 : Int32)))) 18 (0 : Int32))))))))) else ((-3 : Int32), q1.2)))) = F := hF
  have hD : (d_X8_readText V) := hD
  refine lv_aload_n hx hb dX8_hill_0 rfl (lv_at hl 0 rfl) ?_
  have hz2 := hD
  obtain ⟨q1, hq1⟩ : ∃ z, z = (f_X8_readText V) := ⟨_, rfl⟩
  have hF := kAp_eq hF hq1
  refine kb_ci hH hA [0, 1, 2, 3, 4, 5, 6, 7, 8, 9, 10, 11, 12, 13, 14] (Wc := (w_O8 G g V)) (Wc' := (w_O8 G g q1.2)) (WS' := (w_O8 G g q1.2)) rfl (by decide) rfl rfl (va_runV (As := []) (rest := []) ⟨hx, hb, hml, hown, hts⟩ (c_X8_readText l G g V hz2 hq1.symm _) (cwV 0 hts gX8_hill_X8_readText rfl rfl rfl he_X8_readText ⟨Nat.le_of_ble_eq_true rfl, Nat.le_of_ble_eq_true rfl⟩) (kb_preV hH hK hN [0, 1, 2, 3, 4, 5, 6, 7, 8, 9, 10, 11, 12, 13, 14] rfl (by decide) 0 rfl rfl rfl rfl) rfl rfl hl.1 rfl (lv_room (Nat.le_of_ble_eq_true rfl)) dX8_hill_1 ⟨Nat.le_of_ble_eq_true rfl, Nat.le_of_ble_eq_true rfl⟩) (fun H locs hH => ?_)
  refine lv_bipush (v := -9) hx hb dX8_hill_4 (by decide) ?_
  refine lv_icmp_eq (tgt := 12) hx hb dX8_hill_6 (by decide) (fun c3 => ?_) (fun c3 => ?_)
  · rw [if_pos c3] at hF
    refine lv_aload_n hx hb dX8_hill_12 rfl (lv_at hl 0 rfl) ?_
    refine lv_aload_n hx hb dX8_hill_13 rfl (lv_at hl 0 rfl) ?_
    refine kb_get (v := .int (q1.2.2.1 10)) hx hb hts hin8 hown hK hH 0 rfl rfl rfl 10 (by decide) (hts (.fieldLink RX8 78 "CockWarModel" "readCocks" "I") (List.mem_of_getElem? (i := 1) rfl)) (fun _ h9 => h9) rfl dX8_hill_14 ?_
    refine kb_put (ty := .int) (v := .int (q1.2.2.1 10)) (WS' := (w_O8 G g (oI q1.2 0 (q1.2.2.1 10)))) hx hb hts hin8 tyX8 tyX8_ok nmX8 hown hK hH 0 rfl rfl 0 (by decide) (hts (.fieldLink RX8 53 "CockWarModel" "cocks" "I") (List.mem_of_getElem? (i := 2) rfl)) (fun _ h9 => h9) rfl (by decide +kernel) rfl rfl (Nat.le_of_ble_eq_true rfl) rfl dX8_hill_17 (fun H locs hH => ?_)
    refine lv_aload_n hx hb dX8_hill_20 rfl (lv_at hl 0 rfl) ?_
    refine lv_aload_n hx hb dX8_hill_21 rfl (lv_at hl 0 rfl) ?_
    refine kb_get (v := .int (q1.2.2.1 11)) hx hb hts hin8 hown hK hH 0 rfl rfl rfl 11 (by decide) (hts (.fieldLink RX8 81 "CockWarModel" "readWinds" "I") (List.mem_of_getElem? (i := 3) rfl)) (fun _ h9 => h9) rfl dX8_hill_22 ?_
    refine kb_put (ty := .int) (v := .int (q1.2.2.1 11)) (WS' := (w_O8 G g (oI (oI q1.2 0 (q1.2.2.1 10)) 1 (q1.2.2.1 11)))) hx hb hts hin8 tyX8 tyX8_ok nmX8 hown hK hH 0 rfl rfl 1 (by decide) (hts (.fieldLink RX8 109 "CockWarModel" "winds" "I") (List.mem_of_getElem? (i := 4) rfl)) (fun _ h9 => h9) rfl (by decide +kernel) rfl rfl (Nat.le_of_ble_eq_true rfl) rfl dX8_hill_25 (fun H locs hH => ?_)
    refine lv_iconst (v := 0) hx hb dX8_hill_28 (by decide) ?_
    refine lv_istore_n (lv' := [(1, .int (0 : Int32)), (0, .ref (g 0))]) hx hb dX8_hill_29 rfl hl (by decide) rfl (fun ls hl => ?_)
    obtain ⟨SFL4, hSFL4⟩ : ∃ z, z = (lpu (f_X8_hill_L4) (cN (6 : Int32)) 0 (oI (oI q1.2 0 (q1.2.2.1 10)) 1 (q1.2.2.1 11))) := ⟨_, rfl⟩
    have hF := kAp_eq hF hSFL4
    refine kb_cut (fun H locs ls => HP G A s.heap (w_O8 G g SFL4) H locs ∧ lv_has ls 2 [(0, .ref (g 0))]) 66 [] (fun EXL4 => ?_) (fun H locs ls hX => ?_)
    · refine kb_loop (σ := (OV)) (fun n i x => n + i = (cN (6 : Int32)) ∧ lpu (f_X8_hill_L4) n i x = SFL4) (fun iL4 x H locs ls => HP G A s.heap (w_O8 G g x) H locs ∧ lv_has ls 2 [(1, .int (nI iL4)), (0, .ref (g 0))]) (fun iL4 x H locs ls hI hX => ?_) (fun n iL4 x hI ihL4 H locs ls hX => ?_) (cN (6 : Int32)) 0 (oI (oI q1.2 0 (q1.2.2.1 10)) 1 (q1.2.2.1 11)) _ _ _ ⟨Nat.add_zero _, hSFL4.symm⟩ ⟨hH, lv_sub hl [0, 1] rfl⟩
      · obtain ⟨L4a, exL4a⟩ : ∃ z, z = x := ⟨_, rfl⟩
        subst exL4a
        have hH : HP G A s.heap (w_O8 G g L4a) H locs := hX.1
        have hl : lv_has ls 2 [(1, .int (nI iL4)), (0, .ref (g 0))] := hX.2
        obtain ⟨hiL4, hs⟩ := hI
        have hiL4 : iL4 = (cN (6 : Int32)) := by omega
        refine lv_iload_n hx hb dX8_hill_30 rfl (lv_at hl 0 rfl) ?_
        refine lv_bipush (v := 6) hx hb dX8_hill_31 (by decide) ?_
        refine lv_icmp_ge (tgt := 66) hx hb dX8_hill_33 (by decide) (fun _ => ?_) (fun c => absurd (cN_end hiL4) c)
        exact EXL4 _ _ _ ⟨by subst hs; exact hH, by subst hs; exact lv_sub hl [1] rfl⟩
      · obtain ⟨L4a, exL4a⟩ : ∃ z, z = x := ⟨_, rfl⟩
        subst exL4a
        have hH : HP G A s.heap (w_O8 G g L4a) H locs := hX.1
        have hl : lv_has ls 2 [(1, .int (nI iL4)), (0, .ref (g 0))] := hX.2
        obtain ⟨hiL4, hs⟩ := hI
        have hltL4 : iL4 < (cN (6 : Int32)) := by omega
        obtain ⟨BVL4, hBd⟩ : ∃ z, (f_X8_hill_L4) iL4 L4a = z := ⟨_, rfl⟩
        have hs : lpu (f_X8_hill_L4) n (iL4 + 1) BVL4 = SFL4 := by rw [← hBd]; exact hs
        have hBL4 : (oA (oA L4a 2 (upd (L4a.1 2) (nI iL4).toNatClampNeg ((L4a.1 7) (nI iL4).toNatClampNeg))) 3 (upd (L4a.1 3) (nI iL4).toNatClampNeg ((L4a.1 8) (nI iL4).toNatClampNeg))) = BVL4 := hBd
        refine lv_iload_n hx hb dX8_hill_30 rfl (lv_at hl 0 rfl) ?_
        refine lv_bipush (v := 6) hx hb dX8_hill_31 (by decide) ?_
        refine lv_icmp_ge (tgt := 66) hx hb dX8_hill_33 (by decide) (fun c => absurd c (cN_ge hltL4)) (fun c5 => ?_)
        refine lv_aload_n hx hb dX8_hill_36 rfl (lv_at hl 1 rfl) ?_
        refine kb_get (v := .ref (g 3)) hx hb hts hin8 hown hK hH 0 rfl rfl rfl 2 (by decide) (hts (.fieldLink RX8 7 "CockWarModel" "high" "[I") (List.mem_of_getElem? (i := 5) rfl)) (fun _ h9 => h9) rfl dX8_hill_37 ?_
        refine lv_iload_n hx hb dX8_hill_40 rfl (lv_at hl 0 rfl) ?_
        refine lv_aload_n hx hb dX8_hill_41 rfl (lv_at hl 1 rfl) ?_
        refine kb_get (v := .ref (g 8)) hx hb hts hin8 hown hK hH 0 rfl rfl rfl 7 (by decide) (hts (.fieldLink RX8 25 "CockWarModel" "readHigh" "[I") (List.mem_of_getElem? (i := 6) rfl)) (fun _ h9 => h9) rfl dX8_hill_42 ?_
        refine lv_iload_n hx hb dX8_hill_45 rfl (lv_at hl 0 rfl) ?_
        refine kb_iald hx hb hK hH 6 rfl (vp_in_nI (Nat.lt_of_lt_of_le hltL4 (by decide)) (by decide)) dX8_hill_46 ?_
        refine kb_iast (WS' := (w_O8 G g (oA L4a 2 (upd (L4a.1 2) (nI iL4).toNatClampNeg ((L4a.1 7) (nI iL4).toNatClampNeg))))) hx hb hK hH 1 rfl (vp_in_nI (Nat.lt_of_lt_of_le hltL4 (by decide)) (by decide)) rfl dX8_hill_47 (fun H locs hH => ?_)
        refine lv_aload_n hx hb dX8_hill_48 rfl (lv_at hl 1 rfl) ?_
        refine kb_get (v := .ref (g 4)) hx hb hts hin8 hown hK hH 0 rfl rfl rfl 3 (by decide) (hts (.fieldLink RX8 13 "CockWarModel" "weight" "[I") (List.mem_of_getElem? (i := 7) rfl)) (fun _ h9 => h9) rfl dX8_hill_49 ?_
        refine lv_iload_n hx hb dX8_hill_52 rfl (lv_at hl 0 rfl) ?_
        refine lv_aload_n hx hb dX8_hill_53 rfl (lv_at hl 1 rfl) ?_
        refine kb_get (v := .ref (g 9)) hx hb hts hin8 hown hK hH 0 rfl rfl rfl 8 (by decide) (hts (.fieldLink RX8 28 "CockWarModel" "readWeight" "[I") (List.mem_of_getElem? (i := 8) rfl)) (fun _ h9 => h9) rfl dX8_hill_54 ?_
        refine lv_iload_n hx hb dX8_hill_57 rfl (lv_at hl 0 rfl) ?_
        refine kb_iald hx hb hK hH 7 rfl (vp_in_nI (Nat.lt_of_lt_of_le hltL4 (by decide)) (by decide)) dX8_hill_58 ?_
        refine kb_iast (WS' := (w_O8 G g (oA (oA L4a 2 (upd (L4a.1 2) (nI iL4).toNatClampNeg ((L4a.1 7) (nI iL4).toNatClampNeg))) 3 (upd (L4a.1 3) (nI iL4).toNatClampNeg ((L4a.1 8) (nI iL4).toNatClampNeg))))) hx hb hK hH 2 rfl (vp_in_nI (Nat.lt_of_lt_of_le hltL4 (by decide)) (by decide)) rfl dX8_hill_59 (fun H locs hH => ?_)
        refine lv_iinc (v := (nI (iL4 + 1))) (lv' := [(1, .int (nI (iL4 + 1))), (0, .ref (g 0))]) hx hb dX8_hill_60 hl (k := 0) rfl (nI_1 _) (by decide) rfl (fun ls hl => ?_)
        refine lv_goto (tgt := 30) hx hb dX8_hill_63 (by decide) ?_
        subst hBL4
        exact ihL4 _ _ _ _ ⟨by omega, hs⟩ ⟨hH, lv_sub hl [0, 1] rfl⟩
    · obtain ⟨hH, hl⟩ := hX
      refine lv_iconst (v := 0) hx hb dX8_hill_66 (by decide) ?_
      refine lv_istore_n (lv' := [(1, .int (0 : Int32)), (0, .ref (g 0))]) hx hb dX8_hill_67 rfl hl (by decide) rfl (fun ls hl => ?_)
      obtain ⟨SFL7, hSFL7⟩ : ∃ z, z = (lpu (f_X8_hill_L7) (cN (12 : Int32)) 0 SFL4) := ⟨_, rfl⟩
      have hF := kAp_eq hF hSFL7
      refine kb_cut (fun H locs ls => HP G A s.heap (w_O8 G g SFL7) H locs ∧ lv_has ls 2 [(0, .ref (g 0))]) 92 [] (fun EXL7 => ?_) (fun H locs ls hX => ?_)
      · refine kb_loop (σ := (OV)) (fun n i x => n + i = (cN (12 : Int32)) ∧ lpu (f_X8_hill_L7) n i x = SFL7) (fun iL7 x H locs ls => HP G A s.heap (w_O8 G g x) H locs ∧ lv_has ls 2 [(1, .int (nI iL7)), (0, .ref (g 0))]) (fun iL7 x H locs ls hI hX => ?_) (fun n iL7 x hI ihL7 H locs ls hX => ?_) (cN (12 : Int32)) 0 SFL4 _ _ _ ⟨Nat.add_zero _, hSFL7.symm⟩ ⟨hH, lv_sub hl [0, 1] rfl⟩
        · obtain ⟨L7a, exL7a⟩ : ∃ z, z = x := ⟨_, rfl⟩
          subst exL7a
          have hH : HP G A s.heap (w_O8 G g L7a) H locs := hX.1
          have hl : lv_has ls 2 [(1, .int (nI iL7)), (0, .ref (g 0))] := hX.2
          obtain ⟨hiL7, hs⟩ := hI
          have hiL7 : iL7 = (cN (12 : Int32)) := by omega
          refine lv_iload_n hx hb dX8_hill_68 rfl (lv_at hl 0 rfl) ?_
          refine lv_bipush (v := 12) hx hb dX8_hill_69 (by decide) ?_
          refine lv_icmp_ge (tgt := 92) hx hb dX8_hill_71 (by decide) (fun _ => ?_) (fun c => absurd (cN_end hiL7) c)
          exact EXL7 _ _ _ ⟨by subst hs; exact hH, by subst hs; exact lv_sub hl [1] rfl⟩
        · obtain ⟨L7a, exL7a⟩ : ∃ z, z = x := ⟨_, rfl⟩
          subst exL7a
          have hH : HP G A s.heap (w_O8 G g L7a) H locs := hX.1
          have hl : lv_has ls 2 [(1, .int (nI iL7)), (0, .ref (g 0))] := hX.2
          obtain ⟨hiL7, hs⟩ := hI
          have hltL7 : iL7 < (cN (12 : Int32)) := by omega
          obtain ⟨BVL7, hBd⟩ : ∃ z, (f_X8_hill_L7) iL7 L7a = z := ⟨_, rfl⟩
          have hs : lpu (f_X8_hill_L7) n (iL7 + 1) BVL7 = SFL7 := by rw [← hBd]; exact hs
          have hBL7 : (oA L7a 4 (upd (L7a.1 4) (nI iL7).toNatClampNeg ((L7a.1 9) (nI iL7).toNatClampNeg))) = BVL7 := hBd
          refine lv_iload_n hx hb dX8_hill_68 rfl (lv_at hl 0 rfl) ?_
          refine lv_bipush (v := 12) hx hb dX8_hill_69 (by decide) ?_
          refine lv_icmp_ge (tgt := 92) hx hb dX8_hill_71 (by decide) (fun c => absurd c (cN_ge hltL7)) (fun c8 => ?_)
          refine lv_aload_n hx hb dX8_hill_74 rfl (lv_at hl 1 rfl) ?_
          refine kb_get (v := .ref (g 5)) hx hb hts hin8 hown hK hH 0 rfl rfl rfl 4 (by decide) (hts (.fieldLink RX8 16 "CockWarModel" "wind" "[I") (List.mem_of_getElem? (i := 9) rfl)) (fun _ h9 => h9) rfl dX8_hill_75 ?_
          refine lv_iload_n hx hb dX8_hill_78 rfl (lv_at hl 0 rfl) ?_
          refine lv_aload_n hx hb dX8_hill_79 rfl (lv_at hl 1 rfl) ?_
          refine kb_get (v := .ref (g 10)) hx hb hts hin8 hown hK hH 0 rfl rfl rfl 9 (by decide) (hts (.fieldLink RX8 31 "CockWarModel" "readWind" "[I") (List.mem_of_getElem? (i := 10) rfl)) (fun _ h9 => h9) rfl dX8_hill_80 ?_
          refine lv_iload_n hx hb dX8_hill_83 rfl (lv_at hl 0 rfl) ?_
          refine kb_iald hx hb hK hH 8 rfl (vp_in_nI (Nat.lt_of_lt_of_le hltL7 (by decide)) (by decide)) dX8_hill_84 ?_
          refine kb_iast (WS' := (w_O8 G g (oA L7a 4 (upd (L7a.1 4) (nI iL7).toNatClampNeg ((L7a.1 9) (nI iL7).toNatClampNeg))))) hx hb hK hH 3 rfl (vp_in_nI (Nat.lt_of_lt_of_le hltL7 (by decide)) (by decide)) rfl dX8_hill_85 (fun H locs hH => ?_)
          refine lv_iinc (v := (nI (iL7 + 1))) (lv' := [(1, .int (nI (iL7 + 1))), (0, .ref (g 0))]) hx hb dX8_hill_86 hl (k := 0) rfl (nI_1 _) (by decide) rfl (fun ls hl => ?_)
          refine lv_goto (tgt := 68) hx hb dX8_hill_89 (by decide) ?_
          subst hBL7
          exact ihL7 _ _ _ _ ⟨by omega, hs⟩ ⟨hH, lv_sub hl [0, 1] rfl⟩
      · obtain ⟨hH, hl⟩ := hX
        refine lv_iconst (v := 0) hx hb dX8_hill_92 (by decide) ?_
        refine lv_istore_n (lv' := [(1, .int (0 : Int32)), (0, .ref (g 0))]) hx hb dX8_hill_93 rfl hl (by decide) rfl (fun ls hl => ?_)
        obtain ⟨SFL10, hSFL10⟩ : ∃ z, z = (lpu (f_X8_hill_L10) (cN (27 : Int32)) 0 SFL7) := ⟨_, rfl⟩
        have hF := kAp_eq hF hSFL10
        refine kb_cut (fun H locs ls => HP G A s.heap (w_O8 G g SFL10) H locs ∧ lv_has ls 2 [(0, .ref (g 0))]) 118 [] (fun EXL10 => ?_) (fun H locs ls hX => ?_)
        · refine kb_loop (σ := (OV)) (fun n i x => n + i = (cN (27 : Int32)) ∧ lpu (f_X8_hill_L10) n i x = SFL10) (fun iL10 x H locs ls => HP G A s.heap (w_O8 G g x) H locs ∧ lv_has ls 2 [(1, .int (nI iL10)), (0, .ref (g 0))]) (fun iL10 x H locs ls hI hX => ?_) (fun n iL10 x hI ihL10 H locs ls hX => ?_) (cN (27 : Int32)) 0 SFL7 _ _ _ ⟨Nat.add_zero _, hSFL10.symm⟩ ⟨hH, lv_sub hl [0, 1] rfl⟩
          · obtain ⟨L10a, exL10a⟩ : ∃ z, z = x := ⟨_, rfl⟩
            subst exL10a
            have hH : HP G A s.heap (w_O8 G g L10a) H locs := hX.1
            have hl : lv_has ls 2 [(1, .int (nI iL10)), (0, .ref (g 0))] := hX.2
            obtain ⟨hiL10, hs⟩ := hI
            have hiL10 : iL10 = (cN (27 : Int32)) := by omega
            refine lv_iload_n hx hb dX8_hill_94 rfl (lv_at hl 0 rfl) ?_
            refine lv_bipush (v := 27) hx hb dX8_hill_95 (by decide) ?_
            refine lv_icmp_ge (tgt := 118) hx hb dX8_hill_97 (by decide) (fun _ => ?_) (fun c => absurd (cN_end hiL10) c)
            exact EXL10 _ _ _ ⟨by subst hs; exact hH, by subst hs; exact lv_sub hl [1] rfl⟩
          · obtain ⟨L10a, exL10a⟩ : ∃ z, z = x := ⟨_, rfl⟩
            subst exL10a
            have hH : HP G A s.heap (w_O8 G g L10a) H locs := hX.1
            have hl : lv_has ls 2 [(1, .int (nI iL10)), (0, .ref (g 0))] := hX.2
            obtain ⟨hiL10, hs⟩ := hI
            have hltL10 : iL10 < (cN (27 : Int32)) := by omega
            obtain ⟨BVL10, hBd⟩ : ∃ z, (f_X8_hill_L10) iL10 L10a = z := ⟨_, rfl⟩
            have hs : lpu (f_X8_hill_L10) n (iL10 + 1) BVL10 = SFL10 := by rw [← hBd]; exact hs
            have hBL10 : (oA L10a 5 (upd (L10a.1 5) (nI iL10).toNatClampNeg ((L10a.1 6) (nI iL10).toNatClampNeg))) = BVL10 := hBd
            refine lv_iload_n hx hb dX8_hill_94 rfl (lv_at hl 0 rfl) ?_
            refine lv_bipush (v := 27) hx hb dX8_hill_95 (by decide) ?_
            refine lv_icmp_ge (tgt := 118) hx hb dX8_hill_97 (by decide) (fun c => absurd c (cN_ge hltL10)) (fun c11 => ?_)
            refine lv_aload_n hx hb dX8_hill_100 rfl (lv_at hl 1 rfl) ?_
            refine kb_get (v := .ref (g 6)) hx hb hts hin8 hown hK hH 0 rfl rfl rfl 5 (by decide) (hts (.fieldLink RX8 19 "CockWarModel" "now" "[I") (List.mem_of_getElem? (i := 11) rfl)) (fun _ h9 => h9) rfl dX8_hill_101 ?_
            refine lv_iload_n hx hb dX8_hill_104 rfl (lv_at hl 0 rfl) ?_
            refine lv_aload_n hx hb dX8_hill_105 rfl (lv_at hl 1 rfl) ?_
            refine kb_get (v := .ref (g 7)) hx hb hts hin8 hown hK hH 0 rfl rfl rfl 6 (by decide) (hts (.fieldLink RX8 22 "CockWarModel" "read" "[I") (List.mem_of_getElem? (i := 12) rfl)) (fun _ h9 => h9) rfl dX8_hill_106 ?_
            refine lv_iload_n hx hb dX8_hill_109 rfl (lv_at hl 0 rfl) ?_
            refine kb_iald hx hb hK hH 5 rfl (vp_in_nI (Nat.lt_of_lt_of_le hltL10 (by decide)) (by decide)) dX8_hill_110 ?_
            refine kb_iast (WS' := (w_O8 G g (oA L10a 5 (upd (L10a.1 5) (nI iL10).toNatClampNeg ((L10a.1 6) (nI iL10).toNatClampNeg))))) hx hb hK hH 4 rfl (vp_in_nI (Nat.lt_of_lt_of_le hltL10 (by decide)) (by decide)) rfl dX8_hill_111 (fun H locs hH => ?_)
            refine lv_iinc (v := (nI (iL10 + 1))) (lv' := [(1, .int (nI (iL10 + 1))), (0, .ref (g 0))]) hx hb dX8_hill_112 hl (k := 0) rfl (nI_1 _) (by decide) rfl (fun ls hl => ?_)
            refine lv_goto (tgt := 94) hx hb dX8_hill_115 (by decide) ?_
            subst hBL10
            exact ihL10 _ _ _ _ ⟨by omega, hs⟩ ⟨hH, lv_sub hl [0, 1] rfl⟩
        · obtain ⟨hH, hl⟩ := hX
          refine lv_aload_n hx hb dX8_hill_118 rfl (lv_at hl 0 rfl) ?_
          refine lv_iconst (v := 0) hx hb dX8_hill_119 (by decide) ?_
          refine kb_put (ty := .int) (v := .int (0 : Int32)) (WS' := (w_O8 G g (oI SFL10 18 (0 : Int32)))) hx hb hts hin8 tyX8 tyX8_ok nmX8 hown hK hH 0 rfl rfl 18 (by decide) (hts (.fieldLink RX8 112 "CockWarModel" "acts" "I") (List.mem_of_getElem? (i := 13) rfl)) (fun _ h9 => h9) rfl (by decide +kernel) rfl rfl (Nat.le_of_ble_eq_true rfl) rfl dX8_hill_120 (fun H locs hH => ?_)
          refine lv_aload_n hx hb dX8_hill_123 rfl (lv_at hl 0 rfl) ?_
          refine kb_get (v := .ref (g 30)) hx hb hts hin8 hown hK hH 0 rfl rfl rfl 29 (by decide) (hts (.fieldLink RX8 46 "CockWarModel" "isKept" "[Z") (List.mem_of_getElem? (i := 14) rfl)) (fun _ h9 => h9) rfl dX8_hill_124 ?_
          refine lv_iconst (v := 0) hx hb dX8_hill_127 (by decide) ?_
          refine lv_iconst (v := 0) hx hb dX8_hill_128 (by decide) ?_
          refine kb_zast (WS' := (w_O8 G g (oI (oA SFL10 29 (upd (SFL10.1 29) (0 : Int32).toNatClampNeg (vp_nar .boolean (0 : Int32)))) 18 (0 : Int32)))) hx hb hK hH 13 rfl (show ¬ ((0 : Int32) < 0 ∨ 2 ≤ (0 : Int32).toNatClampNeg) by decide) rfl dX8_hill_129 (fun H locs hH => ?_)
          refine lv_aload_n hx hb dX8_hill_130 rfl (lv_at hl 0 rfl) ?_
          refine kb_get (v := .ref (g 30)) hx hb hts hin8 hown hK hH 0 rfl rfl rfl 29 (by decide) (hts (.fieldLink RX8 46 "CockWarModel" "isKept" "[Z") (List.mem_of_getElem? (i := 14) rfl)) (fun _ h9 => h9) rfl dX8_hill_131 ?_
          refine lv_iconst (v := 1) hx hb dX8_hill_134 (by decide) ?_
          refine lv_iconst (v := 0) hx hb dX8_hill_135 (by decide) ?_
          refine kb_zast (WS' := (w_O8 G g (oI (oA SFL10 29 (upd (upd (SFL10.1 29) (0 : Int32).toNatClampNeg (vp_nar .boolean (0 : Int32))) (1 : Int32).toNatClampNeg (vp_nar .boolean (0 : Int32)))) 18 (0 : Int32)))) hx hb hK hH 13 rfl (show ¬ ((1 : Int32) < 0 ∨ 2 ≤ (1 : Int32).toNatClampNeg) by decide) rfl dX8_hill_136 (fun H locs hH => ?_)
          refine lv_bipush (v := 10) hx hb dX8_hill_137 (by decide) ?_
          refine lv_aload_n hx hb dX8_hill_139 rfl (lv_at hl 0 rfl) ?_
          refine kb_get (v := .int (SFL10.2.1 0)) hx hb hts hin8 hown hK hH 0 rfl rfl rfl 0 (by decide) (hts (.fieldLink RX8 53 "CockWarModel" "cocks" "I") (List.mem_of_getElem? (i := 2) rfl)) (fun _ h9 => h9) rfl dX8_hill_140 ?_
          refine lv_imul hx hb dX8_hill_143 ?_
          refine lv_aload_n hx hb dX8_hill_144 rfl (lv_at hl 0 rfl) ?_
          refine kb_get (v := .int (SFL10.2.1 1)) hx hb hts hin8 hown hK hH 0 rfl rfl rfl 1 (by decide) (hts (.fieldLink RX8 109 "CockWarModel" "winds" "I") (List.mem_of_getElem? (i := 4) rfl)) (fun _ h9 => h9) rfl dX8_hill_145 ?_
          refine lv_iadd hx hb dX8_hill_148 ?_
          subst hF
          exact kb_iret hx hb hr hH rfl rfl dX8_hill_149 hlocks
  · rw [if_neg c3] at hF
    refine lv_bipush (v := -3) hx hb dX8_hill_9 (by decide) ?_
    subst hF
    exact kb_iret hx hb hr hH rfl rfl dX8_hill_11 hlocks
