theorem hd_X8_isSeen : yX8_isSeen.cls ≠ "java/lang/invoke/MethodHandle" ∧ yX8_isSeen.cls ≠ "java/lang/invoke/VarHandle" ∧ (parseMethodDescriptor yX8_isSeen.desc).map (fun d => d.parameters.length) = some 2 := by decide +kernel
theorem he_X8_isSeen : yX8_isSeen.cls = RX8 ∧ yX8_isSeen.cls ≠ "java/lang/invoke/MethodHandle" ∧ yX8_isSeen.cls ≠ "java/lang/invoke/VarHandle" ∧ (parseMethodDescriptor yX8_isSeen.desc).map (fun d => d.parameters.length) = some 2 := ⟨rfl, hd_X8_isSeen⟩
theorem hd_X8_strings : yX8_strings.cls ≠ "java/lang/invoke/MethodHandle" ∧ yX8_strings.cls ≠ "java/lang/invoke/VarHandle" ∧ (parseMethodDescriptor yX8_strings.desc).map (fun d => d.parameters.length) = some 2 := by decide +kernel
theorem he_X8_strings : yX8_strings.cls = RX8 ∧ yX8_strings.cls ≠ "java/lang/invoke/MethodHandle" ∧ yX8_strings.cls ≠ "java/lang/invoke/VarHandle" ∧ (parseMethodDescriptor yX8_strings.desc).map (fun d => d.parameters.length) = some 2 := ⟨rfl, hd_X8_strings⟩
theorem hd_X8_winds : yX8_winds.cls ≠ "java/lang/invoke/MethodHandle" ∧ yX8_winds.cls ≠ "java/lang/invoke/VarHandle" ∧ (parseMethodDescriptor yX8_winds.desc).map (fun d => d.parameters.length) = some 0 := by decide +kernel
theorem he_X8_winds : yX8_winds.cls = RX8 ∧ yX8_winds.cls ≠ "java/lang/invoke/MethodHandle" ∧ yX8_winds.cls ≠ "java/lang/invoke/VarHandle" ∧ (parseMethodDescriptor yX8_winds.desc).map (fun d => d.parameters.length) = some 0 := ⟨rfl, hd_X8_winds⟩
theorem hd_X8_isChoice : yX8_isChoice.cls ≠ "java/lang/invoke/MethodHandle" ∧ yX8_isChoice.cls ≠ "java/lang/invoke/VarHandle" ∧ (parseMethodDescriptor yX8_isChoice.desc).map (fun d => d.parameters.length) = some 2 := by decide +kernel
theorem he_X8_isChoice : yX8_isChoice.cls = RX8 ∧ yX8_isChoice.cls ≠ "java/lang/invoke/MethodHandle" ∧ yX8_isChoice.cls ≠ "java/lang/invoke/VarHandle" ∧ (parseMethodDescriptor yX8_isChoice.desc).map (fun d => d.parameters.length) = some 2 := ⟨rfl, hd_X8_isChoice⟩
theorem hd_X8_heldBy : yX8_heldBy.cls ≠ "java/lang/invoke/MethodHandle" ∧ yX8_heldBy.cls ≠ "java/lang/invoke/VarHandle" ∧ (parseMethodDescriptor yX8_heldBy.desc).map (fun d => d.parameters.length) = some 3 := by decide +kernel
theorem he_X8_heldBy : yX8_heldBy.cls = RX8 ∧ yX8_heldBy.cls ≠ "java/lang/invoke/MethodHandle" ∧ yX8_heldBy.cls ≠ "java/lang/invoke/VarHandle" ∧ (parseMethodDescriptor yX8_heldBy.desc).map (fun d => d.parameters.length) = some 3 := ⟨rfl, hd_X8_heldBy⟩
theorem hd_X8_isRest : yX8_isRest.cls ≠ "java/lang/invoke/MethodHandle" ∧ yX8_isRest.cls ≠ "java/lang/invoke/VarHandle" ∧ (parseMethodDescriptor yX8_isRest.desc).map (fun d => d.parameters.length) = some 3 := by decide +kernel
theorem he_X8_isRest : yX8_isRest.cls = RX8 ∧ yX8_isRest.cls ≠ "java/lang/invoke/MethodHandle" ∧ yX8_isRest.cls ≠ "java/lang/invoke/VarHandle" ∧ (parseMethodDescriptor yX8_isRest.desc).map (fun d => d.parameters.length) = some 3 := ⟨rfl, hd_X8_isRest⟩
theorem hd_X8_rests : yX8_rests.cls ≠ "java/lang/invoke/MethodHandle" ∧ yX8_rests.cls ≠ "java/lang/invoke/VarHandle" ∧ (parseMethodDescriptor yX8_rests.desc).map (fun d => d.parameters.length) = some 2 := by decide +kernel
theorem he_X8_rests : yX8_rests.cls = RX8 ∧ yX8_rests.cls ≠ "java/lang/invoke/MethodHandle" ∧ yX8_rests.cls ≠ "java/lang/invoke/VarHandle" ∧ (parseMethodDescriptor yX8_rests.desc).map (fun d => d.parameters.length) = some 2 := ⟨rfl, hd_X8_rests⟩
theorem hd_X8_common : yX8_common.cls ≠ "java/lang/invoke/MethodHandle" ∧ yX8_common.cls ≠ "java/lang/invoke/VarHandle" ∧ (parseMethodDescriptor yX8_common.desc).map (fun d => d.parameters.length) = some 2 := by decide +kernel
theorem he_X8_common : yX8_common.cls = RX8 ∧ yX8_common.cls ≠ "java/lang/invoke/MethodHandle" ∧ yX8_common.cls ≠ "java/lang/invoke/VarHandle" ∧ (parseMethodDescriptor yX8_common.desc).map (fun d => d.parameters.length) = some 2 := ⟨rfl, hd_X8_common⟩
theorem hd_X8_frost : yX8_frost.cls ≠ "java/lang/invoke/MethodHandle" ∧ yX8_frost.cls ≠ "java/lang/invoke/VarHandle" ∧ (parseMethodDescriptor yX8_frost.desc).map (fun d => d.parameters.length) = some 3 := by decide +kernel
theorem he_X8_frost : yX8_frost.cls = RX8 ∧ yX8_frost.cls ≠ "java/lang/invoke/MethodHandle" ∧ yX8_frost.cls ≠ "java/lang/invoke/VarHandle" ∧ (parseMethodDescriptor yX8_frost.desc).map (fun d => d.parameters.length) = some 3 := ⟨rfl, hd_X8_frost⟩
theorem hd_X8_seed : yX8_seed.cls ≠ "java/lang/invoke/MethodHandle" ∧ yX8_seed.cls ≠ "java/lang/invoke/VarHandle" ∧ (parseMethodDescriptor yX8_seed.desc).map (fun d => d.parameters.length) = some 1 := by decide +kernel
theorem he_X8_seed : yX8_seed.cls = RX8 ∧ yX8_seed.cls ≠ "java/lang/invoke/MethodHandle" ∧ yX8_seed.cls ≠ "java/lang/invoke/VarHandle" ∧ (parseMethodDescriptor yX8_seed.desc).map (fun d => d.parameters.length) = some 1 := ⟨rfl, hd_X8_seed⟩
theorem hd_X8_years : yX8_years.cls ≠ "java/lang/invoke/MethodHandle" ∧ yX8_years.cls ≠ "java/lang/invoke/VarHandle" ∧ (parseMethodDescriptor yX8_years.desc).map (fun d => d.parameters.length) = some 1 := by decide +kernel
theorem he_X8_years : yX8_years.cls = RX8 ∧ yX8_years.cls ≠ "java/lang/invoke/MethodHandle" ∧ yX8_years.cls ≠ "java/lang/invoke/VarHandle" ∧ (parseMethodDescriptor yX8_years.desc).map (fun d => d.parameters.length) = some 1 := ⟨rfl, hd_X8_years⟩
theorem hd_X8_keep : yX8_keep.cls ≠ "java/lang/invoke/MethodHandle" ∧ yX8_keep.cls ≠ "java/lang/invoke/VarHandle" ∧ (parseMethodDescriptor yX8_keep.desc).map (fun d => d.parameters.length) = some 1 := by decide +kernel
theorem he_X8_keep : yX8_keep.cls = RX8 ∧ yX8_keep.cls ≠ "java/lang/invoke/MethodHandle" ∧ yX8_keep.cls ≠ "java/lang/invoke/VarHandle" ∧ (parseMethodDescriptor yX8_keep.desc).map (fun d => d.parameters.length) = some 1 := ⟨rfl, hd_X8_keep⟩
theorem hd_X8_again : yX8_again.cls ≠ "java/lang/invoke/MethodHandle" ∧ yX8_again.cls ≠ "java/lang/invoke/VarHandle" ∧ (parseMethodDescriptor yX8_again.desc).map (fun d => d.parameters.length) = some 1 := by decide +kernel
theorem he_X8_again : yX8_again.cls = RX8 ∧ yX8_again.cls ≠ "java/lang/invoke/MethodHandle" ∧ yX8_again.cls ≠ "java/lang/invoke/VarHandle" ∧ (parseMethodDescriptor yX8_again.desc).map (fun d => d.parameters.length) = some 1 := ⟨rfl, hd_X8_again⟩
theorem hd_X8_count : yX8_count.cls ≠ "java/lang/invoke/MethodHandle" ∧ yX8_count.cls ≠ "java/lang/invoke/VarHandle" ∧ (parseMethodDescriptor yX8_count.desc).map (fun d => d.parameters.length) = some 1 := by decide +kernel
theorem he_X8_count : yX8_count.cls = RX8 ∧ yX8_count.cls ≠ "java/lang/invoke/MethodHandle" ∧ yX8_count.cls ≠ "java/lang/invoke/VarHandle" ∧ (parseMethodDescriptor yX8_count.desc).map (fun d => d.parameters.length) = some 1 := ⟨rfl, hd_X8_count⟩
def f_X8_isSeen_L2 (V : OV) (x0 : Int32) (x1 : Int32) (iL2 : Nat) (s : (Int32)) : (Int32) := (if s = 0 then (0 : Int32) else (if (f_X8_isCock V ((V.1 26) (nI iL2).toNatClampNeg)) = 0 then (1 : Int32) else (if (((f_X8_pointsBy V (0 : Int32) x0 x1) >>> (((V.1 26) (nI iL2).toNatClampNeg) &&& 31)) &&& (1 : Int32)) = ((V.1 27) (nI iL2).toNatClampNeg) then (1 : Int32) else (0 : Int32))))
def d_X8_isSeen_L2 (V : OV) (x0 : Int32) (x1 : Int32) (iL2 : Nat) (s : (Int32)) : Prop := (¬ (s = 0) → (vp_in (nI iL2) 6 ∧ (¬ ((f_X8_isCock V ((V.1 26) (nI iL2).toNatClampNeg)) = 0) → (vp_in (nI iL2) 6 ∧ vp_in (nI iL2) 6))))
def f_X8_isSeen (V : OV) (x0 : Int32) (x1 : Int32) : (Int32) := (kAp (lpu (f_X8_isSeen_L2 V x0 x1) (cN (V.2.1 25)) 0 (1 : Int32)) (fun z10 => z10))
def d_X8_isSeen (V : OV) (x0 : Int32) (x1 : Int32) : Prop := ((d_X8_pointsBy V (0 : Int32) x0 x1) ∧ ((lpuD (f_X8_isSeen_L2 V x0 x1) (d_X8_isSeen_L2 V x0 x1) (cN (V.2.1 25)) 0 (1 : Int32)) ∧ (kAp (lpu (f_X8_isSeen_L2 V x0 x1) (cN (V.2.1 25)) 0 (1 : Int32)) (fun z10 => (z10 = 0 ∨ z10 = 1)))))
set_option maxHeartbeats 4000000 in
set_option maxRecDepth 100000 in
theorem c_X8_isSeen (l : Launch) (G : Ge) (g : Nat → Nat) (V : OV) (x0 : Int32) (x1 : Int32) (hD : d_X8_isSeen V x0 x1) {F : (Int32)} (hF : f_X8_isSeen V x0 x1 = F) : CI l yX8_isSeen wsX8_isSeen { frames := 3, cells := 0, slots := 0, locals := 75 } [.ref (g 0), .int x0, .int x1] G (w_O8 G g V) (w_O8 G g V) F := by
  intro sz
  refine Met.ofW (cc := cX8_isSeen) (maxL := 6) (ret := (some .boolean)) (by decide) rfl ?_
  intro p e s m args below meth c s₁ B hml hv
  obtain ⟨rfl, hpre⟩ := hv
  obtain ⟨hsz, hH, hK, hN, hA⟩ := kb_start hpre
  subst hsz
  have hx := B.exec
  have hb := B.bytes
  have hr := B.returns
  have hts := atoms_spec (ws := wsX8_isSeen) B.pre
  have hown : s.vm.findClass RX8 = some m.cls := findClass_of_methodNamed B.named
  have hlocks := B.notSynchronized
  generalize hAe : va_A (List.flatten (w_O8 G g V)) s.heap.size = A at hH hA ⊢
  have hl := lv_entry ([.ref (g 0), .int x0, .int x1]) (n := 6) (Nat.le_of_ble_eq_true rfl)
  rw [lg_entry_eq]
  generalize (lg_sl ([.ref (g 0), .int x0, .int x1]) ++ List.replicate (6 - (lg_sl ([.ref (g 0), .int x0, .int x1])).length) Slot.unset).toArray = ls at hl ⊢
  have hl : lv_has ls 6 [(0, .ref (g 0)), (1, .int x0), (2, .int x1)] := hl
  have hH : HP G A s.heap (w_O8 G g V) s.heap [] := hH
  have hin8 : ∀ w ∈ u_ws RX8 TX8 31, w ∈ wsX8_isSeen := fun w h => List.mem_cons_of_mem _ (List.mem_append_right _ h)
  have hF : (kAp (lpu (f_X8_isSeen_L2 V x0 x1) (cN (V.2.1 25)) 0 (1 : Int32)) (fun z10 => z10)) = F := hF
  have hD : ((d_X8_pointsBy V (0 : Int32) x0 x1) ∧ ((lpuD (f_X8_isSeen_L2 V x0 x1) (d_X8_isSeen_L2 V x0 x1) (cN (V.2.1 25)) 0 (1 : Int32)) ∧ (kAp (lpu (f_X8_isSeen_L2 V x0 x1) (cN (V.2.1 25)) 0 (1 : Int32)) (fun z10 => (z10 = 0 ∨ z10 = 1))))) := hD
  refine lv_aload_n hx hb dX8_isSeen_0 rfl (lv_at hl 0 rfl) ?_
  refine lv_iconst (v := 0) hx hb dX8_isSeen_1 (by decide) ?_
  refine lv_iload_n hx hb dX8_isSeen_2 rfl (lv_at hl 1 rfl) ?_
  refine lv_iload_n hx hb dX8_isSeen_3 rfl (lv_at hl 2 rfl) ?_
  obtain ⟨hz1, hD⟩ := hD
  refine kb_ci hH hA [0, 1, 2, 3, 4, 5, 6, 7, 8, 9, 10, 11, 12, 13, 14] (Wc := (w_O8 G g V)) (Wc' := (w_O8 G g V)) (WS' := (w_O8 G g V)) rfl (by decide) rfl rfl (va_runV (As := [.int (0 : Int32), .int x0, .int x1]) (rest := []) ⟨hx, hb, hml, hown, hts⟩ (c_X8_pointsBy l G g V (0 : Int32) x0 x1 hz1 rfl _) (cwV 3 hts gX8_isSeen_X8_pointsBy rfl rfl rfl he_X8_pointsBy ⟨Nat.le_of_ble_eq_true rfl, Nat.le_of_ble_eq_true rfl⟩) (kb_preV hH hK hN [0, 1, 2, 3, 4, 5, 6, 7, 8, 9, 10, 11, 12, 13, 14] rfl (by decide) 0 rfl rfl rfl rfl) rfl rfl hl.1 rfl (lv_room (Nat.le_of_ble_eq_true rfl)) dX8_isSeen_4 ⟨Nat.le_of_ble_eq_true rfl, Nat.le_of_ble_eq_true rfl⟩) (fun H locs hH => ?_)
  refine lv_istore_n (lv' := [(3, .int (f_X8_pointsBy V (0 : Int32) x0 x1)), (0, .ref (g 0)), (1, .int x0), (2, .int x1)]) hx hb dX8_isSeen_7 rfl hl (by decide) rfl (fun ls hl => ?_)
  refine lv_iconst (v := 1) hx hb dX8_isSeen_8 (by decide) ?_
  refine lv_istore (lv' := [(4, .int (1 : Int32)), (3, .int (f_X8_pointsBy V (0 : Int32) x0 x1)), (0, .ref (g 0)), (1, .int x0), (2, .int x1)]) hx hb dX8_isSeen_9 hl (by decide) rfl (fun ls hl => ?_)
  refine lv_iconst (v := 0) hx hb dX8_isSeen_11 (by decide) ?_
  refine lv_istore (lv' := [(5, .int (0 : Int32)), (4, .int (1 : Int32)), (3, .int (f_X8_pointsBy V (0 : Int32) x0 x1)), (0, .ref (g 0)), (1, .int x0), (2, .int x1)]) hx hb dX8_isSeen_12 hl (by decide) rfl (fun ls hl => ?_)
  obtain ⟨hDlL2, hD⟩ := hD
  obtain ⟨SFL2, hSFL2⟩ : ∃ z, z = (lpu (f_X8_isSeen_L2 V x0 x1) (cN (V.2.1 25)) 0 (1 : Int32)) := ⟨_, rfl⟩
  have hF := kAp_eq hF hSFL2
  have hD := kAp_D hD hSFL2
  refine kb_cut (fun H locs ls => HP G A s.heap (w_O8 G g V) H locs ∧ lv_has ls 6 [(4, .int SFL2)]) 76 [] (fun EXL2 => ?_) (fun H locs ls hX => ?_)
  · refine kb_loop (σ := (Int32)) (fun n i x => n + i = (cN (V.2.1 25)) ∧ lpu (f_X8_isSeen_L2 V x0 x1) n i x = SFL2 ∧ lpuD (f_X8_isSeen_L2 V x0 x1) (d_X8_isSeen_L2 V x0 x1) n i x) (fun iL2 x H locs ls => HP G A s.heap (w_O8 G g V) H locs ∧ lv_has ls 6 [(5, .int (nI iL2)), (4, .int x), (3, .int (f_X8_pointsBy V (0 : Int32) x0 x1)), (0, .ref (g 0))]) (fun iL2 x H locs ls hI hX => ?_) (fun n iL2 x hI ihL2 H locs ls hX => ?_) (cN (V.2.1 25)) 0 (1 : Int32) _ _ _ ⟨Nat.add_zero _, hSFL2.symm, hDlL2⟩ ⟨hH, lv_sub hl [0, 1, 2, 3] rfl⟩
    · obtain ⟨L2a, exL2a⟩ : ∃ z, z = x := ⟨_, rfl⟩
      subst exL2a
      have hH : HP G A s.heap (w_O8 G g V) H locs := hX.1
      have hl : lv_has ls 6 [(5, .int (nI iL2)), (4, .int L2a), (3, .int (f_X8_pointsBy V (0 : Int32) x0 x1)), (0, .ref (g 0))] := hX.2
      obtain ⟨hiL2, hs, _⟩ := hI
      have hiL2 : iL2 = (cN (V.2.1 25)) := by omega
      refine lv_iload hx hb dX8_isSeen_14 (lv_at hl 0 rfl) ?_
      refine lv_aload_n hx hb dX8_isSeen_16 rfl (lv_at hl 3 rfl) ?_
      refine kb_get (v := .int (V.2.1 25)) hx hb hts hin8 hown hK hH 0 rfl rfl rfl 25 (by decide) (hts (.fieldLink RX8 189 "CockWarModel" "seen" "I") (List.mem_of_getElem? (i := 1) rfl)) (fun _ h9 => h9) rfl dX8_isSeen_17 ?_
      refine lv_icmp_ge (tgt := 76) hx hb dX8_isSeen_20 (by decide) (fun _ => ?_) (fun c => absurd (cN_end hiL2) c)
      exact EXL2 _ _ _ ⟨by subst hs; exact hH, by subst hs; exact lv_sub hl [1] rfl⟩
    · obtain ⟨L2a, exL2a⟩ : ∃ z, z = x := ⟨_, rfl⟩
      subst exL2a
      have hH : HP G A s.heap (w_O8 G g V) H locs := hX.1
      have hl : lv_has ls 6 [(5, .int (nI iL2)), (4, .int L2a), (3, .int (f_X8_pointsBy V (0 : Int32) x0 x1)), (0, .ref (g 0))] := hX.2
      obtain ⟨hiL2, hs, hDi⟩ := hI
      obtain ⟨hD, hDn⟩ := hDi
      have hD : (¬ (L2a = 0) → (vp_in (nI iL2) 6 ∧ (¬ ((f_X8_isCock V ((V.1 26) (nI iL2).toNatClampNeg)) = 0) → (vp_in (nI iL2) 6 ∧ vp_in (nI iL2) 6)))) := hD
      have hltL2 : iL2 < (cN (V.2.1 25)) := by omega
      obtain ⟨BVL2, hBd⟩ : ∃ z, (f_X8_isSeen_L2 V x0 x1) iL2 L2a = z := ⟨_, rfl⟩
      have hs : lpu (f_X8_isSeen_L2 V x0 x1) n (iL2 + 1) BVL2 = SFL2 := by rw [← hBd]; exact hs
      have hDn : lpuD (f_X8_isSeen_L2 V x0 x1) (d_X8_isSeen_L2 V x0 x1) n (iL2 + 1) BVL2 := by rw [← hBd]; exact hDn
      have hBL2 : (if L2a = 0 then (0 : Int32) else (if (f_X8_isCock V ((V.1 26) (nI iL2).toNatClampNeg)) = 0 then (1 : Int32) else (if (((f_X8_pointsBy V (0 : Int32) x0 x1) >>> (((V.1 26) (nI iL2).toNatClampNeg) &&& 31)) &&& (1 : Int32)) = ((V.1 27) (nI iL2).toNatClampNeg) then (1 : Int32) else (0 : Int32)))) = BVL2 := hBd
      refine lv_iload hx hb dX8_isSeen_14 (lv_at hl 0 rfl) ?_
      refine lv_aload_n hx hb dX8_isSeen_16 rfl (lv_at hl 3 rfl) ?_
      refine kb_get (v := .int (V.2.1 25)) hx hb hts hin8 hown hK hH 0 rfl rfl rfl 25 (by decide) (hts (.fieldLink RX8 189 "CockWarModel" "seen" "I") (List.mem_of_getElem? (i := 1) rfl)) (fun _ h9 => h9) rfl dX8_isSeen_17 ?_
      refine lv_icmp_ge (tgt := 76) hx hb dX8_isSeen_20 (by decide) (fun c => absurd c (cN_ge hltL2)) (fun c3 => ?_)
      refine lv_iload hx hb dX8_isSeen_23 (lv_at hl 1 rfl) ?_
      refine lv_if_eq (tgt := 67) hx hb dX8_isSeen_25 (by decide) (fun c4 => ?_) (fun c4 => ?_)
      · rw [if_pos c4] at hBL2
        refine lv_iconst (v := 0) hx hb dX8_isSeen_67 (by decide) ?_
        refine lv_istore (lv' := [(4, .int (0 : Int32)), (5, .int (nI iL2)), (3, .int (f_X8_pointsBy V (0 : Int32) x0 x1)), (0, .ref (g 0))]) hx hb dX8_isSeen_68 hl (by decide) rfl (fun ls hl => ?_)
        refine lv_iinc (v := (nI (iL2 + 1))) (lv' := [(5, .int (nI (iL2 + 1))), (4, .int (0 : Int32)), (3, .int (f_X8_pointsBy V (0 : Int32) x0 x1)), (0, .ref (g 0))]) hx hb dX8_isSeen_70 hl (k := 1) rfl (nI_1 _) (by decide) rfl (fun ls hl => ?_)
        refine lv_goto (tgt := 14) hx hb dX8_isSeen_73 (by decide) ?_
        subst hBL2
        exact ihL2 _ _ _ _ ⟨by omega, hs, hDn⟩ ⟨hH, lv_sub hl [0, 1, 2, 3] rfl⟩
      · have hD := hD c4
        rw [if_neg c4] at hBL2
        refine lv_aload_n hx hb dX8_isSeen_28 rfl (lv_at hl 3 rfl) ?_
        refine lv_aload_n hx hb dX8_isSeen_29 rfl (lv_at hl 3 rfl) ?_
        refine kb_get (v := .ref (g 27)) hx hb hts hin8 hown hK hH 0 rfl rfl rfl 26 (by decide) (hts (.fieldLink RX8 40 "CockWarModel" "seenOf" "[I") (List.mem_of_getElem? (i := 2) rfl)) (fun _ h9 => h9) rfl dX8_isSeen_30 ?_
        refine lv_iload hx hb dX8_isSeen_33 (lv_at hl 0 rfl) ?_
        obtain ⟨hz5, hD⟩ := hD
        refine kb_iald hx hb hK hH 11 rfl hz5 dX8_isSeen_35 ?_
        refine kb_ci hH hA [0, 1, 2, 3, 4, 5, 6, 7, 8, 9, 10, 11, 12, 13, 14] (Wc := (w_O8 G g V)) (Wc' := (w_O8 G g V)) (WS' := (w_O8 G g V)) rfl (by decide) rfl rfl (va_runV (As := [.int ((V.1 26) (nI iL2).toNatClampNeg)]) (rest := []) ⟨hx, hb, hml, hown, hts⟩ (c_X8_isCock l G g V ((V.1 26) (nI iL2).toNatClampNeg) rfl _) (cwV 1 hts gX8_isSeen_X8_isCock rfl rfl rfl he_X8_isCock ⟨Nat.le_of_ble_eq_true rfl, Nat.le_of_ble_eq_true rfl⟩) (kb_preV hH hK hN [0, 1, 2, 3, 4, 5, 6, 7, 8, 9, 10, 11, 12, 13, 14] rfl (by decide) 0 rfl rfl rfl rfl) rfl rfl hl.1 rfl (lv_room (Nat.le_of_ble_eq_true rfl)) dX8_isSeen_36 ⟨Nat.le_of_ble_eq_true rfl, Nat.le_of_ble_eq_true rfl⟩) (fun H locs hH => ?_)
        refine lv_if_eq (tgt := 63) hx hb dX8_isSeen_39 (by decide) (fun c6 => ?_) (fun c6 => ?_)
        · rw [if_pos c6] at hBL2
          refine lv_iconst (v := 1) hx hb dX8_isSeen_63 (by decide) ?_
          refine lv_goto (tgt := 68) hx hb dX8_isSeen_64 (by decide) ?_
          refine lv_istore (lv' := [(4, .int (1 : Int32)), (5, .int (nI iL2)), (3, .int (f_X8_pointsBy V (0 : Int32) x0 x1)), (0, .ref (g 0))]) hx hb dX8_isSeen_68 hl (by decide) rfl (fun ls hl => ?_)
          refine lv_iinc (v := (nI (iL2 + 1))) (lv' := [(5, .int (nI (iL2 + 1))), (4, .int (1 : Int32)), (3, .int (f_X8_pointsBy V (0 : Int32) x0 x1)), (0, .ref (g 0))]) hx hb dX8_isSeen_70 hl (k := 1) rfl (nI_1 _) (by decide) rfl (fun ls hl => ?_)
          refine lv_goto (tgt := 14) hx hb dX8_isSeen_73 (by decide) ?_
          subst hBL2
          exact ihL2 _ _ _ _ ⟨by omega, hs, hDn⟩ ⟨hH, lv_sub hl [0, 1, 2, 3] rfl⟩
        · have hD := hD c6
          rw [if_neg c6] at hBL2
          refine lv_iload_n hx hb dX8_isSeen_42 rfl (lv_at hl 2 rfl) ?_
          refine lv_aload_n hx hb dX8_isSeen_43 rfl (lv_at hl 3 rfl) ?_
          refine kb_get (v := .ref (g 27)) hx hb hts hin8 hown hK hH 0 rfl rfl rfl 26 (by decide) (hts (.fieldLink RX8 40 "CockWarModel" "seenOf" "[I") (List.mem_of_getElem? (i := 2) rfl)) (fun _ h9 => h9) rfl dX8_isSeen_44 ?_
          refine lv_iload hx hb dX8_isSeen_47 (lv_at hl 0 rfl) ?_
          obtain ⟨hz7, hD⟩ := hD
          refine kb_iald hx hb hK hH 11 rfl hz7 dX8_isSeen_49 ?_
          refine lv_ishr hx hb dX8_isSeen_50 ?_
          refine lv_iconst (v := 1) hx hb dX8_isSeen_51 (by decide) ?_
          refine lv_iand hx hb dX8_isSeen_52 ?_
          refine lv_aload_n hx hb dX8_isSeen_53 rfl (lv_at hl 3 rfl) ?_
          refine kb_get (v := .ref (g 28)) hx hb hts hin8 hown hK hH 0 rfl rfl rfl 27 (by decide) (hts (.fieldLink RX8 43 "CockWarModel" "seenTo" "[I") (List.mem_of_getElem? (i := 3) rfl)) (fun _ h9 => h9) rfl dX8_isSeen_54 ?_
          refine lv_iload hx hb dX8_isSeen_57 (lv_at hl 0 rfl) ?_
          have hz8 := hD
          refine kb_iald hx hb hK hH 12 rfl hz8 dX8_isSeen_59 ?_
          refine lv_icmp_ne (tgt := 67) hx hb dX8_isSeen_60 (by decide) (fun c9 => ?_) (fun c9 => ?_)
          · rw [if_neg c9] at hBL2
            refine lv_iconst (v := 0) hx hb dX8_isSeen_67 (by decide) ?_
            refine lv_istore (lv' := [(4, .int (0 : Int32)), (5, .int (nI iL2)), (3, .int (f_X8_pointsBy V (0 : Int32) x0 x1)), (0, .ref (g 0))]) hx hb dX8_isSeen_68 hl (by decide) rfl (fun ls hl => ?_)
            refine lv_iinc (v := (nI (iL2 + 1))) (lv' := [(5, .int (nI (iL2 + 1))), (4, .int (0 : Int32)), (3, .int (f_X8_pointsBy V (0 : Int32) x0 x1)), (0, .ref (g 0))]) hx hb dX8_isSeen_70 hl (k := 1) rfl (nI_1 _) (by decide) rfl (fun ls hl => ?_)
            refine lv_goto (tgt := 14) hx hb dX8_isSeen_73 (by decide) ?_
            subst hBL2
            exact ihL2 _ _ _ _ ⟨by omega, hs, hDn⟩ ⟨hH, lv_sub hl [0, 1, 2, 3] rfl⟩
          · rw [if_pos c9] at hBL2
            refine lv_iconst (v := 1) hx hb dX8_isSeen_63 (by decide) ?_
            refine lv_goto (tgt := 68) hx hb dX8_isSeen_64 (by decide) ?_
            refine lv_istore (lv' := [(4, .int (1 : Int32)), (5, .int (nI iL2)), (3, .int (f_X8_pointsBy V (0 : Int32) x0 x1)), (0, .ref (g 0))]) hx hb dX8_isSeen_68 hl (by decide) rfl (fun ls hl => ?_)
            refine lv_iinc (v := (nI (iL2 + 1))) (lv' := [(5, .int (nI (iL2 + 1))), (4, .int (1 : Int32)), (3, .int (f_X8_pointsBy V (0 : Int32) x0 x1)), (0, .ref (g 0))]) hx hb dX8_isSeen_70 hl (k := 1) rfl (nI_1 _) (by decide) rfl (fun ls hl => ?_)
            refine lv_goto (tgt := 14) hx hb dX8_isSeen_73 (by decide) ?_
            subst hBL2
            exact ihL2 _ _ _ _ ⟨by omega, hs, hDn⟩ ⟨hH, lv_sub hl [0, 1, 2, 3] rfl⟩
  · obtain ⟨hH, hl⟩ := hX
    refine lv_iload hx hb dX8_isSeen_76 (lv_at hl 0 rfl) ?_
    subst hF
    exact kb_zret hx hb hr hH rfl rfl (kb_nar _ hD) dX8_isSeen_78 hlocks
def f_X8_strings_L3 (V : OV) (x0 : Int32) (iL3 : Nat) (s : (Int32 × Int32 × Int32)) : (Int32 × Int32 × Int32) := (if (f_X8_isSeen V x0 (nI iL3)) = 0 then (s.1, s.2.1, s.2.2) else ((s.1 ||| (nI iL3)), (s.2.1 &&& (nI iL3)), (s.2.2 + (1 : Int32))))
def d_X8_strings_L3 (V : OV) (x0 : Int32) (iL3 : Nat) (s : (Int32 × Int32 × Int32)) : Prop := (d_X8_isSeen V x0 (nI iL3))
def f_X8_strings (V : OV) (x0 : Int32) (x1 : Int32) : (Int32) := (if (f_X8_isWind V x0) = 0 then (-1 : Int32) else (if (f_X8_in (x1.toInt64) (0 : Int64) (2 : Int64)) = 0 then (-2 : Int32) else (kAp (lpu (f_X8_strings_L3 V x0) (cN ((1 : Int32) <<< ((V.2.1 0) &&& 31))) 0 ((0 : Int32), (((1 : Int32) <<< ((V.2.1 0) &&& 31)) - (1 : Int32)), (0 : Int32))) (fun z7 => (if x1 = 0 then z7.2.2 else (if z7.2.2 = 0 then (-9 : Int32) else (if x1 = (1 : Int32) then z7.2.1 else ((((1 : Int32) <<< ((V.2.1 0) &&& 31)) - (1 : Int32)) &&& (z7.1 ^^^ (-1 : Int32))))))))))
def d_X8_strings (V : OV) (x0 : Int32) (x1 : Int32) : Prop := (¬ ((f_X8_isWind V x0) = 0) → (¬ ((f_X8_in (x1.toInt64) (0 : Int64) (2 : Int64)) = 0) → (lpuD (f_X8_strings_L3 V x0) (d_X8_strings_L3 V x0) (cN ((1 : Int32) <<< ((V.2.1 0) &&& 31))) 0 ((0 : Int32), (((1 : Int32) <<< ((V.2.1 0) &&& 31)) - (1 : Int32)), (0 : Int32)))))
set_option maxHeartbeats 4000000 in
set_option maxRecDepth 100000 in
theorem c_X8_strings (l : Launch) (G : Ge) (g : Nat → Nat) (V : OV) (x0 : Int32) (x1 : Int32) (hD : d_X8_strings V x0 x1) {F : (Int32)} (hF : f_X8_strings V x0 x1 = F) : CI l yX8_strings wsX8_strings { frames := 4, cells := 0, slots := 0, locals := 100 } [.ref (g 0), .int x0, .int x1] G (w_O8 G g V) (w_O8 G g V) F := by
  intro sz
  refine Met.ofW (cc := cX8_strings) (maxL := 7) (ret := (some .int)) (by decide) rfl ?_
  intro p e s m args below meth c s₁ B hml hv
  obtain ⟨rfl, hpre⟩ := hv
  obtain ⟨hsz, hH, hK, hN, hA⟩ := kb_start hpre
  subst hsz
  have hx := B.exec
  have hb := B.bytes
  have hr := B.returns
  have hts := atoms_spec (ws := wsX8_strings) B.pre
  have hown : s.vm.findClass RX8 = some m.cls := findClass_of_methodNamed B.named
  have hlocks := B.notSynchronized
  generalize hAe : va_A (List.flatten (w_O8 G g V)) s.heap.size = A at hH hA ⊢
  have hl := lv_entry ([.ref (g 0), .int x0, .int x1]) (n := 7) (Nat.le_of_ble_eq_true rfl)
  rw [lg_entry_eq]
  generalize (lg_sl ([.ref (g 0), .int x0, .int x1]) ++ List.replicate (7 - (lg_sl ([.ref (g 0), .int x0, .int x1])).length) Slot.unset).toArray = ls at hl ⊢
  have hl : lv_has ls 7 [(0, .ref (g 0)), (1, .int x0), (2, .int x1)] := hl
  have hH : HP G A s.heap (w_O8 G g V) s.heap [] := hH
  have hin8 : ∀ w ∈ u_ws RX8 TX8 31, w ∈ wsX8_strings := fun w h => List.mem_cons_of_mem _ (List.mem_append_right _ h)
  have hF : (if (f_X8_isWind V x0) = 0 then (-1 : Int32) else (if (f_X8_in (x1.toInt64) (0 : Int64) (2 : Int64)) = 0 then (-2 : Int32) else (kAp (lpu (f_X8_strings_L3 V x0) (cN ((1 : Int32) <<< ((V.2.1 0) &&& 31))) 0 ((0 : Int32), (((1 : Int32) <<< ((V.2.1 0) &&& 31)) - (1 : Int32)), (0 : Int32))) (fun z7 => (if x1 = 0 then z7.2.2 else (if z7.2.2 = 0 then (-9 : Int32) else (if x1 = (1 : Int32) then z7.2.1 else ((((1 : Int32) <<< ((V.2.1 0) &&& 31)) - (1 : Int32)) &&& (z7.1 ^^^ (-1 : Int32)))))))))) = F := hF
  have hD : (¬ ((f_X8_isWind V x0) = 0) → (¬ ((f_X8_in (x1.toInt64) (0 : Int64) (2 : Int64)) = 0) → (lpuD (f_X8_strings_L3 V x0) (d_X8_strings_L3 V x0) (cN ((1 : Int32) <<< ((V.2.1 0) &&& 31))) 0 ((0 : Int32), (((1 : Int32) <<< ((V.2.1 0) &&& 31)) - (1 : Int32)), (0 : Int32))))) := hD
  refine lv_aload_n hx hb dX8_strings_0 rfl (lv_at hl 0 rfl) ?_
  refine lv_iload_n hx hb dX8_strings_1 rfl (lv_at hl 1 rfl) ?_
  refine kb_ci hH hA [0, 1, 2, 3, 4, 5, 6, 7, 8, 9, 10, 11, 12, 13, 14] (Wc := (w_O8 G g V)) (Wc' := (w_O8 G g V)) (WS' := (w_O8 G g V)) rfl (by decide) rfl rfl (va_runV (As := [.int x0]) (rest := []) ⟨hx, hb, hml, hown, hts⟩ (c_X8_isWind l G g V x0 rfl _) (cwV 1 hts gX8_strings_X8_isWind rfl rfl rfl he_X8_isWind ⟨Nat.le_of_ble_eq_true rfl, Nat.le_of_ble_eq_true rfl⟩) (kb_preV hH hK hN [0, 1, 2, 3, 4, 5, 6, 7, 8, 9, 10, 11, 12, 13, 14] rfl (by decide) 0 rfl rfl rfl rfl) rfl rfl hl.1 rfl (lv_room (Nat.le_of_ble_eq_true rfl)) dX8_strings_2 ⟨Nat.le_of_ble_eq_true rfl, Nat.le_of_ble_eq_true rfl⟩) (fun H locs hH => ?_)
  refine lv_if_ne (tgt := 10) hx hb dX8_strings_5 (by decide) (fun c1 => ?_) (fun c1 => ?_)
  · have hD := hD c1
    rw [if_neg c1] at hF
    refine lv_iload_n hx hb dX8_strings_10 rfl (lv_at hl 2 rfl) ?_
    refine lv_i2l (v := (x1.toInt64)) hx hb dX8_strings_11 rfl ?_
    refine lv_lconst (v := 0) hx hb dX8_strings_12 (by decide) ?_
    refine lv_ldc2 (v := 2) hx hb hown (hts (.constantLong RX8 136 (2)) (List.mem_of_getElem? (i := 1) rfl)) dX8_strings_13 ?_
    refine kb_ci hH hA [] (Wc := ([] : List va_W)) (Wc' := ([] : List va_W)) (WS' := (w_O8 G g V)) rfl (by decide) rfl rfl (va_runS (As := [.long (x1.toInt64), .long (0 : Int64), .long (2 : Int64)]) (rest := []) ⟨hx, hb, hml, hown, hts⟩ (c_X8_in l G (x1.toInt64) (0 : Int64) (2 : Int64) rfl _) (va_cwS 3 hts gX8_strings_X8_in rfl rfl rfl hd_X8_in ⟨Nat.le_of_ble_eq_true rfl, Nat.le_of_ble_eq_true rfl⟩) (kb_preS hH hK hN [] rfl (by decide)) rfl rfl hl.1 rfl (lv_room (Nat.le_of_ble_eq_true rfl)) dX8_strings_16 ⟨Nat.le_of_ble_eq_true rfl, Nat.le_of_ble_eq_true rfl⟩) (fun H locs hH => ?_)
    refine lv_if_ne (tgt := 25) hx hb dX8_strings_19 (by decide) (fun c2 => ?_) (fun c2 => ?_)
    · have hD := hD c2
      rw [if_neg c2] at hF
      refine lv_iconst (v := 0) hx hb dX8_strings_25 (by decide) ?_
      refine lv_istore_n (lv' := [(3, .int (0 : Int32)), (0, .ref (g 0)), (1, .int x0), (2, .int x1)]) hx hb dX8_strings_26 rfl hl (by decide) rfl (fun ls hl => ?_)
      refine lv_iconst (v := 1) hx hb dX8_strings_27 (by decide) ?_
      refine lv_aload_n hx hb dX8_strings_28 rfl (lv_at hl 1 rfl) ?_
      refine kb_get (v := .int (V.2.1 0)) hx hb hts hin8 hown hK hH 0 rfl rfl rfl 0 (by decide) (hts (.fieldLink RX8 53 "CockWarModel" "cocks" "I") (List.mem_of_getElem? (i := 2) rfl)) (fun _ h9 => h9) rfl dX8_strings_29 ?_
      refine lv_ishl hx hb dX8_strings_32 ?_
      refine lv_iconst (v := 1) hx hb dX8_strings_33 (by decide) ?_
      refine lv_isub hx hb dX8_strings_34 ?_
      refine lv_istore (lv' := [(4, .int (((1 : Int32) <<< ((V.2.1 0) &&& 31)) - (1 : Int32))), (3, .int (0 : Int32)), (0, .ref (g 0)), (1, .int x0), (2, .int x1)]) hx hb dX8_strings_35 hl (by decide) rfl (fun ls hl => ?_)
      refine lv_iconst (v := 0) hx hb dX8_strings_37 (by decide) ?_
      refine lv_istore (lv' := [(5, .int (0 : Int32)), (4, .int (((1 : Int32) <<< ((V.2.1 0) &&& 31)) - (1 : Int32))), (3, .int (0 : Int32)), (0, .ref (g 0)), (1, .int x0), (2, .int x1)]) hx hb dX8_strings_38 hl (by decide) rfl (fun ls hl => ?_)
      refine lv_iconst (v := 0) hx hb dX8_strings_40 (by decide) ?_
      refine lv_istore (lv' := [(6, .int (0 : Int32)), (5, .int (0 : Int32)), (4, .int (((1 : Int32) <<< ((V.2.1 0) &&& 31)) - (1 : Int32))), (3, .int (0 : Int32)), (0, .ref (g 0)), (1, .int x0), (2, .int x1)]) hx hb dX8_strings_41 hl (by decide) rfl (fun ls hl => ?_)
      have hDlL3 := hD
      obtain ⟨SFL3, hSFL3⟩ : ∃ z, z = (lpu (f_X8_strings_L3 V x0) (cN ((1 : Int32) <<< ((V.2.1 0) &&& 31))) 0 ((0 : Int32), (((1 : Int32) <<< ((V.2.1 0) &&& 31)) - (1 : Int32)), (0 : Int32))) := ⟨_, rfl⟩
      have hF := kAp_eq hF hSFL3
      refine kb_cut (fun H locs ls => HP G A s.heap (w_O8 G g V) H locs ∧ lv_has ls 7 [(5, .int SFL3.1), (4, .int SFL3.2.1), (3, .int SFL3.2.2), (0, .ref (g 0)), (2, .int x1)]) 87 [] (fun EXL3 => ?_) (fun H locs ls hX => ?_)
      · refine kb_loop (σ := (Int32 × Int32 × Int32)) (fun n i x => n + i = (cN ((1 : Int32) <<< ((V.2.1 0) &&& 31))) ∧ lpu (f_X8_strings_L3 V x0) n i x = SFL3 ∧ lpuD (f_X8_strings_L3 V x0) (d_X8_strings_L3 V x0) n i x) (fun iL3 x H locs ls => HP G A s.heap (w_O8 G g V) H locs ∧ lv_has ls 7 [(6, .int (nI iL3)), (5, .int x.1), (4, .int x.2.1), (3, .int x.2.2), (0, .ref (g 0)), (1, .int x0), (2, .int x1)]) (fun iL3 x H locs ls hI hX => ?_) (fun n iL3 x hI ihL3 H locs ls hX => ?_) (cN ((1 : Int32) <<< ((V.2.1 0) &&& 31))) 0 ((0 : Int32), (((1 : Int32) <<< ((V.2.1 0) &&& 31)) - (1 : Int32)), (0 : Int32)) _ _ _ ⟨Nat.add_zero _, hSFL3.symm, hDlL3⟩ ⟨hH, lv_sub hl [0, 1, 2, 3, 4, 5, 6] rfl⟩
        · obtain ⟨L3a, L3b, L3c⟩ := x
          have hH : HP G A s.heap (w_O8 G g V) H locs := hX.1
          have hl : lv_has ls 7 [(6, .int (nI iL3)), (5, .int L3a), (4, .int L3b), (3, .int L3c), (0, .ref (g 0)), (1, .int x0), (2, .int x1)] := hX.2
          obtain ⟨hiL3, hs, _⟩ := hI
          have hiL3 : iL3 = (cN ((1 : Int32) <<< ((V.2.1 0) &&& 31))) := by omega
          refine lv_iload hx hb dX8_strings_43 (lv_at hl 0 rfl) ?_
          refine lv_iconst (v := 1) hx hb dX8_strings_45 (by decide) ?_
          refine lv_aload_n hx hb dX8_strings_46 rfl (lv_at hl 4 rfl) ?_
          refine kb_get (v := .int (V.2.1 0)) hx hb hts hin8 hown hK hH 0 rfl rfl rfl 0 (by decide) (hts (.fieldLink RX8 53 "CockWarModel" "cocks" "I") (List.mem_of_getElem? (i := 2) rfl)) (fun _ h9 => h9) rfl dX8_strings_47 ?_
          refine lv_ishl hx hb dX8_strings_50 ?_
          refine lv_icmp_ge (tgt := 87) hx hb dX8_strings_51 (by decide) (fun _ => ?_) (fun c => absurd (cN_end hiL3) c)
          exact EXL3 _ _ _ ⟨by subst hs; exact hH, by subst hs; exact lv_sub hl [1, 2, 3, 4, 6] rfl⟩
        · obtain ⟨L3a, L3b, L3c⟩ := x
          have hH : HP G A s.heap (w_O8 G g V) H locs := hX.1
          have hl : lv_has ls 7 [(6, .int (nI iL3)), (5, .int L3a), (4, .int L3b), (3, .int L3c), (0, .ref (g 0)), (1, .int x0), (2, .int x1)] := hX.2
          obtain ⟨hiL3, hs, hDi⟩ := hI
          obtain ⟨hD, hDn⟩ := hDi
          have hD : (d_X8_isSeen V x0 (nI iL3)) := hD
          have hltL3 : iL3 < (cN ((1 : Int32) <<< ((V.2.1 0) &&& 31))) := by omega
          obtain ⟨BVL3, hBd⟩ : ∃ z, (f_X8_strings_L3 V x0) iL3 (L3a, L3b, L3c) = z := ⟨_, rfl⟩
          have hs : lpu (f_X8_strings_L3 V x0) n (iL3 + 1) BVL3 = SFL3 := by rw [← hBd]; exact hs
          have hDn : lpuD (f_X8_strings_L3 V x0) (d_X8_strings_L3 V x0) n (iL3 + 1) BVL3 := by rw [← hBd]; exact hDn
          have hBL3 : (if (f_X8_isSeen V x0 (nI iL3)) = 0 then (L3a, L3b, L3c) else ((L3a ||| (nI iL3)), (L3b &&& (nI iL3)), (L3c + (1 : Int32)))) = BVL3 := hBd
          refine lv_iload hx hb dX8_strings_43 (lv_at hl 0 rfl) ?_
          refine lv_iconst (v := 1) hx hb dX8_strings_45 (by decide) ?_
          refine lv_aload_n hx hb dX8_strings_46 rfl (lv_at hl 4 rfl) ?_
          refine kb_get (v := .int (V.2.1 0)) hx hb hts hin8 hown hK hH 0 rfl rfl rfl 0 (by decide) (hts (.fieldLink RX8 53 "CockWarModel" "cocks" "I") (List.mem_of_getElem? (i := 2) rfl)) (fun _ h9 => h9) rfl dX8_strings_47 ?_
          refine lv_ishl hx hb dX8_strings_50 ?_
          refine lv_icmp_ge (tgt := 87) hx hb dX8_strings_51 (by decide) (fun c => absurd c (cN_ge hltL3)) (fun c4 => ?_)
          refine lv_aload_n hx hb dX8_strings_54 rfl (lv_at hl 4 rfl) ?_
          refine lv_iload_n hx hb dX8_strings_55 rfl (lv_at hl 5 rfl) ?_
          refine lv_iload hx hb dX8_strings_56 (lv_at hl 0 rfl) ?_
          have hz5 := hD
          refine kb_ci hH hA [0, 1, 2, 3, 4, 5, 6, 7, 8, 9, 10, 11, 12, 13, 14] (Wc := (w_O8 G g V)) (Wc' := (w_O8 G g V)) (WS' := (w_O8 G g V)) rfl (by decide) rfl rfl (va_runV (As := [.int x0, .int (nI iL3)]) (rest := []) ⟨hx, hb, hml, hown, hts⟩ (c_X8_isSeen l G g V x0 (nI iL3) hz5 rfl _) (cwV 2 hts gX8_strings_X8_isSeen rfl rfl rfl he_X8_isSeen ⟨Nat.le_of_ble_eq_true rfl, Nat.le_of_ble_eq_true rfl⟩) (kb_preV hH hK hN [0, 1, 2, 3, 4, 5, 6, 7, 8, 9, 10, 11, 12, 13, 14] rfl (by decide) 0 rfl rfl rfl rfl) rfl rfl hl.1 rfl (lv_room (Nat.le_of_ble_eq_true rfl)) dX8_strings_58 ⟨Nat.le_of_ble_eq_true rfl, Nat.le_of_ble_eq_true rfl⟩) (fun H locs hH => ?_)
          refine lv_if_eq (tgt := 81) hx hb dX8_strings_61 (by decide) (fun c6 => ?_) (fun c6 => ?_)
          · rw [if_pos c6] at hBL3
            refine lv_iinc (v := (nI (iL3 + 1))) (lv' := [(6, .int (nI (iL3 + 1))), (5, .int L3a), (4, .int L3b), (3, .int L3c), (0, .ref (g 0)), (1, .int x0), (2, .int x1)]) hx hb dX8_strings_81 hl (k := 0) rfl (nI_1 _) (by decide) rfl (fun ls hl => ?_)
            refine lv_goto (tgt := 43) hx hb dX8_strings_84 (by decide) ?_
            subst hBL3
            exact ihL3 _ _ _ _ ⟨by omega, hs, hDn⟩ ⟨hH, lv_sub hl [0, 1, 2, 3, 4, 5, 6] rfl⟩
          · rw [if_neg c6] at hBL3
            refine lv_iinc (v := (L3c + (1 : Int32))) (lv' := [(3, .int (L3c + (1 : Int32))), (6, .int (nI iL3)), (5, .int L3a), (4, .int L3b), (0, .ref (g 0)), (1, .int x0), (2, .int x1)]) hx hb dX8_strings_64 hl (k := 3) rfl rfl (by decide) rfl (fun ls hl => ?_)
            refine lv_iload hx hb dX8_strings_67 (lv_at hl 3 rfl) ?_
            refine lv_iload hx hb dX8_strings_69 (lv_at hl 1 rfl) ?_
            refine lv_iand hx hb dX8_strings_71 ?_
            refine lv_istore (lv' := [(4, .int (L3b &&& (nI iL3))), (3, .int (L3c + (1 : Int32))), (6, .int (nI iL3)), (5, .int L3a), (0, .ref (g 0)), (1, .int x0), (2, .int x1)]) hx hb dX8_strings_72 hl (by decide) rfl (fun ls hl => ?_)
            refine lv_iload hx hb dX8_strings_74 (lv_at hl 3 rfl) ?_
            refine lv_iload hx hb dX8_strings_76 (lv_at hl 2 rfl) ?_
            refine lv_ior hx hb dX8_strings_78 ?_
            refine lv_istore (lv' := [(5, .int (L3a ||| (nI iL3))), (4, .int (L3b &&& (nI iL3))), (3, .int (L3c + (1 : Int32))), (6, .int (nI iL3)), (0, .ref (g 0)), (1, .int x0), (2, .int x1)]) hx hb dX8_strings_79 hl (by decide) rfl (fun ls hl => ?_)
            refine lv_iinc (v := (nI (iL3 + 1))) (lv' := [(6, .int (nI (iL3 + 1))), (5, .int (L3a ||| (nI iL3))), (4, .int (L3b &&& (nI iL3))), (3, .int (L3c + (1 : Int32))), (0, .ref (g 0)), (1, .int x0), (2, .int x1)]) hx hb dX8_strings_81 hl (k := 3) rfl (nI_1 _) (by decide) rfl (fun ls hl => ?_)
            refine lv_goto (tgt := 43) hx hb dX8_strings_84 (by decide) ?_
            subst hBL3
            exact ihL3 _ _ _ _ ⟨by omega, hs, hDn⟩ ⟨hH, lv_sub hl [0, 1, 2, 3, 4, 5, 6] rfl⟩
      · obtain ⟨hH, hl⟩ := hX
        refine lv_iload_n hx hb dX8_strings_87 rfl (lv_at hl 4 rfl) ?_
        refine lv_if_ne (tgt := 95) hx hb dX8_strings_88 (by decide) (fun c8 => ?_) (fun c8 => ?_)
        · rw [if_neg c8] at hF
          refine lv_iload_n hx hb dX8_strings_95 rfl (lv_at hl 2 rfl) ?_
          refine lv_if_ne (tgt := 104) hx hb dX8_strings_96 (by decide) (fun c9 => ?_) (fun c9 => ?_)
          · rw [if_neg c9] at hF
            refine lv_iload_n hx hb dX8_strings_104 rfl (lv_at hl 4 rfl) ?_
            refine lv_iconst (v := 1) hx hb dX8_strings_105 (by decide) ?_
            refine lv_icmp_ne (tgt := 114) hx hb dX8_strings_106 (by decide) (fun c10 => ?_) (fun c10 => ?_)
            · rw [if_neg c10] at hF
              refine lv_iconst (v := 1) hx hb dX8_strings_114 (by decide) ?_
              refine lv_aload_n hx hb dX8_strings_115 rfl (lv_at hl 3 rfl) ?_
              refine kb_get (v := .int (V.2.1 0)) hx hb hts hin8 hown hK hH 0 rfl rfl rfl 0 (by decide) (hts (.fieldLink RX8 53 "CockWarModel" "cocks" "I") (List.mem_of_getElem? (i := 2) rfl)) (fun _ h9 => h9) rfl dX8_strings_116 ?_
              refine lv_ishl hx hb dX8_strings_119 ?_
              refine lv_iconst (v := 1) hx hb dX8_strings_120 (by decide) ?_
              refine lv_isub hx hb dX8_strings_121 ?_
              refine lv_iload hx hb dX8_strings_122 (lv_at hl 0 rfl) ?_
              refine lv_iconst (v := -1) hx hb dX8_strings_124 (by decide) ?_
              refine lv_ixor hx hb dX8_strings_125 ?_
              refine lv_iand hx hb dX8_strings_126 ?_
              subst hF
              exact kb_iret hx hb hr hH rfl rfl dX8_strings_127 hlocks
            · rw [if_pos c10] at hF
              refine lv_iload hx hb dX8_strings_109 (lv_at hl 1 rfl) ?_
              refine lv_goto (tgt := 127) hx hb dX8_strings_111 (by decide) ?_
              subst hF
              exact kb_iret hx hb hr hH rfl rfl dX8_strings_127 hlocks
          · rw [if_pos c9] at hF
            refine lv_bipush (v := -9) hx hb dX8_strings_99 (by decide) ?_
            refine lv_goto (tgt := 127) hx hb dX8_strings_101 (by decide) ?_
            subst hF
            exact kb_iret hx hb hr hH rfl rfl dX8_strings_127 hlocks
        · rw [if_pos c8] at hF
          refine lv_iload_n hx hb dX8_strings_91 rfl (lv_at hl 2 rfl) ?_
          refine lv_goto (tgt := 127) hx hb dX8_strings_92 (by decide) ?_
          subst hF
          exact kb_iret hx hb hr hH rfl rfl dX8_strings_127 hlocks
    · rw [if_pos c2] at hF
      refine lv_bipush (v := -2) hx hb dX8_strings_22 (by decide) ?_
      subst hF
      exact kb_iret hx hb hr hH rfl rfl dX8_strings_24 hlocks
  · rw [if_pos c1] at hF
    refine lv_iconst (v := -1) hx hb dX8_strings_8 (by decide) ?_
    subst hF
    exact kb_iret hx hb hr hH rfl rfl dX8_strings_9 hlocks
def f_X8_winds_L1 (V : OV) (iL1 : Nat) (s : (Int32)) : (Int32) := (if (f_X8_isSeen V (nI iL1) (0 : Int32)) = 0 then (s ||| (0 : Int32)) else (s ||| ((1 : Int32) <<< ((nI iL1) &&& 31))))
def d_X8_winds_L1 (V : OV) (iL1 : Nat) (s : (Int32)) : Prop := (d_X8_isSeen V (nI iL1) (0 : Int32))
def f_X8_winds (V : OV) : (Int32) := (kAp (lpu (f_X8_winds_L1 V) (cN (V.2.1 1)) 0 (0 : Int32)) (fun z5 => z5))
def d_X8_winds (V : OV) : Prop := (lpuD (f_X8_winds_L1 V) (d_X8_winds_L1 V) (cN (V.2.1 1)) 0 (0 : Int32))
set_option maxHeartbeats 4000000 in
set_option maxRecDepth 100000 in
theorem c_X8_winds (l : Launch) (G : Ge) (g : Nat → Nat) (V : OV) (hD : d_X8_winds V) {F : (Int32)} (hF : f_X8_winds V = F) : CI l yX8_winds wsX8_winds { frames := 4, cells := 0, slots := 0, locals := 100 } [.ref (g 0)] G (w_O8 G g V) (w_O8 G g V) F := by
  intro sz
  refine Met.ofW (cc := cX8_winds) (maxL := 3) (ret := (some .int)) (by decide) rfl ?_
  intro p e s m args below meth c s₁ B hml hv
  obtain ⟨rfl, hpre⟩ := hv
  obtain ⟨hsz, hH, hK, hN, hA⟩ := kb_start hpre
  subst hsz
  have hx := B.exec
  have hb := B.bytes
  have hr := B.returns
  have hts := atoms_spec (ws := wsX8_winds) B.pre
  have hown : s.vm.findClass RX8 = some m.cls := findClass_of_methodNamed B.named
  have hlocks := B.notSynchronized
  generalize hAe : va_A (List.flatten (w_O8 G g V)) s.heap.size = A at hH hA ⊢
  have hl := lv_entry ([.ref (g 0)]) (n := 3) (Nat.le_of_ble_eq_true rfl)
  rw [lg_entry_eq]
  generalize (lg_sl ([.ref (g 0)]) ++ List.replicate (3 - (lg_sl ([.ref (g 0)])).length) Slot.unset).toArray = ls at hl ⊢
  have hl : lv_has ls 3 [(0, .ref (g 0))] := hl
  have hH : HP G A s.heap (w_O8 G g V) s.heap [] := hH
  have hin8 : ∀ w ∈ u_ws RX8 TX8 31, w ∈ wsX8_winds := fun w h => List.mem_cons_of_mem _ (List.mem_append_right _ h)
  have hF : (kAp (lpu (f_X8_winds_L1 V) (cN (V.2.1 1)) 0 (0 : Int32)) (fun z5 => z5)) = F := hF
  have hD : (lpuD (f_X8_winds_L1 V) (d_X8_winds_L1 V) (cN (V.2.1 1)) 0 (0 : Int32)) := hD
  refine lv_iconst (v := 0) hx hb dX8_winds_0 (by decide) ?_
  refine lv_istore_n (lv' := [(1, .int (0 : Int32)), (0, .ref (g 0))]) hx hb dX8_winds_1 rfl hl (by decide) rfl (fun ls hl => ?_)
  refine lv_iconst (v := 0) hx hb dX8_winds_2 (by decide) ?_
  refine lv_istore_n (lv' := [(2, .int (0 : Int32)), (1, .int (0 : Int32)), (0, .ref (g 0))]) hx hb dX8_winds_3 rfl hl (by decide) rfl (fun ls hl => ?_)
  have hDlL1 := hD
  obtain ⟨SFL1, hSFL1⟩ : ∃ z, z = (lpu (f_X8_winds_L1 V) (cN (V.2.1 1)) 0 (0 : Int32)) := ⟨_, rfl⟩
  have hF := kAp_eq hF hSFL1
  refine kb_cut (fun H locs ls => HP G A s.heap (w_O8 G g V) H locs ∧ lv_has ls 3 [(1, .int SFL1)]) 37 [] (fun EXL1 => ?_) (fun H locs ls hX => ?_)
  · refine kb_loop (σ := (Int32)) (fun n i x => n + i = (cN (V.2.1 1)) ∧ lpu (f_X8_winds_L1 V) n i x = SFL1 ∧ lpuD (f_X8_winds_L1 V) (d_X8_winds_L1 V) n i x) (fun iL1 x H locs ls => HP G A s.heap (w_O8 G g V) H locs ∧ lv_has ls 3 [(2, .int (nI iL1)), (1, .int x), (0, .ref (g 0))]) (fun iL1 x H locs ls hI hX => ?_) (fun n iL1 x hI ihL1 H locs ls hX => ?_) (cN (V.2.1 1)) 0 (0 : Int32) _ _ _ ⟨Nat.add_zero _, hSFL1.symm, hDlL1⟩ ⟨hH, lv_sub hl [0, 1, 2] rfl⟩
    · obtain ⟨L1a, exL1a⟩ : ∃ z, z = x := ⟨_, rfl⟩
      subst exL1a
      have hH : HP G A s.heap (w_O8 G g V) H locs := hX.1
      have hl : lv_has ls 3 [(2, .int (nI iL1)), (1, .int L1a), (0, .ref (g 0))] := hX.2
      obtain ⟨hiL1, hs, _⟩ := hI
      have hiL1 : iL1 = (cN (V.2.1 1)) := by omega
      refine lv_iload_n hx hb dX8_winds_4 rfl (lv_at hl 0 rfl) ?_
      refine lv_aload_n hx hb dX8_winds_5 rfl (lv_at hl 2 rfl) ?_
      refine kb_get (v := .int (V.2.1 1)) hx hb hts hin8 hown hK hH 0 rfl rfl rfl 1 (by decide) (hts (.fieldLink RX8 109 "CockWarModel" "winds" "I") (List.mem_of_getElem? (i := 1) rfl)) (fun _ h9 => h9) rfl dX8_winds_6 ?_
      refine lv_icmp_ge (tgt := 37) hx hb dX8_winds_9 (by decide) (fun _ => ?_) (fun c => absurd (cN_end hiL1) c)
      exact EXL1 _ _ _ ⟨by subst hs; exact hH, by subst hs; exact lv_sub hl [1] rfl⟩
    · obtain ⟨L1a, exL1a⟩ : ∃ z, z = x := ⟨_, rfl⟩
      subst exL1a
      have hH : HP G A s.heap (w_O8 G g V) H locs := hX.1
      have hl : lv_has ls 3 [(2, .int (nI iL1)), (1, .int L1a), (0, .ref (g 0))] := hX.2
      obtain ⟨hiL1, hs, hDi⟩ := hI
      obtain ⟨hD, hDn⟩ := hDi
      have hD : (d_X8_isSeen V (nI iL1) (0 : Int32)) := hD
      have hltL1 : iL1 < (cN (V.2.1 1)) := by omega
      obtain ⟨BVL1, hBd⟩ : ∃ z, (f_X8_winds_L1 V) iL1 L1a = z := ⟨_, rfl⟩
      have hs : lpu (f_X8_winds_L1 V) n (iL1 + 1) BVL1 = SFL1 := by rw [← hBd]; exact hs
      have hDn : lpuD (f_X8_winds_L1 V) (d_X8_winds_L1 V) n (iL1 + 1) BVL1 := by rw [← hBd]; exact hDn
      have hBL1 : (if (f_X8_isSeen V (nI iL1) (0 : Int32)) = 0 then (L1a ||| (0 : Int32)) else (L1a ||| ((1 : Int32) <<< ((nI iL1) &&& 31)))) = BVL1 := hBd
      refine lv_iload_n hx hb dX8_winds_4 rfl (lv_at hl 0 rfl) ?_
      refine lv_aload_n hx hb dX8_winds_5 rfl (lv_at hl 2 rfl) ?_
      refine kb_get (v := .int (V.2.1 1)) hx hb hts hin8 hown hK hH 0 rfl rfl rfl 1 (by decide) (hts (.fieldLink RX8 109 "CockWarModel" "winds" "I") (List.mem_of_getElem? (i := 1) rfl)) (fun _ h9 => h9) rfl dX8_winds_6 ?_
      refine lv_icmp_ge (tgt := 37) hx hb dX8_winds_9 (by decide) (fun c => absurd c (cN_ge hltL1)) (fun c2 => ?_)
      refine lv_iload_n hx hb dX8_winds_12 rfl (lv_at hl 1 rfl) ?_
      refine lv_aload_n hx hb dX8_winds_13 rfl (lv_at hl 2 rfl) ?_
      refine lv_iload_n hx hb dX8_winds_14 rfl (lv_at hl 0 rfl) ?_
      refine lv_iconst (v := 0) hx hb dX8_winds_15 (by decide) ?_
      have hz3 := hD
      refine kb_ci hH hA [0, 1, 2, 3, 4, 5, 6, 7, 8, 9, 10, 11, 12, 13, 14] (Wc := (w_O8 G g V)) (Wc' := (w_O8 G g V)) (WS' := (w_O8 G g V)) rfl (by decide) rfl rfl (va_runV (As := [.int (nI iL1), .int (0 : Int32)]) (rest := [.int L1a]) ⟨hx, hb, hml, hown, hts⟩ (c_X8_isSeen l G g V (nI iL1) (0 : Int32) hz3 rfl _) (cwV 2 hts gX8_winds_X8_isSeen rfl rfl rfl he_X8_isSeen ⟨Nat.le_of_ble_eq_true rfl, Nat.le_of_ble_eq_true rfl⟩) (kb_preV hH hK hN [0, 1, 2, 3, 4, 5, 6, 7, 8, 9, 10, 11, 12, 13, 14] rfl (by decide) 0 rfl rfl rfl rfl) rfl rfl hl.1 rfl (lv_room (Nat.le_of_ble_eq_true rfl)) dX8_winds_16 ⟨Nat.le_of_ble_eq_true rfl, Nat.le_of_ble_eq_true rfl⟩) (fun H locs hH => ?_)
      refine lv_if_eq (tgt := 28) hx hb dX8_winds_19 (by decide) (fun c4 => ?_) (fun c4 => ?_)
      · rw [if_pos c4] at hBL1
        refine lv_iconst (v := 0) hx hb dX8_winds_28 (by decide) ?_
        refine lv_ior hx hb dX8_winds_29 ?_
        refine lv_istore_n (lv' := [(1, .int (L1a ||| (0 : Int32))), (2, .int (nI iL1)), (0, .ref (g 0))]) hx hb dX8_winds_30 rfl hl (by decide) rfl (fun ls hl => ?_)
        refine lv_iinc (v := (nI (iL1 + 1))) (lv' := [(2, .int (nI (iL1 + 1))), (1, .int (L1a ||| (0 : Int32))), (0, .ref (g 0))]) hx hb dX8_winds_31 hl (k := 1) rfl (nI_1 _) (by decide) rfl (fun ls hl => ?_)
        refine lv_goto (tgt := 4) hx hb dX8_winds_34 (by decide) ?_
        subst hBL1
        exact ihL1 _ _ _ _ ⟨by omega, hs, hDn⟩ ⟨hH, lv_sub hl [0, 1, 2] rfl⟩
      · rw [if_neg c4] at hBL1
        refine lv_iconst (v := 1) hx hb dX8_winds_22 (by decide) ?_
        refine lv_iload_n hx hb dX8_winds_23 rfl (lv_at hl 0 rfl) ?_
        refine lv_ishl hx hb dX8_winds_24 ?_
        refine lv_goto (tgt := 29) hx hb dX8_winds_25 (by decide) ?_
        refine lv_ior hx hb dX8_winds_29 ?_
        refine lv_istore_n (lv' := [(1, .int (L1a ||| ((1 : Int32) <<< ((nI iL1) &&& 31)))), (2, .int (nI iL1)), (0, .ref (g 0))]) hx hb dX8_winds_30 rfl hl (by decide) rfl (fun ls hl => ?_)
        refine lv_iinc (v := (nI (iL1 + 1))) (lv' := [(2, .int (nI (iL1 + 1))), (1, .int (L1a ||| ((1 : Int32) <<< ((nI iL1) &&& 31)))), (0, .ref (g 0))]) hx hb dX8_winds_31 hl (k := 1) rfl (nI_1 _) (by decide) rfl (fun ls hl => ?_)
        refine lv_goto (tgt := 4) hx hb dX8_winds_34 (by decide) ?_
        subst hBL1
        exact ihL1 _ _ _ _ ⟨by omega, hs, hDn⟩ ⟨hH, lv_sub hl [0, 1, 2] rfl⟩
  · obtain ⟨hH, hl⟩ := hX
    refine lv_iload_n hx hb dX8_winds_37 rfl (lv_at hl 0 rfl) ?_
    subst hF
    exact kb_iret hx hb hr hH rfl rfl dX8_winds_38 hlocks
def f_X8_isChoice (V : OV) (x0 : Int32) (x1 : Int32) : (Int32) := (if x1 = 0 then (1 : Int32) else (if (f_X8_isCock V (x1 - (1 : Int32))) = 0 then (0 : Int32) else (if ((((V.1 5) (22 : Int32).toNatClampNeg) >>> ((x1 - (1 : Int32)) &&& 31)) &&& (1 : Int32)) = x0 then (1 : Int32) else (0 : Int32))))
set_option maxHeartbeats 4000000 in
set_option maxRecDepth 100000 in
theorem c_X8_isChoice (l : Launch) (G : Ge) (g : Nat → Nat) (V : OV) (x0 : Int32) (x1 : Int32) {F : (Int32)} (hF : f_X8_isChoice V x0 x1 = F) : CI l yX8_isChoice wsX8_isChoice { frames := 2, cells := 0, slots := 0, locals := 46 } [.ref (g 0), .int x0, .int x1] G (w_O8 G g V) (w_O8 G g V) F := by
  intro sz
  refine Met.ofW (cc := cX8_isChoice) (maxL := 3) (ret := (some .boolean)) (by decide) rfl ?_
  intro p e s m args below meth c s₁ B hml hv
  obtain ⟨rfl, hpre⟩ := hv
  obtain ⟨hsz, hH, hK, hN, hA⟩ := kb_start hpre
  subst hsz
  have hx := B.exec
  have hb := B.bytes
  have hr := B.returns
  have hts := atoms_spec (ws := wsX8_isChoice) B.pre
  have hown : s.vm.findClass RX8 = some m.cls := findClass_of_methodNamed B.named
  have hlocks := B.notSynchronized
  generalize hAe : va_A (List.flatten (w_O8 G g V)) s.heap.size = A at hH hA ⊢
  have hl := lv_entry ([.ref (g 0), .int x0, .int x1]) (n := 3) (Nat.le_of_ble_eq_true rfl)
  rw [lg_entry_eq]
  generalize (lg_sl ([.ref (g 0), .int x0, .int x1]) ++ List.replicate (3 - (lg_sl ([.ref (g 0), .int x0, .int x1])).length) Slot.unset).toArray = ls at hl ⊢
  have hl : lv_has ls 3 [(0, .ref (g 0)), (1, .int x0), (2, .int x1)] := hl
  have hH : HP G A s.heap (w_O8 G g V) s.heap [] := hH
  have hin8 : ∀ w ∈ u_ws RX8 TX8 31, w ∈ wsX8_isChoice := fun w h => List.mem_cons_of_mem _ (List.mem_append_right _ h)
  have hF : (if x1 = 0 then (1 : Int32) else (if (f_X8_isCock V (x1 - (1 : Int32))) = 0 then (0 : Int32) else (if ((((V.1 5) (22 : Int32).toNatClampNeg) >>> ((x1 - (1 : Int32)) &&& 31)) &&& (1 : Int32)) = x0 then (1 : Int32) else (0 : Int32)))) = F := hF
  refine lv_iload_n hx hb dX8_isChoice_0 rfl (lv_at hl 2 rfl) ?_
  refine lv_if_eq (tgt := 31) hx hb dX8_isChoice_1 (by decide) (fun c1 => ?_) (fun c1 => ?_)
  · rw [if_pos c1] at hF
    refine lv_iconst (v := 1) hx hb dX8_isChoice_31 (by decide) ?_
    refine lv_goto (tgt := 36) hx hb dX8_isChoice_32 (by decide) ?_
    subst hF
    exact kb_zret hx hb hr hH rfl rfl (kb_nar _ (Or.inr rfl)) dX8_isChoice_36 hlocks
  · rw [if_neg c1] at hF
    refine lv_aload_n hx hb dX8_isChoice_4 rfl (lv_at hl 0 rfl) ?_
    refine lv_iload_n hx hb dX8_isChoice_5 rfl (lv_at hl 2 rfl) ?_
    refine lv_iconst (v := 1) hx hb dX8_isChoice_6 (by decide) ?_
    refine lv_isub hx hb dX8_isChoice_7 ?_
    refine kb_ci hH hA [0, 1, 2, 3, 4, 5, 6, 7, 8, 9, 10, 11, 12, 13, 14] (Wc := (w_O8 G g V)) (Wc' := (w_O8 G g V)) (WS' := (w_O8 G g V)) rfl (by decide) rfl rfl (va_runV (As := [.int (x1 - (1 : Int32))]) (rest := []) ⟨hx, hb, hml, hown, hts⟩ (c_X8_isCock l G g V (x1 - (1 : Int32)) rfl _) (cwV 1 hts gX8_isChoice_X8_isCock rfl rfl rfl he_X8_isCock ⟨Nat.le_of_ble_eq_true rfl, Nat.le_of_ble_eq_true rfl⟩) (kb_preV hH hK hN [0, 1, 2, 3, 4, 5, 6, 7, 8, 9, 10, 11, 12, 13, 14] rfl (by decide) 0 rfl rfl rfl rfl) rfl rfl hl.1 rfl (lv_room (Nat.le_of_ble_eq_true rfl)) dX8_isChoice_8 ⟨Nat.le_of_ble_eq_true rfl, Nat.le_of_ble_eq_true rfl⟩) (fun H locs hH => ?_)
    refine lv_if_eq (tgt := 35) hx hb dX8_isChoice_11 (by decide) (fun c2 => ?_) (fun c2 => ?_)
    · rw [if_pos c2] at hF
      refine lv_iconst (v := 0) hx hb dX8_isChoice_35 (by decide) ?_
      subst hF
      exact kb_zret hx hb hr hH rfl rfl (kb_nar _ (Or.inl rfl)) dX8_isChoice_36 hlocks
    · rw [if_neg c2] at hF
      refine lv_aload_n hx hb dX8_isChoice_14 rfl (lv_at hl 0 rfl) ?_
      refine kb_get (v := .ref (g 6)) hx hb hts hin8 hown hK hH 0 rfl rfl rfl 5 (by decide) (hts (.fieldLink RX8 19 "CockWarModel" "now" "[I") (List.mem_of_getElem? (i := 1) rfl)) (fun _ h9 => h9) rfl dX8_isChoice_15 ?_
      refine lv_bipush (v := 22) hx hb dX8_isChoice_18 (by decide) ?_
      refine kb_iald hx hb hK hH 4 rfl (show ¬ ((22 : Int32) < 0 ∨ 54 ≤ (22 : Int32).toNatClampNeg) by decide) dX8_isChoice_20 ?_
      refine lv_iload_n hx hb dX8_isChoice_21 rfl (lv_at hl 2 rfl) ?_
      refine lv_iconst (v := 1) hx hb dX8_isChoice_22 (by decide) ?_
      refine lv_isub hx hb dX8_isChoice_23 ?_
      refine lv_ishr hx hb dX8_isChoice_24 ?_
      refine lv_iconst (v := 1) hx hb dX8_isChoice_25 (by decide) ?_
      refine lv_iand hx hb dX8_isChoice_26 ?_
      refine lv_iload_n hx hb dX8_isChoice_27 rfl (lv_at hl 1 rfl) ?_
      refine lv_icmp_ne (tgt := 35) hx hb dX8_isChoice_28 (by decide) (fun c3 => ?_) (fun c3 => ?_)
      · rw [if_neg c3] at hF
        refine lv_iconst (v := 0) hx hb dX8_isChoice_35 (by decide) ?_
        subst hF
        exact kb_zret hx hb hr hH rfl rfl (kb_nar _ (Or.inl rfl)) dX8_isChoice_36 hlocks
      · rw [if_pos c3] at hF
        refine lv_iconst (v := 1) hx hb dX8_isChoice_31 (by decide) ?_
        refine lv_goto (tgt := 36) hx hb dX8_isChoice_32 (by decide) ?_
        subst hF
        exact kb_zret hx hb hr hH rfl rfl (kb_nar _ (Or.inr rfl)) dX8_isChoice_36 hlocks
def f_X8_heldBy (V : OV) (x0 : Int32) (x1 : Int32) (x2 : Int32) : (Int32) := (kAp ((if x1 = 0 then (0 : Int32) else ((1 : Int32) <<< ((x1 - (1 : Int32)) &&& 31))) : Int32) (fun v3 => (kAp ((if x2 = 0 then (0 : Int32) else ((1 : Int32) <<< ((x2 - (1 : Int32)) &&& 31))) : Int32) (fun v7 => (f_X8_underOf V (0 : Int32) x0 (v3 ||| v7))))))
def d_X8_heldBy (V : OV) (x0 : Int32) (x1 : Int32) (x2 : Int32) : Prop := (kAp ((if x1 = 0 then (0 : Int32) else ((1 : Int32) <<< ((x1 - (1 : Int32)) &&& 31))) : Int32) (fun v3 => (kAp ((if x2 = 0 then (0 : Int32) else ((1 : Int32) <<< ((x2 - (1 : Int32)) &&& 31))) : Int32) (fun v7 => (d_X8_underOf V (0 : Int32) x0 (v3 ||| v7))))))
set_option maxHeartbeats 4000000 in
set_option maxRecDepth 100000 in
theorem c_X8_heldBy (l : Launch) (G : Ge) (g : Nat → Nat) (V : OV) (x0 : Int32) (x1 : Int32) (x2 : Int32) (hD : d_X8_heldBy V x0 x1 x2) {F : (Int32)} (hF : f_X8_heldBy V x0 x1 x2 = F) : CI l yX8_heldBy wsX8_heldBy { frames := 4, cells := 0, slots := 0, locals := 98 } [.ref (g 0), .int x0, .int x1, .int x2] G (w_O8 G g V) (w_O8 G g V) F := by
  intro sz
  refine Met.ofW (cc := cX8_heldBy) (maxL := 5) (ret := (some .int)) (by decide) rfl ?_
  intro p e s m args below meth c s₁ B hml hv
  obtain ⟨rfl, hpre⟩ := hv
  obtain ⟨hsz, hH, hK, hN, hA⟩ := kb_start hpre
  subst hsz
  have hx := B.exec
  have hb := B.bytes
  have hr := B.returns
  have hts := atoms_spec (ws := wsX8_heldBy) B.pre
  have hown : s.vm.findClass RX8 = some m.cls := findClass_of_methodNamed B.named
  have hlocks := B.notSynchronized
  generalize hAe : va_A (List.flatten (w_O8 G g V)) s.heap.size = A at hH hA ⊢
  have hl := lv_entry ([.ref (g 0), .int x0, .int x1, .int x2]) (n := 5) (Nat.le_of_ble_eq_true rfl)
  rw [lg_entry_eq]
  generalize (lg_sl ([.ref (g 0), .int x0, .int x1, .int x2]) ++ List.replicate (5 - (lg_sl ([.ref (g 0), .int x0, .int x1, .int x2])).length) Slot.unset).toArray = ls at hl ⊢
  have hl : lv_has ls 5 [(0, .ref (g 0)), (1, .int x0), (2, .int x1), (3, .int x2)] := hl
  have hH : HP G A s.heap (w_O8 G g V) s.heap [] := hH
  have hF : (kAp ((if x1 = 0 then (0 : Int32) else ((1 : Int32) <<< ((x1 - (1 : Int32)) &&& 31))) : Int32) (fun v3 => (kAp ((if x2 = 0 then (0 : Int32) else ((1 : Int32) <<< ((x2 - (1 : Int32)) &&& 31))) : Int32) (fun v7 => (f_X8_underOf V (0 : Int32) x0 (v3 ||| v7)))))) = F := hF
  have hD : (kAp ((if x1 = 0 then (0 : Int32) else ((1 : Int32) <<< ((x1 - (1 : Int32)) &&& 31))) : Int32) (fun v3 => (kAp ((if x2 = 0 then (0 : Int32) else ((1 : Int32) <<< ((x2 - (1 : Int32)) &&& 31))) : Int32) (fun v7 => (d_X8_underOf V (0 : Int32) x0 (v3 ||| v7)))))) := hD
  refine lv_iload_n hx hb dX8_heldBy_0 rfl (lv_at hl 2 rfl) ?_
  obtain ⟨v3, ev3⟩ : ∃ z : Int32, (if x1 = 0 then (0 : Int32) else ((1 : Int32) <<< ((x1 - (1 : Int32)) &&& 31))) = z := ⟨_, rfl⟩
  have hF := kAp_eq hF ev3.symm
  have hD := kAp_D hD ev3.symm
  refine kb_cut (fun H locs ls => HP G A s.heap (w_O8 G g V) H locs ∧ lv_has ls 5 [(0, .ref (g 0)), (1, .int x0), (3, .int x2)]) 13 [.int v3] (fun u1 => ?_) (fun H locs ls hX => ?_)
  · refine lv_if_ne (tgt := 8) hx hb dX8_heldBy_1 (by decide) (fun c4 => ?_) (fun c4 => ?_)
    · rw [if_neg c4] at ev3
      refine lv_iconst (v := 1) hx hb dX8_heldBy_8 (by decide) ?_
      refine lv_iload_n hx hb dX8_heldBy_9 rfl (lv_at hl 2 rfl) ?_
      refine lv_iconst (v := 1) hx hb dX8_heldBy_10 (by decide) ?_
      refine lv_isub hx hb dX8_heldBy_11 ?_
      refine lv_ishl hx hb dX8_heldBy_12 ?_
      subst ev3
      exact u1 _ _ _ ⟨hH, lv_sub hl [0, 1, 3] rfl⟩
    · rw [if_pos c4] at ev3
      refine lv_iconst (v := 0) hx hb dX8_heldBy_4 (by decide) ?_
      refine lv_goto (tgt := 13) hx hb dX8_heldBy_5 (by decide) ?_
      subst ev3
      exact u1 _ _ _ ⟨hH, lv_sub hl [0, 1, 3] rfl⟩
  · obtain ⟨hH, hl⟩ := hX
    refine lv_iload_n hx hb dX8_heldBy_13 rfl (lv_at hl 2 rfl) ?_
    obtain ⟨v7, ev7⟩ : ∃ z : Int32, (if x2 = 0 then (0 : Int32) else ((1 : Int32) <<< ((x2 - (1 : Int32)) &&& 31))) = z := ⟨_, rfl⟩
    have hF := kAp_eq hF ev7.symm
    have hD := kAp_D hD ev7.symm
    refine kb_cut (fun H locs ls => HP G A s.heap (w_O8 G g V) H locs ∧ lv_has ls 5 [(0, .ref (g 0)), (1, .int x0)]) 26 [.int v7, .int v3] (fun u5 => ?_) (fun H locs ls hX => ?_)
    · refine lv_if_ne (tgt := 21) hx hb dX8_heldBy_14 (by decide) (fun c8 => ?_) (fun c8 => ?_)
      · rw [if_neg c8] at ev7
        refine lv_iconst (v := 1) hx hb dX8_heldBy_21 (by decide) ?_
        refine lv_iload_n hx hb dX8_heldBy_22 rfl (lv_at hl 2 rfl) ?_
        refine lv_iconst (v := 1) hx hb dX8_heldBy_23 (by decide) ?_
        refine lv_isub hx hb dX8_heldBy_24 ?_
        refine lv_ishl hx hb dX8_heldBy_25 ?_
        subst ev7
        exact u5 _ _ _ ⟨hH, lv_sub hl [0, 1] rfl⟩
      · rw [if_pos c8] at ev7
        refine lv_iconst (v := 0) hx hb dX8_heldBy_17 (by decide) ?_
        refine lv_goto (tgt := 26) hx hb dX8_heldBy_18 (by decide) ?_
        subst ev7
        exact u5 _ _ _ ⟨hH, lv_sub hl [0, 1] rfl⟩
    · obtain ⟨hH, hl⟩ := hX
      refine lv_ior hx hb dX8_heldBy_26 ?_
      refine lv_istore (lv' := [(4, .int (v3 ||| v7)), (0, .ref (g 0)), (1, .int x0)]) hx hb dX8_heldBy_27 hl (by decide) rfl (fun ls hl => ?_)
      refine lv_aload_n hx hb dX8_heldBy_29 rfl (lv_at hl 1 rfl) ?_
      refine lv_iconst (v := 0) hx hb dX8_heldBy_30 (by decide) ?_
      refine lv_iload_n hx hb dX8_heldBy_31 rfl (lv_at hl 2 rfl) ?_
      refine lv_iload hx hb dX8_heldBy_32 (lv_at hl 0 rfl) ?_
      have hz9 := hD
      refine kb_ci hH hA [0, 1, 2, 3, 4, 5, 6, 7, 8, 9, 10, 11, 12, 13, 14] (Wc := (w_O8 G g V)) (Wc' := (w_O8 G g V)) (WS' := (w_O8 G g V)) rfl (by decide) rfl rfl (va_runV (As := [.int (0 : Int32), .int x0, .int (v3 ||| v7)]) (rest := []) ⟨hx, hb, hml, hown, hts⟩ (c_X8_underOf l G g V (0 : Int32) x0 (v3 ||| v7) hz9 rfl _) (cwV 3 hts gX8_heldBy_X8_underOf rfl rfl rfl he_X8_underOf ⟨Nat.le_of_ble_eq_true rfl, Nat.le_of_ble_eq_true rfl⟩) (kb_preV hH hK hN [0, 1, 2, 3, 4, 5, 6, 7, 8, 9, 10, 11, 12, 13, 14] rfl (by decide) 0 rfl rfl rfl rfl) rfl rfl hl.1 rfl (lv_room (Nat.le_of_ble_eq_true rfl)) dX8_heldBy_34 ⟨Nat.le_of_ble_eq_true rfl, Nat.le_of_ble_eq_true rfl⟩) (fun H locs hH => ?_)
      subst hF
      exact kb_iret hx hb hr hH rfl rfl dX8_heldBy_37 hlocks
def f_X8_isRest_L2 (V : OV) (x0 : Int32) (x1 : Int32) (x2 : Int32) (iL2 : Nat) (s : (Int32)) : (Int32) := (kAp ((if s = 0 then (0 : Int32) else (if (f_X8_heldBy V x0 x1 x2) = 0 then (1 : Int32) else (if (f_X8_isChoice V (0 : Int32) (nI iL2)) = 0 then (1 : Int32) else (if (f_X8_heldBy V x0 (nI iL2) x2) = 0 then (0 : Int32) else (1 : Int32))))) : Int32) (fun v6 => (if v6 = 0 then (0 : Int32) else (if (f_X8_heldBy V x0 x1 x2) = (1 : Int32) then (1 : Int32) else (if (f_X8_isChoice V (1 : Int32) (nI iL2)) = 0 then (1 : Int32) else (if (f_X8_heldBy V x0 x1 (nI iL2)) = (1 : Int32) then (0 : Int32) else (1 : Int32)))))))
def d_X8_isRest_L2 (V : OV) (x0 : Int32) (x1 : Int32) (x2 : Int32) (iL2 : Nat) (s : (Int32)) : Prop := ((¬ (s = 0) → (¬ ((f_X8_heldBy V x0 x1 x2) = 0) → (¬ ((f_X8_isChoice V (0 : Int32) (nI iL2)) = 0) → (d_X8_heldBy V x0 (nI iL2) x2)))) ∧ (kAp ((if s = 0 then (0 : Int32) else (if (f_X8_heldBy V x0 x1 x2) = 0 then (1 : Int32) else (if (f_X8_isChoice V (0 : Int32) (nI iL2)) = 0 then (1 : Int32) else (if (f_X8_heldBy V x0 (nI iL2) x2) = 0 then (0 : Int32) else (1 : Int32))))) : Int32) (fun v6 => (¬ (v6 = 0) → (¬ ((f_X8_heldBy V x0 x1 x2) = (1 : Int32)) → (¬ ((f_X8_isChoice V (1 : Int32) (nI iL2)) = 0) → (d_X8_heldBy V x0 x1 (nI iL2))))))))
def f_X8_isRest (V : OV) (x0 : Int32) (x1 : Int32) (x2 : Int32) : (Int32) := (kAp (lpu (f_X8_isRest_L2 V x0 x1 x2) (cN (7 : Int32)) 0 (1 : Int32)) (fun z17 => z17))
def d_X8_isRest (V : OV) (x0 : Int32) (x1 : Int32) (x2 : Int32) : Prop := ((d_X8_heldBy V x0 x1 x2) ∧ ((lpuD (f_X8_isRest_L2 V x0 x1 x2) (d_X8_isRest_L2 V x0 x1 x2) (cN (7 : Int32)) 0 (1 : Int32)) ∧ (kAp (lpu (f_X8_isRest_L2 V x0 x1 x2) (cN (7 : Int32)) 0 (1 : Int32)) (fun z17 => (z17 = 0 ∨ z17 = 1)))))
set_option maxHeartbeats 4000000 in
set_option maxRecDepth 100000 in
theorem c_X8_isRest (l : Launch) (G : Ge) (g : Nat → Nat) (V : OV) (x0 : Int32) (x1 : Int32) (x2 : Int32) (hD : d_X8_isRest V x0 x1 x2) {F : (Int32)} (hF : f_X8_isRest V x0 x1 x2 = F) : CI l yX8_isRest wsX8_isRest { frames := 5, cells := 0, slots := 0, locals := 122 } [.ref (g 0), .int x0, .int x1, .int x2] G (w_O8 G g V) (w_O8 G g V) F := by
  intro sz
  refine Met.ofW (cc := cX8_isRest) (maxL := 7) (ret := (some .boolean)) (by decide) rfl ?_
  intro p e s m args below meth c s₁ B hml hv
  obtain ⟨rfl, hpre⟩ := hv
  obtain ⟨hsz, hH, hK, hN, hA⟩ := kb_start hpre
  subst hsz
  have hx := B.exec
  have hb := B.bytes
  have hr := B.returns
  have hts := atoms_spec (ws := wsX8_isRest) B.pre
  have hown : s.vm.findClass RX8 = some m.cls := findClass_of_methodNamed B.named
  have hlocks := B.notSynchronized
  generalize hAe : va_A (List.flatten (w_O8 G g V)) s.heap.size = A at hH hA ⊢
  have hl := lv_entry ([.ref (g 0), .int x0, .int x1, .int x2]) (n := 7) (Nat.le_of_ble_eq_true rfl)
  rw [lg_entry_eq]
  generalize (lg_sl ([.ref (g 0), .int x0, .int x1, .int x2]) ++ List.replicate (7 - (lg_sl ([.ref (g 0), .int x0, .int x1, .int x2])).length) Slot.unset).toArray = ls at hl ⊢
  have hl : lv_has ls 7 [(0, .ref (g 0)), (1, .int x0), (2, .int x1), (3, .int x2)] := hl
  have hH : HP G A s.heap (w_O8 G g V) s.heap [] := hH
  have hF : (kAp (lpu (f_X8_isRest_L2 V x0 x1 x2) (cN (7 : Int32)) 0 (1 : Int32)) (fun z17 => z17)) = F := hF
  have hD : ((d_X8_heldBy V x0 x1 x2) ∧ ((lpuD (f_X8_isRest_L2 V x0 x1 x2) (d_X8_isRest_L2 V x0 x1 x2) (cN (7 : Int32)) 0 (1 : Int32)) ∧ (kAp (lpu (f_X8_isRest_L2 V x0 x1 x2) (cN (7 : Int32)) 0 (1 : Int32)) (fun z17 => (z17 = 0 ∨ z17 = 1))))) := hD
  refine lv_iconst (v := 1) hx hb dX8_isRest_0 (by decide) ?_
  refine lv_istore (lv' := [(4, .int (1 : Int32)), (0, .ref (g 0)), (1, .int x0), (2, .int x1), (3, .int x2)]) hx hb dX8_isRest_1 hl (by decide) rfl (fun ls hl => ?_)
  refine lv_aload_n hx hb dX8_isRest_3 rfl (lv_at hl 1 rfl) ?_
  refine lv_iload_n hx hb dX8_isRest_4 rfl (lv_at hl 2 rfl) ?_
  refine lv_iload_n hx hb dX8_isRest_5 rfl (lv_at hl 3 rfl) ?_
  refine lv_iload_n hx hb dX8_isRest_6 rfl (lv_at hl 4 rfl) ?_
  obtain ⟨hz1, hD⟩ := hD
  refine kb_ci hH hA [0, 1, 2, 3, 4, 5, 6, 7, 8, 9, 10, 11, 12, 13, 14] (Wc := (w_O8 G g V)) (Wc' := (w_O8 G g V)) (WS' := (w_O8 G g V)) rfl (by decide) rfl rfl (va_runV (As := [.int x0, .int x1, .int x2]) (rest := []) ⟨hx, hb, hml, hown, hts⟩ (c_X8_heldBy l G g V x0 x1 x2 hz1 rfl _) (cwV 3 hts gX8_isRest_X8_heldBy rfl rfl rfl he_X8_heldBy ⟨Nat.le_of_ble_eq_true rfl, Nat.le_of_ble_eq_true rfl⟩) (kb_preV hH hK hN [0, 1, 2, 3, 4, 5, 6, 7, 8, 9, 10, 11, 12, 13, 14] rfl (by decide) 0 rfl rfl rfl rfl) rfl rfl hl.1 rfl (lv_room (Nat.le_of_ble_eq_true rfl)) dX8_isRest_7 ⟨Nat.le_of_ble_eq_true rfl, Nat.le_of_ble_eq_true rfl⟩) (fun H locs hH => ?_)
  refine lv_istore (lv' := [(5, .int (f_X8_heldBy V x0 x1 x2)), (4, .int (1 : Int32)), (0, .ref (g 0)), (1, .int x0), (2, .int x1), (3, .int x2)]) hx hb dX8_isRest_10 hl (by decide) rfl (fun ls hl => ?_)
  refine lv_iconst (v := 0) hx hb dX8_isRest_12 (by decide) ?_
  refine lv_istore (lv' := [(6, .int (0 : Int32)), (5, .int (f_X8_heldBy V x0 x1 x2)), (4, .int (1 : Int32)), (0, .ref (g 0)), (1, .int x0), (2, .int x1), (3, .int x2)]) hx hb dX8_isRest_13 hl (by decide) rfl (fun ls hl => ?_)
  obtain ⟨hDlL2, hD⟩ := hD
  obtain ⟨SFL2, hSFL2⟩ : ∃ z, z = (lpu (f_X8_isRest_L2 V x0 x1 x2) (cN (7 : Int32)) 0 (1 : Int32)) := ⟨_, rfl⟩
  have hF := kAp_eq hF hSFL2
  have hD := kAp_D hD hSFL2
  refine kb_cut (fun H locs ls => HP G A s.heap (w_O8 G g V) H locs ∧ lv_has ls 7 [(4, .int SFL2)]) 106 [] (fun EXL2 => ?_) (fun H locs ls hX => ?_)
  · refine kb_loop (σ := (Int32)) (fun n i x => n + i = (cN (7 : Int32)) ∧ lpu (f_X8_isRest_L2 V x0 x1 x2) n i x = SFL2 ∧ lpuD (f_X8_isRest_L2 V x0 x1 x2) (d_X8_isRest_L2 V x0 x1 x2) n i x) (fun iL2 x H locs ls => HP G A s.heap (w_O8 G g V) H locs ∧ lv_has ls 7 [(6, .int (nI iL2)), (5, .int (f_X8_heldBy V x0 x1 x2)), (4, .int x), (0, .ref (g 0)), (1, .int x0), (2, .int x1), (3, .int x2)]) (fun iL2 x H locs ls hI hX => ?_) (fun n iL2 x hI ihL2 H locs ls hX => ?_) (cN (7 : Int32)) 0 (1 : Int32) _ _ _ ⟨Nat.add_zero _, hSFL2.symm, hDlL2⟩ ⟨hH, lv_sub hl [0, 1, 2, 3, 4, 5, 6] rfl⟩
    · obtain ⟨L2a, exL2a⟩ : ∃ z, z = x := ⟨_, rfl⟩
      subst exL2a
      have hH : HP G A s.heap (w_O8 G g V) H locs := hX.1
      have hl : lv_has ls 7 [(6, .int (nI iL2)), (5, .int (f_X8_heldBy V x0 x1 x2)), (4, .int L2a), (0, .ref (g 0)), (1, .int x0), (2, .int x1), (3, .int x2)] := hX.2
      obtain ⟨hiL2, hs, _⟩ := hI
      have hiL2 : iL2 = (cN (7 : Int32)) := by omega
      refine lv_iload hx hb dX8_isRest_15 (lv_at hl 0 rfl) ?_
      refine lv_bipush (v := 7) hx hb dX8_isRest_17 (by decide) ?_
      refine lv_icmp_ge (tgt := 106) hx hb dX8_isRest_19 (by decide) (fun _ => ?_) (fun c => absurd (cN_end hiL2) c)
      exact EXL2 _ _ _ ⟨by subst hs; exact hH, by subst hs; exact lv_sub hl [2] rfl⟩
    · obtain ⟨L2a, exL2a⟩ : ∃ z, z = x := ⟨_, rfl⟩
      subst exL2a
      have hH : HP G A s.heap (w_O8 G g V) H locs := hX.1
      have hl : lv_has ls 7 [(6, .int (nI iL2)), (5, .int (f_X8_heldBy V x0 x1 x2)), (4, .int L2a), (0, .ref (g 0)), (1, .int x0), (2, .int x1), (3, .int x2)] := hX.2
      obtain ⟨hiL2, hs, hDi⟩ := hI
      obtain ⟨hD, hDn⟩ := hDi
      have hD : ((¬ (L2a = 0) → (¬ ((f_X8_heldBy V x0 x1 x2) = 0) → (¬ ((f_X8_isChoice V (0 : Int32) (nI iL2)) = 0) → (d_X8_heldBy V x0 (nI iL2) x2)))) ∧ (kAp ((if L2a = 0 then (0 : Int32) else (if (f_X8_heldBy V x0 x1 x2) = 0 then (1 : Int32) else (if (f_X8_isChoice V (0 : Int32) (nI iL2)) = 0 then (1 : Int32) else (if (f_X8_heldBy V x0 (nI iL2) x2) = 0 then (0 : Int32) else (1 : Int32))))) : Int32) (fun v6 => (¬ (v6 = 0) → (¬ ((f_X8_heldBy V x0 x1 x2) = (1 : Int32)) → (¬ ((f_X8_isChoice V (1 : Int32) (nI iL2)) = 0) → (d_X8_heldBy V x0 x1 (nI iL2)))))))) := hD
      have hltL2 : iL2 < (cN (7 : Int32)) := by omega
      obtain ⟨BVL2, hBd⟩ : ∃ z, (f_X8_isRest_L2 V x0 x1 x2) iL2 L2a = z := ⟨_, rfl⟩
      have hs : lpu (f_X8_isRest_L2 V x0 x1 x2) n (iL2 + 1) BVL2 = SFL2 := by rw [← hBd]; exact hs
      have hDn : lpuD (f_X8_isRest_L2 V x0 x1 x2) (d_X8_isRest_L2 V x0 x1 x2) n (iL2 + 1) BVL2 := by rw [← hBd]; exact hDn
      have hBL2 : (kAp ((if L2a = 0 then (0 : Int32) else (if (f_X8_heldBy V x0 x1 x2) = 0 then (1 : Int32) else (if (f_X8_isChoice V (0 : Int32) (nI iL2)) = 0 then (1 : Int32) else (if (f_X8_heldBy V x0 (nI iL2) x2) = 0 then (0 : Int32) else (1 : Int32))))) : Int32) (fun v6 => (if v6 = 0 then (0 : Int32) else (if (f_X8_heldBy V x0 x1 x2) = (1 : Int32) then (1 : Int32) else (if (f_X8_isChoice V (1 : Int32) (nI iL2)) = 0 then (1 : Int32) else (if (f_X8_heldBy V x0 x1 (nI iL2)) = (1 : Int32) then (0 : Int32) else (1 : Int32))))))) = BVL2 := hBd
      refine lv_iload hx hb dX8_isRest_15 (lv_at hl 0 rfl) ?_
      refine lv_bipush (v := 7) hx hb dX8_isRest_17 (by decide) ?_
      refine lv_icmp_ge (tgt := 106) hx hb dX8_isRest_19 (by decide) (fun c => absurd c (cN_ge hltL2)) (fun c3 => ?_)
      refine lv_iload hx hb dX8_isRest_22 (lv_at hl 2 rfl) ?_
      obtain ⟨v6, ev6⟩ : ∃ z : Int32, (if L2a = 0 then (0 : Int32) else (if (f_X8_heldBy V x0 x1 x2) = 0 then (1 : Int32) else (if (f_X8_isChoice V (0 : Int32) (nI iL2)) = 0 then (1 : Int32) else (if (f_X8_heldBy V x0 (nI iL2) x2) = 0 then (0 : Int32) else (1 : Int32))))) = z := ⟨_, rfl⟩
      have hBL2 := kAp_eq hBL2 ev6.symm
      obtain ⟨hDr, hD⟩ := hD
      have hD := kAp_D hD ev6.symm
      refine kb_cut (fun H locs ls => HP G A s.heap (w_O8 G g V) H locs ∧ lv_has ls 7 [(6, .int (nI iL2)), (5, .int (f_X8_heldBy V x0 x1 x2)), (0, .ref (g 0)), (1, .int x0), (2, .int x1), (3, .int x2)]) 58 [.int v6] (fun u4 => ?_) (fun H locs ls hX => ?_)
      · have hD := hDr
        refine lv_if_eq (tgt := 57) hx hb dX8_isRest_24 (by decide) (fun c7 => ?_) (fun c7 => ?_)
        · rw [if_pos c7] at ev6
          refine lv_iconst (v := 0) hx hb dX8_isRest_57 (by decide) ?_
          subst ev6
          exact u4 _ _ _ ⟨hH, lv_sub hl [0, 1, 3, 4, 5, 6] rfl⟩
        · have hD := hD c7
          rw [if_neg c7] at ev6
          refine lv_iload hx hb dX8_isRest_27 (lv_at hl 1 rfl) ?_
          refine lv_if_eq (tgt := 53) hx hb dX8_isRest_29 (by decide) (fun c8 => ?_) (fun c8 => ?_)
          · rw [if_pos c8] at ev6
            refine lv_iconst (v := 1) hx hb dX8_isRest_53 (by decide) ?_
            refine lv_goto (tgt := 58) hx hb dX8_isRest_54 (by decide) ?_
            subst ev6
            exact u4 _ _ _ ⟨hH, lv_sub hl [0, 1, 3, 4, 5, 6] rfl⟩
          · have hD := hD c8
            rw [if_neg c8] at ev6
            refine lv_aload_n hx hb dX8_isRest_32 rfl (lv_at hl 3 rfl) ?_
            refine lv_iconst (v := 0) hx hb dX8_isRest_33 (by decide) ?_
            refine lv_iload hx hb dX8_isRest_34 (lv_at hl 0 rfl) ?_
            refine kb_ci hH hA [0, 1, 2, 3, 4, 5, 6, 7, 8, 9, 10, 11, 12, 13, 14] (Wc := (w_O8 G g V)) (Wc' := (w_O8 G g V)) (WS' := (w_O8 G g V)) rfl (by decide) rfl rfl (va_runV (As := [.int (0 : Int32), .int (nI iL2)]) (rest := []) ⟨hx, hb, hml, hown, hts⟩ (c_X8_isChoice l G g V (0 : Int32) (nI iL2) rfl _) (cwV 2 hts gX8_isRest_X8_isChoice rfl rfl rfl he_X8_isChoice ⟨Nat.le_of_ble_eq_true rfl, Nat.le_of_ble_eq_true rfl⟩) (kb_preV hH hK hN [0, 1, 2, 3, 4, 5, 6, 7, 8, 9, 10, 11, 12, 13, 14] rfl (by decide) 0 rfl rfl rfl rfl) rfl rfl hl.1 rfl (lv_room (Nat.le_of_ble_eq_true rfl)) dX8_isRest_36 ⟨Nat.le_of_ble_eq_true rfl, Nat.le_of_ble_eq_true rfl⟩) (fun H locs hH => ?_)
            refine lv_if_eq (tgt := 53) hx hb dX8_isRest_39 (by decide) (fun c9 => ?_) (fun c9 => ?_)
            · rw [if_pos c9] at ev6
              refine lv_iconst (v := 1) hx hb dX8_isRest_53 (by decide) ?_
              refine lv_goto (tgt := 58) hx hb dX8_isRest_54 (by decide) ?_
              subst ev6
              exact u4 _ _ _ ⟨hH, lv_sub hl [0, 1, 3, 4, 5, 6] rfl⟩
            · have hD := hD c9
              rw [if_neg c9] at ev6
              refine lv_aload_n hx hb dX8_isRest_42 rfl (lv_at hl 3 rfl) ?_
              refine lv_iload_n hx hb dX8_isRest_43 rfl (lv_at hl 4 rfl) ?_
              refine lv_iload hx hb dX8_isRest_44 (lv_at hl 0 rfl) ?_
              refine lv_iload_n hx hb dX8_isRest_46 rfl (lv_at hl 6 rfl) ?_
              have hz10 := hD
              refine kb_ci hH hA [0, 1, 2, 3, 4, 5, 6, 7, 8, 9, 10, 11, 12, 13, 14] (Wc := (w_O8 G g V)) (Wc' := (w_O8 G g V)) (WS' := (w_O8 G g V)) rfl (by decide) rfl rfl (va_runV (As := [.int x0, .int (nI iL2), .int x2]) (rest := []) ⟨hx, hb, hml, hown, hts⟩ (c_X8_heldBy l G g V x0 (nI iL2) x2 hz10 rfl _) (cwV 3 hts gX8_isRest_X8_heldBy rfl rfl rfl he_X8_heldBy ⟨Nat.le_of_ble_eq_true rfl, Nat.le_of_ble_eq_true rfl⟩) (kb_preV hH hK hN [0, 1, 2, 3, 4, 5, 6, 7, 8, 9, 10, 11, 12, 13, 14] rfl (by decide) 0 rfl rfl rfl rfl) rfl rfl hl.1 rfl (lv_room (Nat.le_of_ble_eq_true rfl)) dX8_isRest_47 ⟨Nat.le_of_ble_eq_true rfl, Nat.le_of_ble_eq_true rfl⟩) (fun H locs hH => ?_)
              refine lv_if_eq (tgt := 57) hx hb dX8_isRest_50 (by decide) (fun c11 => ?_) (fun c11 => ?_)
              · rw [if_pos c11] at ev6
                refine lv_iconst (v := 0) hx hb dX8_isRest_57 (by decide) ?_
                subst ev6
                exact u4 _ _ _ ⟨hH, lv_sub hl [0, 1, 3, 4, 5, 6] rfl⟩
              · rw [if_neg c11] at ev6
                refine lv_iconst (v := 1) hx hb dX8_isRest_53 (by decide) ?_
                refine lv_goto (tgt := 58) hx hb dX8_isRest_54 (by decide) ?_
                subst ev6
                exact u4 _ _ _ ⟨hH, lv_sub hl [0, 1, 3, 4, 5, 6] rfl⟩
      · obtain ⟨hH, hl⟩ := hX
        refine lv_istore (lv' := [(4, .int v6), (6, .int (nI iL2)), (5, .int (f_X8_heldBy V x0 x1 x2)), (0, .ref (g 0)), (1, .int x0), (2, .int x1), (3, .int x2)]) hx hb dX8_isRest_58 hl (by decide) rfl (fun ls hl => ?_)
        refine lv_iload hx hb dX8_isRest_60 (lv_at hl 0 rfl) ?_
        refine lv_if_eq (tgt := 97) hx hb dX8_isRest_62 (by decide) (fun c12 => ?_) (fun c12 => ?_)
        · rw [if_pos c12] at hBL2
          refine lv_iconst (v := 0) hx hb dX8_isRest_97 (by decide) ?_
          refine lv_istore (lv' := [(4, .int (0 : Int32)), (6, .int (nI iL2)), (5, .int (f_X8_heldBy V x0 x1 x2)), (0, .ref (g 0)), (1, .int x0), (2, .int x1), (3, .int x2)]) hx hb dX8_isRest_98 hl (by decide) rfl (fun ls hl => ?_)
          refine lv_iinc (v := (nI (iL2 + 1))) (lv' := [(6, .int (nI (iL2 + 1))), (4, .int (0 : Int32)), (5, .int (f_X8_heldBy V x0 x1 x2)), (0, .ref (g 0)), (1, .int x0), (2, .int x1), (3, .int x2)]) hx hb dX8_isRest_100 hl (k := 1) rfl (nI_1 _) (by decide) rfl (fun ls hl => ?_)
          refine lv_goto (tgt := 15) hx hb dX8_isRest_103 (by decide) ?_
          subst hBL2
          exact ihL2 _ _ _ _ ⟨by omega, hs, hDn⟩ ⟨hH, lv_sub hl [0, 2, 1, 3, 4, 5, 6] rfl⟩
        · have hD := hD c12
          rw [if_neg c12] at hBL2
          refine lv_iload hx hb dX8_isRest_65 (lv_at hl 2 rfl) ?_
          refine lv_iconst (v := 1) hx hb dX8_isRest_67 (by decide) ?_
          refine lv_icmp_eq (tgt := 93) hx hb dX8_isRest_68 (by decide) (fun c13 => ?_) (fun c13 => ?_)
          · rw [if_pos c13] at hBL2
            refine lv_iconst (v := 1) hx hb dX8_isRest_93 (by decide) ?_
            refine lv_goto (tgt := 98) hx hb dX8_isRest_94 (by decide) ?_
            refine lv_istore (lv' := [(4, .int (1 : Int32)), (6, .int (nI iL2)), (5, .int (f_X8_heldBy V x0 x1 x2)), (0, .ref (g 0)), (1, .int x0), (2, .int x1), (3, .int x2)]) hx hb dX8_isRest_98 hl (by decide) rfl (fun ls hl => ?_)
            refine lv_iinc (v := (nI (iL2 + 1))) (lv' := [(6, .int (nI (iL2 + 1))), (4, .int (1 : Int32)), (5, .int (f_X8_heldBy V x0 x1 x2)), (0, .ref (g 0)), (1, .int x0), (2, .int x1), (3, .int x2)]) hx hb dX8_isRest_100 hl (k := 1) rfl (nI_1 _) (by decide) rfl (fun ls hl => ?_)
            refine lv_goto (tgt := 15) hx hb dX8_isRest_103 (by decide) ?_
            subst hBL2
            exact ihL2 _ _ _ _ ⟨by omega, hs, hDn⟩ ⟨hH, lv_sub hl [0, 2, 1, 3, 4, 5, 6] rfl⟩
          · have hD := hD c13
            rw [if_neg c13] at hBL2
            refine lv_aload_n hx hb dX8_isRest_71 rfl (lv_at hl 3 rfl) ?_
            refine lv_iconst (v := 1) hx hb dX8_isRest_72 (by decide) ?_
            refine lv_iload hx hb dX8_isRest_73 (lv_at hl 1 rfl) ?_
            refine kb_ci hH hA [0, 1, 2, 3, 4, 5, 6, 7, 8, 9, 10, 11, 12, 13, 14] (Wc := (w_O8 G g V)) (Wc' := (w_O8 G g V)) (WS' := (w_O8 G g V)) rfl (by decide) rfl rfl (va_runV (As := [.int (1 : Int32), .int (nI iL2)]) (rest := []) ⟨hx, hb, hml, hown, hts⟩ (c_X8_isChoice l G g V (1 : Int32) (nI iL2) rfl _) (cwV 2 hts gX8_isRest_X8_isChoice rfl rfl rfl he_X8_isChoice ⟨Nat.le_of_ble_eq_true rfl, Nat.le_of_ble_eq_true rfl⟩) (kb_preV hH hK hN [0, 1, 2, 3, 4, 5, 6, 7, 8, 9, 10, 11, 12, 13, 14] rfl (by decide) 0 rfl rfl rfl rfl) rfl rfl hl.1 rfl (lv_room (Nat.le_of_ble_eq_true rfl)) dX8_isRest_75 ⟨Nat.le_of_ble_eq_true rfl, Nat.le_of_ble_eq_true rfl⟩) (fun H locs hH => ?_)
            refine lv_if_eq (tgt := 93) hx hb dX8_isRest_78 (by decide) (fun c14 => ?_) (fun c14 => ?_)
            · rw [if_pos c14] at hBL2
              refine lv_iconst (v := 1) hx hb dX8_isRest_93 (by decide) ?_
              refine lv_goto (tgt := 98) hx hb dX8_isRest_94 (by decide) ?_
              refine lv_istore (lv' := [(4, .int (1 : Int32)), (6, .int (nI iL2)), (5, .int (f_X8_heldBy V x0 x1 x2)), (0, .ref (g 0)), (1, .int x0), (2, .int x1), (3, .int x2)]) hx hb dX8_isRest_98 hl (by decide) rfl (fun ls hl => ?_)
              refine lv_iinc (v := (nI (iL2 + 1))) (lv' := [(6, .int (nI (iL2 + 1))), (4, .int (1 : Int32)), (5, .int (f_X8_heldBy V x0 x1 x2)), (0, .ref (g 0)), (1, .int x0), (2, .int x1), (3, .int x2)]) hx hb dX8_isRest_100 hl (k := 1) rfl (nI_1 _) (by decide) rfl (fun ls hl => ?_)
              refine lv_goto (tgt := 15) hx hb dX8_isRest_103 (by decide) ?_
              subst hBL2
              exact ihL2 _ _ _ _ ⟨by omega, hs, hDn⟩ ⟨hH, lv_sub hl [0, 2, 1, 3, 4, 5, 6] rfl⟩
            · have hD := hD c14
              rw [if_neg c14] at hBL2
              refine lv_aload_n hx hb dX8_isRest_81 rfl (lv_at hl 3 rfl) ?_
              refine lv_iload_n hx hb dX8_isRest_82 rfl (lv_at hl 4 rfl) ?_
              refine lv_iload_n hx hb dX8_isRest_83 rfl (lv_at hl 5 rfl) ?_
              refine lv_iload hx hb dX8_isRest_84 (lv_at hl 1 rfl) ?_
              have hz15 := hD
              refine kb_ci hH hA [0, 1, 2, 3, 4, 5, 6, 7, 8, 9, 10, 11, 12, 13, 14] (Wc := (w_O8 G g V)) (Wc' := (w_O8 G g V)) (WS' := (w_O8 G g V)) rfl (by decide) rfl rfl (va_runV (As := [.int x0, .int x1, .int (nI iL2)]) (rest := []) ⟨hx, hb, hml, hown, hts⟩ (c_X8_heldBy l G g V x0 x1 (nI iL2) hz15 rfl _) (cwV 3 hts gX8_isRest_X8_heldBy rfl rfl rfl he_X8_heldBy ⟨Nat.le_of_ble_eq_true rfl, Nat.le_of_ble_eq_true rfl⟩) (kb_preV hH hK hN [0, 1, 2, 3, 4, 5, 6, 7, 8, 9, 10, 11, 12, 13, 14] rfl (by decide) 0 rfl rfl rfl rfl) rfl rfl hl.1 rfl (lv_room (Nat.le_of_ble_eq_true rfl)) dX8_isRest_86 ⟨Nat.le_of_ble_eq_true rfl, Nat.le_of_ble_eq_true rfl⟩) (fun H locs hH => ?_)
              refine lv_iconst (v := 1) hx hb dX8_isRest_89 (by decide) ?_
              refine lv_icmp_eq (tgt := 97) hx hb dX8_isRest_90 (by decide) (fun c16 => ?_) (fun c16 => ?_)
              · rw [if_pos c16] at hBL2
                refine lv_iconst (v := 0) hx hb dX8_isRest_97 (by decide) ?_
                refine lv_istore (lv' := [(4, .int (0 : Int32)), (6, .int (nI iL2)), (5, .int (f_X8_heldBy V x0 x1 x2)), (0, .ref (g 0)), (1, .int x0), (2, .int x1), (3, .int x2)]) hx hb dX8_isRest_98 hl (by decide) rfl (fun ls hl => ?_)
                refine lv_iinc (v := (nI (iL2 + 1))) (lv' := [(6, .int (nI (iL2 + 1))), (4, .int (0 : Int32)), (5, .int (f_X8_heldBy V x0 x1 x2)), (0, .ref (g 0)), (1, .int x0), (2, .int x1), (3, .int x2)]) hx hb dX8_isRest_100 hl (k := 1) rfl (nI_1 _) (by decide) rfl (fun ls hl => ?_)
                refine lv_goto (tgt := 15) hx hb dX8_isRest_103 (by decide) ?_
                subst hBL2
                exact ihL2 _ _ _ _ ⟨by omega, hs, hDn⟩ ⟨hH, lv_sub hl [0, 2, 1, 3, 4, 5, 6] rfl⟩
              · rw [if_neg c16] at hBL2
                refine lv_iconst (v := 1) hx hb dX8_isRest_93 (by decide) ?_
                refine lv_goto (tgt := 98) hx hb dX8_isRest_94 (by decide) ?_
                refine lv_istore (lv' := [(4, .int (1 : Int32)), (6, .int (nI iL2)), (5, .int (f_X8_heldBy V x0 x1 x2)), (0, .ref (g 0)), (1, .int x0), (2, .int x1), (3, .int x2)]) hx hb dX8_isRest_98 hl (by decide) rfl (fun ls hl => ?_)
                refine lv_iinc (v := (nI (iL2 + 1))) (lv' := [(6, .int (nI (iL2 + 1))), (4, .int (1 : Int32)), (5, .int (f_X8_heldBy V x0 x1 x2)), (0, .ref (g 0)), (1, .int x0), (2, .int x1), (3, .int x2)]) hx hb dX8_isRest_100 hl (k := 1) rfl (nI_1 _) (by decide) rfl (fun ls hl => ?_)
                refine lv_goto (tgt := 15) hx hb dX8_isRest_103 (by decide) ?_
                subst hBL2
                exact ihL2 _ _ _ _ ⟨by omega, hs, hDn⟩ ⟨hH, lv_sub hl [0, 2, 1, 3, 4, 5, 6] rfl⟩
  · obtain ⟨hH, hl⟩ := hX
    refine lv_iload hx hb dX8_isRest_106 (lv_at hl 0 rfl) ?_
    subst hF
    exact kb_zret hx hb hr hH rfl rfl (kb_nar _ hD) dX8_isRest_108 hlocks
def f_X8_rests_L5 (V : OV) (x0 : Int32) (iL3 : Nat) (iL5 : Nat) (s : (Int32 × Int32)) : (Int32 × Int32) := (if (f_X8_isChoice V (0 : Int32) (nI iL3)) = 0 then (s.1, s.2) else (if (f_X8_isChoice V (1 : Int32) (nI iL5)) = 0 then (s.1, s.2) else (if (f_X8_isRest V x0 (nI iL3) (nI iL5)) = 0 then (s.1, s.2) else (if s.2 = 0 then ((((10 : Int32) * (nI iL3)) + (nI iL5)), (s.2 + (1 : Int32))) else (s.1, (s.2 + (1 : Int32)))))))
def d_X8_rests_L5 (V : OV) (x0 : Int32) (iL3 : Nat) (iL5 : Nat) (s : (Int32 × Int32)) : Prop := (¬ ((f_X8_isChoice V (0 : Int32) (nI iL3)) = 0) → (¬ ((f_X8_isChoice V (1 : Int32) (nI iL5)) = 0) → (d_X8_isRest V x0 (nI iL3) (nI iL5))))
def f_X8_rests_L3 (V : OV) (x0 : Int32) (iL3 : Nat) (s : (Int32 × Int32)) : (Int32 × Int32) := (kAp (lpu (f_X8_rests_L5 V x0 iL3) (cN (7 : Int32)) 0 (s.1, s.2)) (fun z12 => (z12.1, z12.2)))
def d_X8_rests_L3 (V : OV) (x0 : Int32) (iL3 : Nat) (s : (Int32 × Int32)) : Prop := (lpuD (f_X8_rests_L5 V x0 iL3) (d_X8_rests_L5 V x0 iL3) (cN (7 : Int32)) 0 (s.1, s.2))
def f_X8_rests (V : OV) (x0 : Int32) (x1 : Int32) : (Int32) := (if (f_X8_isWind V x0) = 0 then (-1 : Int32) else (if (f_X8_in (x1.toInt64) (0 : Int64) (1 : Int64)) = 0 then (-2 : Int32) else (kAp (lpu (f_X8_rests_L3 V x0) (cN (7 : Int32)) 0 ((-9 : Int32), (0 : Int32))) (fun z13 => (if x1 = 0 then z13.2 else z13.1)))))
def d_X8_rests (V : OV) (x0 : Int32) (x1 : Int32) : Prop := (¬ ((f_X8_isWind V x0) = 0) → (¬ ((f_X8_in (x1.toInt64) (0 : Int64) (1 : Int64)) = 0) → (lpuD (f_X8_rests_L3 V x0) (d_X8_rests_L3 V x0) (cN (7 : Int32)) 0 ((-9 : Int32), (0 : Int32)))))
set_option maxHeartbeats 4000000 in
set_option maxRecDepth 100000 in
theorem c_X8_rests (l : Launch) (G : Ge) (g : Nat → Nat) (V : OV) (x0 : Int32) (x1 : Int32) (hD : d_X8_rests V x0 x1) {F : (Int32)} (hF : f_X8_rests V x0 x1 = F) : CI l yX8_rests wsX8_rests { frames := 6, cells := 0, slots := 0, locals := 148 } [.ref (g 0), .int x0, .int x1] G (w_O8 G g V) (w_O8 G g V) F := by
  intro sz
  refine Met.ofW (cc := cX8_rests) (maxL := 7) (ret := (some .int)) (by decide) rfl ?_
  intro p e s m args below meth c s₁ B hml hv
  obtain ⟨rfl, hpre⟩ := hv
  obtain ⟨hsz, hH, hK, hN, hA⟩ := kb_start hpre
  subst hsz
  have hx := B.exec
  have hb := B.bytes
  have hr := B.returns
  have hts := atoms_spec (ws := wsX8_rests) B.pre
  have hown : s.vm.findClass RX8 = some m.cls := findClass_of_methodNamed B.named
  have hlocks := B.notSynchronized
  generalize hAe : va_A (List.flatten (w_O8 G g V)) s.heap.size = A at hH hA ⊢
  have hl := lv_entry ([.ref (g 0), .int x0, .int x1]) (n := 7) (Nat.le_of_ble_eq_true rfl)
  rw [lg_entry_eq]
  generalize (lg_sl ([.ref (g 0), .int x0, .int x1]) ++ List.replicate (7 - (lg_sl ([.ref (g 0), .int x0, .int x1])).length) Slot.unset).toArray = ls at hl ⊢
  have hl : lv_has ls 7 [(0, .ref (g 0)), (1, .int x0), (2, .int x1)] := hl
  have hH : HP G A s.heap (w_O8 G g V) s.heap [] := hH
  have hF : (if (f_X8_isWind V x0) = 0 then (-1 : Int32) else (if (f_X8_in (x1.toInt64) (0 : Int64) (1 : Int64)) = 0 then (-2 : Int32) else (kAp (lpu (f_X8_rests_L3 V x0) (cN (7 : Int32)) 0 ((-9 : Int32), (0 : Int32))) (fun z13 => (if x1 = 0 then z13.2 else z13.1))))) = F := hF
  have hD : (¬ ((f_X8_isWind V x0) = 0) → (¬ ((f_X8_in (x1.toInt64) (0 : Int64) (1 : Int64)) = 0) → (lpuD (f_X8_rests_L3 V x0) (d_X8_rests_L3 V x0) (cN (7 : Int32)) 0 ((-9 : Int32), (0 : Int32))))) := hD
  refine lv_aload_n hx hb dX8_rests_0 rfl (lv_at hl 0 rfl) ?_
  refine lv_iload_n hx hb dX8_rests_1 rfl (lv_at hl 1 rfl) ?_
  refine kb_ci hH hA [0, 1, 2, 3, 4, 5, 6, 7, 8, 9, 10, 11, 12, 13, 14] (Wc := (w_O8 G g V)) (Wc' := (w_O8 G g V)) (WS' := (w_O8 G g V)) rfl (by decide) rfl rfl (va_runV (As := [.int x0]) (rest := []) ⟨hx, hb, hml, hown, hts⟩ (c_X8_isWind l G g V x0 rfl _) (cwV 1 hts gX8_rests_X8_isWind rfl rfl rfl he_X8_isWind ⟨Nat.le_of_ble_eq_true rfl, Nat.le_of_ble_eq_true rfl⟩) (kb_preV hH hK hN [0, 1, 2, 3, 4, 5, 6, 7, 8, 9, 10, 11, 12, 13, 14] rfl (by decide) 0 rfl rfl rfl rfl) rfl rfl hl.1 rfl (lv_room (Nat.le_of_ble_eq_true rfl)) dX8_rests_2 ⟨Nat.le_of_ble_eq_true rfl, Nat.le_of_ble_eq_true rfl⟩) (fun H locs hH => ?_)
  refine lv_if_ne (tgt := 10) hx hb dX8_rests_5 (by decide) (fun c1 => ?_) (fun c1 => ?_)
  · have hD := hD c1
    rw [if_neg c1] at hF
    refine lv_iload_n hx hb dX8_rests_10 rfl (lv_at hl 2 rfl) ?_
    refine lv_i2l (v := (x1.toInt64)) hx hb dX8_rests_11 rfl ?_
    refine lv_lconst (v := 0) hx hb dX8_rests_12 (by decide) ?_
    refine lv_lconst (v := 1) hx hb dX8_rests_13 (by decide) ?_
    refine kb_ci hH hA [] (Wc := ([] : List va_W)) (Wc' := ([] : List va_W)) (WS' := (w_O8 G g V)) rfl (by decide) rfl rfl (va_runS (As := [.long (x1.toInt64), .long (0 : Int64), .long (1 : Int64)]) (rest := []) ⟨hx, hb, hml, hown, hts⟩ (c_X8_in l G (x1.toInt64) (0 : Int64) (1 : Int64) rfl _) (va_cwS 3 hts gX8_rests_X8_in rfl rfl rfl hd_X8_in ⟨Nat.le_of_ble_eq_true rfl, Nat.le_of_ble_eq_true rfl⟩) (kb_preS hH hK hN [] rfl (by decide)) rfl rfl hl.1 rfl (lv_room (Nat.le_of_ble_eq_true rfl)) dX8_rests_14 ⟨Nat.le_of_ble_eq_true rfl, Nat.le_of_ble_eq_true rfl⟩) (fun H locs hH => ?_)
    refine lv_if_ne (tgt := 23) hx hb dX8_rests_17 (by decide) (fun c2 => ?_) (fun c2 => ?_)
    · have hD := hD c2
      rw [if_neg c2] at hF
      refine lv_iconst (v := 0) hx hb dX8_rests_23 (by decide) ?_
      refine lv_istore_n (lv' := [(3, .int (0 : Int32)), (0, .ref (g 0)), (1, .int x0), (2, .int x1)]) hx hb dX8_rests_24 rfl hl (by decide) rfl (fun ls hl => ?_)
      refine lv_bipush (v := -9) hx hb dX8_rests_25 (by decide) ?_
      refine lv_istore (lv' := [(4, .int (-9 : Int32)), (3, .int (0 : Int32)), (0, .ref (g 0)), (1, .int x0), (2, .int x1)]) hx hb dX8_rests_27 hl (by decide) rfl (fun ls hl => ?_)
      refine lv_iconst (v := 0) hx hb dX8_rests_29 (by decide) ?_
      refine lv_istore (lv' := [(5, .int (0 : Int32)), (4, .int (-9 : Int32)), (3, .int (0 : Int32)), (0, .ref (g 0)), (1, .int x0), (2, .int x1)]) hx hb dX8_rests_30 hl (by decide) rfl (fun ls hl => ?_)
      have hDlL3 := hD
      obtain ⟨SFL3, hSFL3⟩ : ∃ z, z = (lpu (f_X8_rests_L3 V x0) (cN (7 : Int32)) 0 ((-9 : Int32), (0 : Int32))) := ⟨_, rfl⟩
      have hF := kAp_eq hF hSFL3
      refine kb_cut (fun H locs ls => HP G A s.heap (w_O8 G g V) H locs ∧ lv_has ls 7 [(4, .int SFL3.1), (3, .int SFL3.2), (2, .int x1)]) 115 [] (fun EXL3 => ?_) (fun H locs ls hX => ?_)
      · refine kb_loop (σ := (Int32 × Int32)) (fun n i x => n + i = (cN (7 : Int32)) ∧ lpu (f_X8_rests_L3 V x0) n i x = SFL3 ∧ lpuD (f_X8_rests_L3 V x0) (d_X8_rests_L3 V x0) n i x) (fun iL3 x H locs ls => HP G A s.heap (w_O8 G g V) H locs ∧ lv_has ls 7 [(5, .int (nI iL3)), (4, .int x.1), (3, .int x.2), (0, .ref (g 0)), (1, .int x0), (2, .int x1)]) (fun iL3 x H locs ls hI hX => ?_) (fun n iL3 x hI ihL3 H locs ls hX => ?_) (cN (7 : Int32)) 0 ((-9 : Int32), (0 : Int32)) _ _ _ ⟨Nat.add_zero _, hSFL3.symm, hDlL3⟩ ⟨hH, lv_sub hl [0, 1, 2, 3, 4, 5] rfl⟩
        · obtain ⟨L3a, L3b⟩ := x
          have hH : HP G A s.heap (w_O8 G g V) H locs := hX.1
          have hl : lv_has ls 7 [(5, .int (nI iL3)), (4, .int L3a), (3, .int L3b), (0, .ref (g 0)), (1, .int x0), (2, .int x1)] := hX.2
          obtain ⟨hiL3, hs, _⟩ := hI
          have hiL3 : iL3 = (cN (7 : Int32)) := by omega
          refine lv_iload hx hb dX8_rests_32 (lv_at hl 0 rfl) ?_
          refine lv_bipush (v := 7) hx hb dX8_rests_34 (by decide) ?_
          refine lv_icmp_ge (tgt := 115) hx hb dX8_rests_36 (by decide) (fun _ => ?_) (fun c => absurd (cN_end hiL3) c)
          exact EXL3 _ _ _ ⟨by subst hs; exact hH, by subst hs; exact lv_sub hl [1, 2, 5] rfl⟩
        · obtain ⟨L3a, L3b⟩ := x
          have hH : HP G A s.heap (w_O8 G g V) H locs := hX.1
          have hl : lv_has ls 7 [(5, .int (nI iL3)), (4, .int L3a), (3, .int L3b), (0, .ref (g 0)), (1, .int x0), (2, .int x1)] := hX.2
          obtain ⟨hiL3, hs, hDi⟩ := hI
          obtain ⟨hD, hDn⟩ := hDi
          have hD : (lpuD (f_X8_rests_L5 V x0 iL3) (d_X8_rests_L5 V x0 iL3) (cN (7 : Int32)) 0 (L3a, L3b)) := hD
          have hltL3 : iL3 < (cN (7 : Int32)) := by omega
          obtain ⟨BVL3, hBd⟩ : ∃ z, (f_X8_rests_L3 V x0) iL3 (L3a, L3b) = z := ⟨_, rfl⟩
          have hs : lpu (f_X8_rests_L3 V x0) n (iL3 + 1) BVL3 = SFL3 := by rw [← hBd]; exact hs
          have hDn : lpuD (f_X8_rests_L3 V x0) (d_X8_rests_L3 V x0) n (iL3 + 1) BVL3 := by rw [← hBd]; exact hDn
          have hBL3 : (kAp (lpu (f_X8_rests_L5 V x0 iL3) (cN (7 : Int32)) 0 (L3a, L3b)) (fun z12 => (z12.1, z12.2))) = BVL3 := hBd
          refine lv_iload hx hb dX8_rests_32 (lv_at hl 0 rfl) ?_
          refine lv_bipush (v := 7) hx hb dX8_rests_34 (by decide) ?_
          refine lv_icmp_ge (tgt := 115) hx hb dX8_rests_36 (by decide) (fun c => absurd c (cN_ge hltL3)) (fun c4 => ?_)
          refine lv_iconst (v := 0) hx hb dX8_rests_39 (by decide) ?_
          refine lv_istore (lv' := [(6, .int (0 : Int32)), (5, .int (nI iL3)), (4, .int L3a), (3, .int L3b), (0, .ref (g 0)), (1, .int x0), (2, .int x1)]) hx hb dX8_rests_40 hl (by decide) rfl (fun ls hl => ?_)
          have hDlL5 := hD
          obtain ⟨SFL5, hSFL5⟩ : ∃ z, z = (lpu (f_X8_rests_L5 V x0 iL3) (cN (7 : Int32)) 0 (L3a, L3b)) := ⟨_, rfl⟩
          have hBL3 := kAp_eq hBL3 hSFL5
          refine kb_cut (fun H locs ls => HP G A s.heap (w_O8 G g V) H locs ∧ lv_has ls 7 [(5, .int (nI iL3)), (4, .int SFL5.1), (3, .int SFL5.2), (0, .ref (g 0)), (1, .int x0), (2, .int x1)]) 109 [] (fun EXL5 => ?_) (fun H locs ls hX => ?_)
          · refine kb_loop (σ := (Int32 × Int32)) (fun n i x => n + i = (cN (7 : Int32)) ∧ lpu (f_X8_rests_L5 V x0 iL3) n i x = SFL5 ∧ lpuD (f_X8_rests_L5 V x0 iL3) (d_X8_rests_L5 V x0 iL3) n i x) (fun iL5 x H locs ls => HP G A s.heap (w_O8 G g V) H locs ∧ lv_has ls 7 [(6, .int (nI iL5)), (5, .int (nI iL3)), (4, .int x.1), (3, .int x.2), (0, .ref (g 0)), (1, .int x0), (2, .int x1)]) (fun iL5 x H locs ls hI hX => ?_) (fun n iL5 x hI ihL5 H locs ls hX => ?_) (cN (7 : Int32)) 0 (L3a, L3b) _ _ _ ⟨Nat.add_zero _, hSFL5.symm, hDlL5⟩ ⟨hH, lv_sub hl [0, 1, 2, 3, 4, 5, 6] rfl⟩
            · obtain ⟨L5a, L5b⟩ := x
              have hH : HP G A s.heap (w_O8 G g V) H locs := hX.1
              have hl : lv_has ls 7 [(6, .int (nI iL5)), (5, .int (nI iL3)), (4, .int L5a), (3, .int L5b), (0, .ref (g 0)), (1, .int x0), (2, .int x1)] := hX.2
              obtain ⟨hiL5, hs, _⟩ := hI
              have hiL5 : iL5 = (cN (7 : Int32)) := by omega
              refine lv_iload hx hb dX8_rests_42 (lv_at hl 0 rfl) ?_
              refine lv_bipush (v := 7) hx hb dX8_rests_44 (by decide) ?_
              refine lv_icmp_ge (tgt := 109) hx hb dX8_rests_46 (by decide) (fun _ => ?_) (fun c => absurd (cN_end hiL5) c)
              exact EXL5 _ _ _ ⟨by subst hs; exact hH, by subst hs; exact lv_sub hl [1, 2, 3, 4, 5, 6] rfl⟩
            · obtain ⟨L5a, L5b⟩ := x
              have hH : HP G A s.heap (w_O8 G g V) H locs := hX.1
              have hl : lv_has ls 7 [(6, .int (nI iL5)), (5, .int (nI iL3)), (4, .int L5a), (3, .int L5b), (0, .ref (g 0)), (1, .int x0), (2, .int x1)] := hX.2
              obtain ⟨hiL5, hs, hDi⟩ := hI
              obtain ⟨hD, hDn⟩ := hDi
              have hD : (¬ ((f_X8_isChoice V (0 : Int32) (nI iL3)) = 0) → (¬ ((f_X8_isChoice V (1 : Int32) (nI iL5)) = 0) → (d_X8_isRest V x0 (nI iL3) (nI iL5)))) := hD
              have hltL5 : iL5 < (cN (7 : Int32)) := by omega
              obtain ⟨BVL5, hBd⟩ : ∃ z, (f_X8_rests_L5 V x0 iL3) iL5 (L5a, L5b) = z := ⟨_, rfl⟩
              have hs : lpu (f_X8_rests_L5 V x0 iL3) n (iL5 + 1) BVL5 = SFL5 := by rw [← hBd]; exact hs
              have hDn : lpuD (f_X8_rests_L5 V x0 iL3) (d_X8_rests_L5 V x0 iL3) n (iL5 + 1) BVL5 := by rw [← hBd]; exact hDn
              have hBL5 : (if (f_X8_isChoice V (0 : Int32) (nI iL3)) = 0 then (L5a, L5b) else (if (f_X8_isChoice V (1 : Int32) (nI iL5)) = 0 then (L5a, L5b) else (if (f_X8_isRest V x0 (nI iL3) (nI iL5)) = 0 then (L5a, L5b) else (if L5b = 0 then ((((10 : Int32) * (nI iL3)) + (nI iL5)), (L5b + (1 : Int32))) else (L5a, (L5b + (1 : Int32))))))) = BVL5 := hBd
              refine lv_iload hx hb dX8_rests_42 (lv_at hl 0 rfl) ?_
              refine lv_bipush (v := 7) hx hb dX8_rests_44 (by decide) ?_
              refine lv_icmp_ge (tgt := 109) hx hb dX8_rests_46 (by decide) (fun c => absurd c (cN_ge hltL5)) (fun c6 => ?_)
              refine lv_aload_n hx hb dX8_rests_49 rfl (lv_at hl 4 rfl) ?_
              refine lv_iconst (v := 0) hx hb dX8_rests_50 (by decide) ?_
              refine lv_iload hx hb dX8_rests_51 (lv_at hl 1 rfl) ?_
              refine kb_ci hH hA [0, 1, 2, 3, 4, 5, 6, 7, 8, 9, 10, 11, 12, 13, 14] (Wc := (w_O8 G g V)) (Wc' := (w_O8 G g V)) (WS' := (w_O8 G g V)) rfl (by decide) rfl rfl (va_runV (As := [.int (0 : Int32), .int (nI iL3)]) (rest := []) ⟨hx, hb, hml, hown, hts⟩ (c_X8_isChoice l G g V (0 : Int32) (nI iL3) rfl _) (cwV 2 hts gX8_rests_X8_isChoice rfl rfl rfl he_X8_isChoice ⟨Nat.le_of_ble_eq_true rfl, Nat.le_of_ble_eq_true rfl⟩) (kb_preV hH hK hN [0, 1, 2, 3, 4, 5, 6, 7, 8, 9, 10, 11, 12, 13, 14] rfl (by decide) 0 rfl rfl rfl rfl) rfl rfl hl.1 rfl (lv_room (Nat.le_of_ble_eq_true rfl)) dX8_rests_53 ⟨Nat.le_of_ble_eq_true rfl, Nat.le_of_ble_eq_true rfl⟩) (fun H locs hH => ?_)
              refine lv_if_eq (tgt := 103) hx hb dX8_rests_56 (by decide) (fun c7 => ?_) (fun c7 => ?_)
              · rw [if_pos c7] at hBL5
                refine lv_iinc (v := (nI (iL5 + 1))) (lv' := [(6, .int (nI (iL5 + 1))), (5, .int (nI iL3)), (4, .int L5a), (3, .int L5b), (0, .ref (g 0)), (1, .int x0), (2, .int x1)]) hx hb dX8_rests_103 hl (k := 0) rfl (nI_1 _) (by decide) rfl (fun ls hl => ?_)
                refine lv_goto (tgt := 42) hx hb dX8_rests_106 (by decide) ?_
                subst hBL5
                exact ihL5 _ _ _ _ ⟨by omega, hs, hDn⟩ ⟨hH, lv_sub hl [0, 1, 2, 3, 4, 5, 6] rfl⟩
              · have hD := hD c7
                rw [if_neg c7] at hBL5
                refine lv_aload_n hx hb dX8_rests_59 rfl (lv_at hl 4 rfl) ?_
                refine lv_iconst (v := 1) hx hb dX8_rests_60 (by decide) ?_
                refine lv_iload hx hb dX8_rests_61 (lv_at hl 0 rfl) ?_
                refine kb_ci hH hA [0, 1, 2, 3, 4, 5, 6, 7, 8, 9, 10, 11, 12, 13, 14] (Wc := (w_O8 G g V)) (Wc' := (w_O8 G g V)) (WS' := (w_O8 G g V)) rfl (by decide) rfl rfl (va_runV (As := [.int (1 : Int32), .int (nI iL5)]) (rest := []) ⟨hx, hb, hml, hown, hts⟩ (c_X8_isChoice l G g V (1 : Int32) (nI iL5) rfl _) (cwV 2 hts gX8_rests_X8_isChoice rfl rfl rfl he_X8_isChoice ⟨Nat.le_of_ble_eq_true rfl, Nat.le_of_ble_eq_true rfl⟩) (kb_preV hH hK hN [0, 1, 2, 3, 4, 5, 6, 7, 8, 9, 10, 11, 12, 13, 14] rfl (by decide) 0 rfl rfl rfl rfl) rfl rfl hl.1 rfl (lv_room (Nat.le_of_ble_eq_true rfl)) dX8_rests_63 ⟨Nat.le_of_ble_eq_true rfl, Nat.le_of_ble_eq_true rfl⟩) (fun H locs hH => ?_)
                refine lv_if_eq (tgt := 103) hx hb dX8_rests_66 (by decide) (fun c8 => ?_) (fun c8 => ?_)
                · rw [if_pos c8] at hBL5
                  refine lv_iinc (v := (nI (iL5 + 1))) (lv' := [(6, .int (nI (iL5 + 1))), (5, .int (nI iL3)), (4, .int L5a), (3, .int L5b), (0, .ref (g 0)), (1, .int x0), (2, .int x1)]) hx hb dX8_rests_103 hl (k := 0) rfl (nI_1 _) (by decide) rfl (fun ls hl => ?_)
                  refine lv_goto (tgt := 42) hx hb dX8_rests_106 (by decide) ?_
                  subst hBL5
                  exact ihL5 _ _ _ _ ⟨by omega, hs, hDn⟩ ⟨hH, lv_sub hl [0, 1, 2, 3, 4, 5, 6] rfl⟩
                · have hD := hD c8
                  rw [if_neg c8] at hBL5
                  refine lv_aload_n hx hb dX8_rests_69 rfl (lv_at hl 4 rfl) ?_
                  refine lv_iload_n hx hb dX8_rests_70 rfl (lv_at hl 5 rfl) ?_
                  refine lv_iload hx hb dX8_rests_71 (lv_at hl 1 rfl) ?_
                  refine lv_iload hx hb dX8_rests_73 (lv_at hl 0 rfl) ?_
                  have hz9 := hD
                  refine kb_ci hH hA [0, 1, 2, 3, 4, 5, 6, 7, 8, 9, 10, 11, 12, 13, 14] (Wc := (w_O8 G g V)) (Wc' := (w_O8 G g V)) (WS' := (w_O8 G g V)) rfl (by decide) rfl rfl (va_runV (As := [.int x0, .int (nI iL3), .int (nI iL5)]) (rest := []) ⟨hx, hb, hml, hown, hts⟩ (c_X8_isRest l G g V x0 (nI iL3) (nI iL5) hz9 rfl _) (cwV 3 hts gX8_rests_X8_isRest rfl rfl rfl he_X8_isRest ⟨Nat.le_of_ble_eq_true rfl, Nat.le_of_ble_eq_true rfl⟩) (kb_preV hH hK hN [0, 1, 2, 3, 4, 5, 6, 7, 8, 9, 10, 11, 12, 13, 14] rfl (by decide) 0 rfl rfl rfl rfl) rfl rfl hl.1 rfl (lv_room (Nat.le_of_ble_eq_true rfl)) dX8_rests_75 ⟨Nat.le_of_ble_eq_true rfl, Nat.le_of_ble_eq_true rfl⟩) (fun H locs hH => ?_)
                  refine lv_if_eq (tgt := 103) hx hb dX8_rests_78 (by decide) (fun c10 => ?_) (fun c10 => ?_)
                  · rw [if_pos c10] at hBL5
                    refine lv_iinc (v := (nI (iL5 + 1))) (lv' := [(6, .int (nI (iL5 + 1))), (5, .int (nI iL3)), (4, .int L5a), (3, .int L5b), (0, .ref (g 0)), (1, .int x0), (2, .int x1)]) hx hb dX8_rests_103 hl (k := 0) rfl (nI_1 _) (by decide) rfl (fun ls hl => ?_)
                    refine lv_goto (tgt := 42) hx hb dX8_rests_106 (by decide) ?_
                    subst hBL5
                    exact ihL5 _ _ _ _ ⟨by omega, hs, hDn⟩ ⟨hH, lv_sub hl [0, 1, 2, 3, 4, 5, 6] rfl⟩
                  · rw [if_neg c10] at hBL5
                    refine lv_iload_n hx hb dX8_rests_81 rfl (lv_at hl 3 rfl) ?_
                    refine lv_if_ne (tgt := 96) hx hb dX8_rests_82 (by decide) (fun c11 => ?_) (fun c11 => ?_)
                    · rw [if_neg c11] at hBL5
                      refine lv_iload hx hb dX8_rests_96 (lv_at hl 2 rfl) ?_
                      refine lv_istore (lv' := [(4, .int L5a), (6, .int (nI iL5)), (5, .int (nI iL3)), (3, .int L5b), (0, .ref (g 0)), (1, .int x0), (2, .int x1)]) hx hb dX8_rests_98 hl (by decide) rfl (fun ls hl => ?_)
                      refine lv_iinc (v := (L5b + (1 : Int32))) (lv' := [(3, .int (L5b + (1 : Int32))), (4, .int L5a), (6, .int (nI iL5)), (5, .int (nI iL3)), (0, .ref (g 0)), (1, .int x0), (2, .int x1)]) hx hb dX8_rests_100 hl (k := 3) rfl rfl (by decide) rfl (fun ls hl => ?_)
                      refine lv_iinc (v := (nI (iL5 + 1))) (lv' := [(6, .int (nI (iL5 + 1))), (3, .int (L5b + (1 : Int32))), (4, .int L5a), (5, .int (nI iL3)), (0, .ref (g 0)), (1, .int x0), (2, .int x1)]) hx hb dX8_rests_103 hl (k := 2) rfl (nI_1 _) (by decide) rfl (fun ls hl => ?_)
                      refine lv_goto (tgt := 42) hx hb dX8_rests_106 (by decide) ?_
                      subst hBL5
                      exact ihL5 _ _ _ _ ⟨by omega, hs, hDn⟩ ⟨hH, lv_sub hl [0, 3, 2, 1, 4, 5, 6] rfl⟩
                    · rw [if_pos c11] at hBL5
                      refine lv_bipush (v := 10) hx hb dX8_rests_85 (by decide) ?_
                      refine lv_iload hx hb dX8_rests_87 (lv_at hl 1 rfl) ?_
                      refine lv_imul hx hb dX8_rests_89 ?_
                      refine lv_iload hx hb dX8_rests_90 (lv_at hl 0 rfl) ?_
                      refine lv_iadd hx hb dX8_rests_92 ?_
                      refine lv_goto (tgt := 98) hx hb dX8_rests_93 (by decide) ?_
                      refine lv_istore (lv' := [(4, .int (((10 : Int32) * (nI iL3)) + (nI iL5))), (6, .int (nI iL5)), (5, .int (nI iL3)), (3, .int L5b), (0, .ref (g 0)), (1, .int x0), (2, .int x1)]) hx hb dX8_rests_98 hl (by decide) rfl (fun ls hl => ?_)
                      refine lv_iinc (v := (L5b + (1 : Int32))) (lv' := [(3, .int (L5b + (1 : Int32))), (4, .int (((10 : Int32) * (nI iL3)) + (nI iL5))), (6, .int (nI iL5)), (5, .int (nI iL3)), (0, .ref (g 0)), (1, .int x0), (2, .int x1)]) hx hb dX8_rests_100 hl (k := 3) rfl rfl (by decide) rfl (fun ls hl => ?_)
                      refine lv_iinc (v := (nI (iL5 + 1))) (lv' := [(6, .int (nI (iL5 + 1))), (3, .int (L5b + (1 : Int32))), (4, .int (((10 : Int32) * (nI iL3)) + (nI iL5))), (5, .int (nI iL3)), (0, .ref (g 0)), (1, .int x0), (2, .int x1)]) hx hb dX8_rests_103 hl (k := 2) rfl (nI_1 _) (by decide) rfl (fun ls hl => ?_)
                      refine lv_goto (tgt := 42) hx hb dX8_rests_106 (by decide) ?_
                      subst hBL5
                      exact ihL5 _ _ _ _ ⟨by omega, hs, hDn⟩ ⟨hH, lv_sub hl [0, 3, 2, 1, 4, 5, 6] rfl⟩
          · obtain ⟨hH, hl⟩ := hX
            refine lv_iinc (v := (nI (iL3 + 1))) (lv' := [(5, .int (nI (iL3 + 1))), (4, .int SFL5.1), (3, .int SFL5.2), (0, .ref (g 0)), (1, .int x0), (2, .int x1)]) hx hb dX8_rests_109 hl (k := 0) rfl (nI_1 _) (by decide) rfl (fun ls hl => ?_)
            refine lv_goto (tgt := 32) hx hb dX8_rests_112 (by decide) ?_
            subst hBL3
            exact ihL3 _ _ _ _ ⟨by omega, hs, hDn⟩ ⟨hH, lv_sub hl [0, 1, 2, 3, 4, 5] rfl⟩
      · obtain ⟨hH, hl⟩ := hX
        refine lv_iload_n hx hb dX8_rests_115 rfl (lv_at hl 2 rfl) ?_
        refine lv_if_ne (tgt := 123) hx hb dX8_rests_116 (by decide) (fun c14 => ?_) (fun c14 => ?_)
        · rw [if_neg c14] at hF
          refine lv_iload hx hb dX8_rests_123 (lv_at hl 0 rfl) ?_
          subst hF
          exact kb_iret hx hb hr hH rfl rfl dX8_rests_125 hlocks
        · rw [if_pos c14] at hF
          refine lv_iload_n hx hb dX8_rests_119 rfl (lv_at hl 1 rfl) ?_
          refine lv_goto (tgt := 125) hx hb dX8_rests_120 (by decide) ?_
          subst hF
          exact kb_iret hx hb hr hH rfl rfl dX8_rests_125 hlocks
    · rw [if_pos c2] at hF
      refine lv_bipush (v := -2) hx hb dX8_rests_20 (by decide) ?_
      subst hF
      exact kb_iret hx hb hr hH rfl rfl dX8_rests_22 hlocks
  · rw [if_pos c1] at hF
    refine lv_iconst (v := -1) hx hb dX8_rests_8 (by decide) ?_
    subst hF
    exact kb_iret hx hb hr hH rfl rfl dX8_rests_9 hlocks
def f_X8_common_L1 (s : (Int32 × Int32)) : (Int32 × Int32) ⊕ (Int32 × Int32) := (if s.1 = 0 then (Sum.inr (s.1, s.2)) else (Sum.inl ((s.2 - s.2 / s.1 * s.1), s.1)))
def d_X8_common_L1 (s : (Int32 × Int32)) : Prop := True
def f_X8_common (x0 : Int32) (x1 : Int32) : (Int32) := (kAp (lpw (f_X8_common_L1) 70 (x1, x0)) (fun z3 => z3.2))
def d_X8_common (x0 : Int32) (x1 : Int32) : Prop := (lpwD (f_X8_common_L1) (d_X8_common_L1) 70 (x1, x0))
set_option maxHeartbeats 4000000 in
set_option maxRecDepth 100000 in
theorem c_X8_common (l : Launch) (G : Ge) (x0 : Int32) (x1 : Int32) (hD : d_X8_common x0 x1) {F : (Int32)} (hF : f_X8_common x0 x1 = F) : CI l yX8_common wsX8_common { frames := 0, cells := 0, slots := 0, locals := 0 } [.int x0, .int x1] G ([] : List va_W) ([] : List va_W) F := by
  intro sz
  refine Met.ofW (cc := cX8_common) (maxL := 5) (ret := (some .int)) (by decide) rfl ?_
  intro p e s m args below meth c s₁ B hml hv
  obtain ⟨rfl, hpre⟩ := hv
  obtain ⟨hsz, hH, hK, hN, hA⟩ := kb_start hpre
  subst hsz
  have hx := B.exec
  have hb := B.bytes
  have hr := B.returns
  have hts := atoms_spec (ws := wsX8_common) B.pre
  have hown : s.vm.findClass RX8 = some m.cls := findClass_of_methodNamed B.named
  have hlocks := B.notSynchronized
  generalize hAe : va_A (List.flatten ([] : List va_W)) s.heap.size = A at hH hA ⊢
  have hl := lv_entry ([.int x0, .int x1]) (n := 5) (Nat.le_of_ble_eq_true rfl)
  rw [lg_entry_eq]
  generalize (lg_sl ([.int x0, .int x1]) ++ List.replicate (5 - (lg_sl ([.int x0, .int x1])).length) Slot.unset).toArray = ls at hl ⊢
  have hl : lv_has ls 5 [(0, .int x0), (1, .int x1)] := hl
  have hH : HP G A s.heap ([] : List va_W) s.heap [] := hH
  have hF : (kAp (lpw (f_X8_common_L1) 70 (x1, x0)) (fun z3 => z3.2)) = F := hF
  have hD : (lpwD (f_X8_common_L1) (d_X8_common_L1) 70 (x1, x0)) := hD
  refine lv_iload_n hx hb dX8_common_0 rfl (lv_at hl 0 rfl) ?_
  refine lv_istore_n (lv' := [(2, .int x0), (0, .int x0), (1, .int x1)]) hx hb dX8_common_1 rfl hl (by decide) rfl (fun ls hl => ?_)
  refine lv_iload_n hx hb dX8_common_2 rfl (lv_at hl 2 rfl) ?_
  refine lv_istore_n (lv' := [(3, .int x1), (2, .int x0), (0, .int x0), (1, .int x1)]) hx hb dX8_common_3 rfl hl (by decide) rfl (fun ls hl => ?_)
  have hDlL1 := hD
  obtain ⟨SFL1, hSFL1⟩ : ∃ z, z = (lpw (f_X8_common_L1) 70 (x1, x0)) := ⟨_, rfl⟩
  have hF := kAp_eq hF hSFL1
  refine kb_cut (fun H locs ls => HP G A s.heap ([] : List va_W) H locs ∧ lv_has ls 5 [(2, .int SFL1.2)]) 21 [] (fun EXL1 => ?_) (fun H locs ls hX => ?_)
  · refine kb_loop (σ := (Int32 × Int32)) (fun n i x => True ∧ lpw (f_X8_common_L1) n x = SFL1 ∧ lpwD (f_X8_common_L1) (d_X8_common_L1) n x) (fun iL1 x H locs ls => HP G A s.heap ([] : List va_W) H locs ∧ lv_has ls 5 [(3, .int x.1), (2, .int x.2)]) (fun iL1 x H locs ls hI hX => ?_) (fun n iL1 x hI ihL1 H locs ls hX => ?_) 70 0 (x1, x0) _ _ _ ⟨trivial, hSFL1.symm, hDlL1⟩ ⟨hH, lv_sub hl [0, 1] rfl⟩
    · obtain ⟨L1a, L1b⟩ := x
      have hH : HP G A s.heap ([] : List va_W) H locs := hX.1
      have hl : lv_has ls 5 [(3, .int L1a), (2, .int L1b)] := hX.2
      exact absurd hI.2.2 (by simp [lpwD])
    · obtain ⟨L1a, L1b⟩ := x
      have hH : HP G A s.heap ([] : List va_W) H locs := hX.1
      have hl : lv_has ls 5 [(3, .int L1a), (2, .int L1b)] := hX.2
      obtain ⟨hiL1, hs, hDi⟩ := hI
      obtain ⟨hD, hDn⟩ := hDi
      obtain ⟨BVL1, hBd⟩ : ∃ z, (f_X8_common_L1) (L1a, L1b) = z := ⟨_, rfl⟩
      have hBL1 : (if L1a = 0 then (Sum.inr (L1a, L1b)) else (Sum.inl ((L1b - L1b / L1a * L1a), L1a))) = BVL1 := hBd
      refine lv_iload_n hx hb dX8_common_4 rfl (lv_at hl 0 rfl) ?_
      refine lv_if_eq (tgt := 21) hx hb dX8_common_5 (by decide) (fun c2 => ?_) (fun c2 => ?_)
      · rw [if_pos c2] at hBL1
        have hs := lpw_r hs (hBd.trans hBL1.symm)
        exact EXL1 _ _ _ ⟨by subst hs; exact hH, by subst hs; exact lv_sub hl [1] rfl⟩
      · rw [if_neg c2] at hBL1
        refine lv_iload_n hx hb dX8_common_8 rfl (lv_at hl 1 rfl) ?_
        refine lv_iload_n hx hb dX8_common_9 rfl (lv_at hl 0 rfl) ?_
        refine lv_irem hx hb dX8_common_10 c2 ?_
        refine lv_istore (lv' := [(4, .int (L1b - L1b / L1a * L1a)), (3, .int L1a), (2, .int L1b)]) hx hb dX8_common_11 hl (by decide) rfl (fun ls hl => ?_)
        refine lv_iload_n hx hb dX8_common_13 rfl (lv_at hl 1 rfl) ?_
        refine lv_istore_n (lv' := [(2, .int L1a), (4, .int (L1b - L1b / L1a * L1a)), (3, .int L1a)]) hx hb dX8_common_14 rfl hl (by decide) rfl (fun ls hl => ?_)
        refine lv_iload hx hb dX8_common_15 (lv_at hl 1 rfl) ?_
        refine lv_istore_n (lv' := [(3, .int (L1b - L1b / L1a * L1a)), (2, .int L1a), (4, .int (L1b - L1b / L1a * L1a))]) hx hb dX8_common_17 rfl hl (by decide) rfl (fun ls hl => ?_)
        refine lv_goto (tgt := 4) hx hb dX8_common_18 (by decide) ?_
        have hs := lpw_l hs (hBd.trans hBL1.symm)
        have hDn := hDn _ (hBd.trans hBL1.symm)
        exact ihL1 _ _ _ _ ⟨trivial, hs, hDn⟩ ⟨hH, lv_sub hl [0, 1] rfl⟩
  · obtain ⟨hH, hl⟩ := hX
    refine lv_iload_n hx hb dX8_common_21 rfl (lv_at hl 0 rfl) ?_
    subst hF
    exact kb_iret hx hb hr hH rfl rfl dX8_common_22 hlocks
def f_X8_frost_L5 (x1 : Int32) (iL3 : Nat) (iL5 : Nat) (s : (Int32)) : (Int32) := (if (f_X8_has (nI iL3) (nI iL5)) = 0 then (s * ((10 : Int32) - x1)) else (s * x1))
def f_X8_frost_L3 (V : OV) (x0 : Int32) (x1 : Int32) (iL3 : Nat) (s : (Int32 × Int32)) : (Int32 × Int32) := (kAp (lpu (f_X8_frost_L5 x1 iL3) (cN (V.2.1 0)) 0 (1 : Int32)) (fun z8 => (if (f_X8_underOf V (0 : Int32) x0 (((V.1 5) (24 : Int32).toNatClampNeg) ||| (nI iL3))) = 0 then ((s.1 + z8), (s.2 + z8)) else ((s.1 + z8), (s.2 + (0 : Int32))))))
def d_X8_frost_L3 (V : OV) (x0 : Int32) (x1 : Int32) (iL3 : Nat) (s : (Int32 × Int32)) : Prop := (kAp (lpu (f_X8_frost_L5 x1 iL3) (cN (V.2.1 0)) 0 (1 : Int32)) (fun z8 => (d_X8_underOf V (0 : Int32) x0 (((V.1 5) (24 : Int32).toNatClampNeg) ||| (nI iL3)))))
def f_X8_frost (V : OV) (x0 : Int32) (x1 : Int32) (x2 : Int32) : (Int32) := (if (f_X8_isWind V x0) = 0 then (-1 : Int32) else (if (f_X8_in (x1.toInt64) (0 : Int64) (10 : Int64)) = 0 then (-2 : Int32) else (kAp (lpu (f_X8_frost_L3 V x0 x1) (cN ((1 : Int32) <<< ((V.2.1 0) &&& 31))) 0 ((0 : Int32), (0 : Int32))) (fun z11 => (if x2 = 0 then (z11.1 / (f_X8_common z11.2 z11.1)) else (z11.2 / (f_X8_common z11.2 z11.1)))))))
def d_X8_frost (V : OV) (x0 : Int32) (x1 : Int32) (x2 : Int32) : Prop := (¬ ((f_X8_isWind V x0) = 0) → (¬ ((f_X8_in (x1.toInt64) (0 : Int64) (10 : Int64)) = 0) → ((lpuD (f_X8_frost_L3 V x0 x1) (d_X8_frost_L3 V x0 x1) (cN ((1 : Int32) <<< ((V.2.1 0) &&& 31))) 0 ((0 : Int32), (0 : Int32))) ∧ (kAp (lpu (f_X8_frost_L3 V x0 x1) (cN ((1 : Int32) <<< ((V.2.1 0) &&& 31))) 0 ((0 : Int32), (0 : Int32))) (fun z11 => ((d_X8_common z11.2 z11.1) ∧ ((x2 = 0 → ¬ (f_X8_common z11.2 z11.1) = 0) ∧ (¬ (x2 = 0) → ¬ (f_X8_common z11.2 z11.1) = 0))))))))
set_option maxHeartbeats 4000000 in
set_option maxRecDepth 100000 in
theorem c_X8_frost (l : Launch) (G : Ge) (g : Nat → Nat) (V : OV) (x0 : Int32) (x1 : Int32) (x2 : Int32) (hD : d_X8_frost V x0 x1 x2) {F : (Int32)} (hF : f_X8_frost V x0 x1 x2 = F) : CI l yX8_frost wsX8_frost { frames := 4, cells := 0, slots := 0, locals := 98 } [.ref (g 0), .int x0, .int x1, .int x2] G (w_O8 G g V) (w_O8 G g V) F := by
  intro sz
  refine Met.ofW (cc := cX8_frost) (maxL := 9) (ret := (some .int)) (by decide) rfl ?_
  intro p e s m args below meth c s₁ B hml hv
  obtain ⟨rfl, hpre⟩ := hv
  obtain ⟨hsz, hH, hK, hN, hA⟩ := kb_start hpre
  subst hsz
  have hx := B.exec
  have hb := B.bytes
  have hr := B.returns
  have hts := atoms_spec (ws := wsX8_frost) B.pre
  have hown : s.vm.findClass RX8 = some m.cls := findClass_of_methodNamed B.named
  have hlocks := B.notSynchronized
  generalize hAe : va_A (List.flatten (w_O8 G g V)) s.heap.size = A at hH hA ⊢
  have hl := lv_entry ([.ref (g 0), .int x0, .int x1, .int x2]) (n := 9) (Nat.le_of_ble_eq_true rfl)
  rw [lg_entry_eq]
  generalize (lg_sl ([.ref (g 0), .int x0, .int x1, .int x2]) ++ List.replicate (9 - (lg_sl ([.ref (g 0), .int x0, .int x1, .int x2])).length) Slot.unset).toArray = ls at hl ⊢
  have hl : lv_has ls 9 [(0, .ref (g 0)), (1, .int x0), (2, .int x1), (3, .int x2)] := hl
  have hH : HP G A s.heap (w_O8 G g V) s.heap [] := hH
  have hin8 : ∀ w ∈ u_ws RX8 TX8 31, w ∈ wsX8_frost := fun w h => List.mem_cons_of_mem _ (List.mem_append_right _ h)
  have hF : (if (f_X8_isWind V x0) = 0 then (-1 : Int32) else (if (f_X8_in (x1.toInt64) (0 : Int64) (10 : Int64)) = 0 then (-2 : Int32) else (kAp (lpu (f_X8_frost_L3 V x0 x1) (cN ((1 : Int32) <<< ((V.2.1 0) &&& 31))) 0 ((0 : Int32), (0 : Int32))) (fun z11 => (if x2 = 0 then (z11.1 / (f_X8_common z11.2 z11.1)) else (z11.2 / (f_X8_common z11.2 z11.1))))))) = F := hF
  have hD : (¬ ((f_X8_isWind V x0) = 0) → (¬ ((f_X8_in (x1.toInt64) (0 : Int64) (10 : Int64)) = 0) → ((lpuD (f_X8_frost_L3 V x0 x1) (d_X8_frost_L3 V x0 x1) (cN ((1 : Int32) <<< ((V.2.1 0) &&& 31))) 0 ((0 : Int32), (0 : Int32))) ∧ (kAp (lpu (f_X8_frost_L3 V x0 x1) (cN ((1 : Int32) <<< ((V.2.1 0) &&& 31))) 0 ((0 : Int32), (0 : Int32))) (fun z11 => ((d_X8_common z11.2 z11.1) ∧ ((x2 = 0 → ¬ (f_X8_common z11.2 z11.1) = 0) ∧ (¬ (x2 = 0) → ¬ (f_X8_common z11.2 z11.1) = 0)))))))) := hD
  refine lv_aload_n hx hb dX8_frost_0 rfl (lv_at hl 0 rfl) ?_
  refine lv_iload_n hx hb dX8_frost_1 rfl (lv_at hl 1 rfl) ?_
  refine kb_ci hH hA [0, 1, 2, 3, 4, 5, 6, 7, 8, 9, 10, 11, 12, 13, 14] (Wc := (w_O8 G g V)) (Wc' := (w_O8 G g V)) (WS' := (w_O8 G g V)) rfl (by decide) rfl rfl (va_runV (As := [.int x0]) (rest := []) ⟨hx, hb, hml, hown, hts⟩ (c_X8_isWind l G g V x0 rfl _) (cwV 1 hts gX8_frost_X8_isWind rfl rfl rfl he_X8_isWind ⟨Nat.le_of_ble_eq_true rfl, Nat.le_of_ble_eq_true rfl⟩) (kb_preV hH hK hN [0, 1, 2, 3, 4, 5, 6, 7, 8, 9, 10, 11, 12, 13, 14] rfl (by decide) 0 rfl rfl rfl rfl) rfl rfl hl.1 rfl (lv_room (Nat.le_of_ble_eq_true rfl)) dX8_frost_2 ⟨Nat.le_of_ble_eq_true rfl, Nat.le_of_ble_eq_true rfl⟩) (fun H locs hH => ?_)
  refine lv_if_ne (tgt := 10) hx hb dX8_frost_5 (by decide) (fun c1 => ?_) (fun c1 => ?_)
  · have hD := hD c1
    rw [if_neg c1] at hF
    refine lv_iload_n hx hb dX8_frost_10 rfl (lv_at hl 2 rfl) ?_
    refine lv_i2l (v := (x1.toInt64)) hx hb dX8_frost_11 rfl ?_
    refine lv_lconst (v := 0) hx hb dX8_frost_12 (by decide) ?_
    refine lv_ldc2 (v := 10) hx hb hown (hts (.constantLong RX8 204 (10)) (List.mem_of_getElem? (i := 1) rfl)) dX8_frost_13 ?_
    refine kb_ci hH hA [] (Wc := ([] : List va_W)) (Wc' := ([] : List va_W)) (WS' := (w_O8 G g V)) rfl (by decide) rfl rfl (va_runS (As := [.long (x1.toInt64), .long (0 : Int64), .long (10 : Int64)]) (rest := []) ⟨hx, hb, hml, hown, hts⟩ (c_X8_in l G (x1.toInt64) (0 : Int64) (10 : Int64) rfl _) (va_cwS 3 hts gX8_frost_X8_in rfl rfl rfl hd_X8_in ⟨Nat.le_of_ble_eq_true rfl, Nat.le_of_ble_eq_true rfl⟩) (kb_preS hH hK hN [] rfl (by decide)) rfl rfl hl.1 rfl (lv_room (Nat.le_of_ble_eq_true rfl)) dX8_frost_16 ⟨Nat.le_of_ble_eq_true rfl, Nat.le_of_ble_eq_true rfl⟩) (fun H locs hH => ?_)
    refine lv_if_ne (tgt := 25) hx hb dX8_frost_19 (by decide) (fun c2 => ?_) (fun c2 => ?_)
    · have hD := hD c2
      rw [if_neg c2] at hF
      refine lv_iconst (v := 0) hx hb dX8_frost_25 (by decide) ?_
      refine lv_istore (lv' := [(4, .int (0 : Int32)), (0, .ref (g 0)), (1, .int x0), (2, .int x1), (3, .int x2)]) hx hb dX8_frost_26 hl (by decide) rfl (fun ls hl => ?_)
      refine lv_iconst (v := 0) hx hb dX8_frost_28 (by decide) ?_
      refine lv_istore (lv' := [(5, .int (0 : Int32)), (4, .int (0 : Int32)), (0, .ref (g 0)), (1, .int x0), (2, .int x1), (3, .int x2)]) hx hb dX8_frost_29 hl (by decide) rfl (fun ls hl => ?_)
      refine lv_iconst (v := 0) hx hb dX8_frost_31 (by decide) ?_
      refine lv_istore (lv' := [(6, .int (0 : Int32)), (5, .int (0 : Int32)), (4, .int (0 : Int32)), (0, .ref (g 0)), (1, .int x0), (2, .int x1), (3, .int x2)]) hx hb dX8_frost_32 hl (by decide) rfl (fun ls hl => ?_)
      obtain ⟨hDlL3, hD⟩ := hD
      obtain ⟨SFL3, hSFL3⟩ : ∃ z, z = (lpu (f_X8_frost_L3 V x0 x1) (cN ((1 : Int32) <<< ((V.2.1 0) &&& 31))) 0 ((0 : Int32), (0 : Int32))) := ⟨_, rfl⟩
      have hF := kAp_eq hF hSFL3
      have hD := kAp_D hD hSFL3
      refine kb_cut (fun H locs ls => HP G A s.heap (w_O8 G g V) H locs ∧ lv_has ls 9 [(5, .int SFL3.1), (4, .int SFL3.2), (3, .int x2)]) 132 [] (fun EXL3 => ?_) (fun H locs ls hX => ?_)
      · refine kb_loop (σ := (Int32 × Int32)) (fun n i x => n + i = (cN ((1 : Int32) <<< ((V.2.1 0) &&& 31))) ∧ lpu (f_X8_frost_L3 V x0 x1) n i x = SFL3 ∧ lpuD (f_X8_frost_L3 V x0 x1) (d_X8_frost_L3 V x0 x1) n i x) (fun iL3 x H locs ls => HP G A s.heap (w_O8 G g V) H locs ∧ lv_has ls 9 [(6, .int (nI iL3)), (5, .int x.1), (4, .int x.2), (0, .ref (g 0)), (1, .int x0), (2, .int x1), (3, .int x2)]) (fun iL3 x H locs ls hI hX => ?_) (fun n iL3 x hI ihL3 H locs ls hX => ?_) (cN ((1 : Int32) <<< ((V.2.1 0) &&& 31))) 0 ((0 : Int32), (0 : Int32)) _ _ _ ⟨Nat.add_zero _, hSFL3.symm, hDlL3⟩ ⟨hH, lv_sub hl [0, 1, 2, 3, 4, 5, 6] rfl⟩
        · obtain ⟨L3a, L3b⟩ := x
          have hH : HP G A s.heap (w_O8 G g V) H locs := hX.1
          have hl : lv_has ls 9 [(6, .int (nI iL3)), (5, .int L3a), (4, .int L3b), (0, .ref (g 0)), (1, .int x0), (2, .int x1), (3, .int x2)] := hX.2
          obtain ⟨hiL3, hs, _⟩ := hI
          have hiL3 : iL3 = (cN ((1 : Int32) <<< ((V.2.1 0) &&& 31))) := by omega
          refine lv_iload hx hb dX8_frost_34 (lv_at hl 0 rfl) ?_
          refine lv_iconst (v := 1) hx hb dX8_frost_36 (by decide) ?_
          refine lv_aload_n hx hb dX8_frost_37 rfl (lv_at hl 3 rfl) ?_
          refine kb_get (v := .int (V.2.1 0)) hx hb hts hin8 hown hK hH 0 rfl rfl rfl 0 (by decide) (hts (.fieldLink RX8 53 "CockWarModel" "cocks" "I") (List.mem_of_getElem? (i := 2) rfl)) (fun _ h9 => h9) rfl dX8_frost_38 ?_
          refine lv_ishl hx hb dX8_frost_41 ?_
          refine lv_icmp_ge (tgt := 132) hx hb dX8_frost_42 (by decide) (fun _ => ?_) (fun c => absurd (cN_end hiL3) c)
          exact EXL3 _ _ _ ⟨by subst hs; exact hH, by subst hs; exact lv_sub hl [1, 2, 6] rfl⟩
        · obtain ⟨L3a, L3b⟩ := x
          have hH : HP G A s.heap (w_O8 G g V) H locs := hX.1
          have hl : lv_has ls 9 [(6, .int (nI iL3)), (5, .int L3a), (4, .int L3b), (0, .ref (g 0)), (1, .int x0), (2, .int x1), (3, .int x2)] := hX.2
          obtain ⟨hiL3, hs, hDi⟩ := hI
          obtain ⟨hD, hDn⟩ := hDi
          have hD : (kAp (lpu (f_X8_frost_L5 x1 iL3) (cN (V.2.1 0)) 0 (1 : Int32)) (fun z8 => (d_X8_underOf V (0 : Int32) x0 (((V.1 5) (24 : Int32).toNatClampNeg) ||| (nI iL3))))) := hD
          have hltL3 : iL3 < (cN ((1 : Int32) <<< ((V.2.1 0) &&& 31))) := by omega
          obtain ⟨BVL3, hBd⟩ : ∃ z, (f_X8_frost_L3 V x0 x1) iL3 (L3a, L3b) = z := ⟨_, rfl⟩
          have hs : lpu (f_X8_frost_L3 V x0 x1) n (iL3 + 1) BVL3 = SFL3 := by rw [← hBd]; exact hs
          have hDn : lpuD (f_X8_frost_L3 V x0 x1) (d_X8_frost_L3 V x0 x1) n (iL3 + 1) BVL3 := by rw [← hBd]; exact hDn
          have hBL3 : (kAp (lpu (f_X8_frost_L5 x1 iL3) (cN (V.2.1 0)) 0 (1 : Int32)) (fun z8 => (if (f_X8_underOf V (0 : Int32) x0 (((V.1 5) (24 : Int32).toNatClampNeg) ||| (nI iL3))) = 0 then ((L3a + z8), (L3b + z8)) else ((L3a + z8), (L3b + (0 : Int32)))))) = BVL3 := hBd
          refine lv_iload hx hb dX8_frost_34 (lv_at hl 0 rfl) ?_
          refine lv_iconst (v := 1) hx hb dX8_frost_36 (by decide) ?_
          refine lv_aload_n hx hb dX8_frost_37 rfl (lv_at hl 3 rfl) ?_
          refine kb_get (v := .int (V.2.1 0)) hx hb hts hin8 hown hK hH 0 rfl rfl rfl 0 (by decide) (hts (.fieldLink RX8 53 "CockWarModel" "cocks" "I") (List.mem_of_getElem? (i := 2) rfl)) (fun _ h9 => h9) rfl dX8_frost_38 ?_
          refine lv_ishl hx hb dX8_frost_41 ?_
          refine lv_icmp_ge (tgt := 132) hx hb dX8_frost_42 (by decide) (fun c => absurd c (cN_ge hltL3)) (fun c4 => ?_)
          refine lv_iconst (v := 1) hx hb dX8_frost_45 (by decide) ?_
          refine lv_istore (lv' := [(7, .int (1 : Int32)), (6, .int (nI iL3)), (5, .int L3a), (4, .int L3b), (0, .ref (g 0)), (1, .int x0), (2, .int x1), (3, .int x2)]) hx hb dX8_frost_46 hl (by decide) rfl (fun ls hl => ?_)
          refine lv_iconst (v := 0) hx hb dX8_frost_48 (by decide) ?_
          refine lv_istore (lv' := [(8, .int (0 : Int32)), (7, .int (1 : Int32)), (6, .int (nI iL3)), (5, .int L3a), (4, .int L3b), (0, .ref (g 0)), (1, .int x0), (2, .int x1), (3, .int x2)]) hx hb dX8_frost_49 hl (by decide) rfl (fun ls hl => ?_)
          obtain ⟨SFL5, hSFL5⟩ : ∃ z, z = (lpu (f_X8_frost_L5 x1 iL3) (cN (V.2.1 0)) 0 (1 : Int32)) := ⟨_, rfl⟩
          have hBL3 := kAp_eq hBL3 hSFL5
          have hD := kAp_D hD hSFL5
          refine kb_cut (fun H locs ls => HP G A s.heap (w_O8 G g V) H locs ∧ lv_has ls 9 [(7, .int SFL5), (6, .int (nI iL3)), (5, .int L3a), (4, .int L3b), (0, .ref (g 0)), (1, .int x0), (2, .int x1), (3, .int x2)]) 89 [] (fun EXL5 => ?_) (fun H locs ls hX => ?_)
          · refine kb_loop (σ := (Int32)) (fun n i x => n + i = (cN (V.2.1 0)) ∧ lpu (f_X8_frost_L5 x1 iL3) n i x = SFL5) (fun iL5 x H locs ls => HP G A s.heap (w_O8 G g V) H locs ∧ lv_has ls 9 [(8, .int (nI iL5)), (7, .int x), (6, .int (nI iL3)), (5, .int L3a), (4, .int L3b), (0, .ref (g 0)), (1, .int x0), (2, .int x1), (3, .int x2)]) (fun iL5 x H locs ls hI hX => ?_) (fun n iL5 x hI ihL5 H locs ls hX => ?_) (cN (V.2.1 0)) 0 (1 : Int32) _ _ _ ⟨Nat.add_zero _, hSFL5.symm⟩ ⟨hH, lv_sub hl [0, 1, 2, 3, 4, 5, 6, 7, 8] rfl⟩
            · obtain ⟨L5a, exL5a⟩ : ∃ z, z = x := ⟨_, rfl⟩
              subst exL5a
              have hH : HP G A s.heap (w_O8 G g V) H locs := hX.1
              have hl : lv_has ls 9 [(8, .int (nI iL5)), (7, .int L5a), (6, .int (nI iL3)), (5, .int L3a), (4, .int L3b), (0, .ref (g 0)), (1, .int x0), (2, .int x1), (3, .int x2)] := hX.2
              obtain ⟨hiL5, hs⟩ := hI
              have hiL5 : iL5 = (cN (V.2.1 0)) := by omega
              refine lv_iload hx hb dX8_frost_51 (lv_at hl 0 rfl) ?_
              refine lv_aload_n hx hb dX8_frost_53 rfl (lv_at hl 5 rfl) ?_
              refine kb_get (v := .int (V.2.1 0)) hx hb hts hin8 hown hK hH 0 rfl rfl rfl 0 (by decide) (hts (.fieldLink RX8 53 "CockWarModel" "cocks" "I") (List.mem_of_getElem? (i := 2) rfl)) (fun _ h9 => h9) rfl dX8_frost_54 ?_
              refine lv_icmp_ge (tgt := 89) hx hb dX8_frost_57 (by decide) (fun _ => ?_) (fun c => absurd (cN_end hiL5) c)
              exact EXL5 _ _ _ ⟨by subst hs; exact hH, by subst hs; exact lv_sub hl [1, 2, 3, 4, 5, 6, 7, 8] rfl⟩
            · obtain ⟨L5a, exL5a⟩ : ∃ z, z = x := ⟨_, rfl⟩
              subst exL5a
              have hH : HP G A s.heap (w_O8 G g V) H locs := hX.1
              have hl : lv_has ls 9 [(8, .int (nI iL5)), (7, .int L5a), (6, .int (nI iL3)), (5, .int L3a), (4, .int L3b), (0, .ref (g 0)), (1, .int x0), (2, .int x1), (3, .int x2)] := hX.2
              obtain ⟨hiL5, hs⟩ := hI
              have hltL5 : iL5 < (cN (V.2.1 0)) := by omega
              obtain ⟨BVL5, hBd⟩ : ∃ z, (f_X8_frost_L5 x1 iL3) iL5 L5a = z := ⟨_, rfl⟩
              have hs : lpu (f_X8_frost_L5 x1 iL3) n (iL5 + 1) BVL5 = SFL5 := by rw [← hBd]; exact hs
              have hBL5 : (if (f_X8_has (nI iL3) (nI iL5)) = 0 then (L5a * ((10 : Int32) - x1)) else (L5a * x1)) = BVL5 := hBd
              refine lv_iload hx hb dX8_frost_51 (lv_at hl 0 rfl) ?_
              refine lv_aload_n hx hb dX8_frost_53 rfl (lv_at hl 5 rfl) ?_
              refine kb_get (v := .int (V.2.1 0)) hx hb hts hin8 hown hK hH 0 rfl rfl rfl 0 (by decide) (hts (.fieldLink RX8 53 "CockWarModel" "cocks" "I") (List.mem_of_getElem? (i := 2) rfl)) (fun _ h9 => h9) rfl dX8_frost_54 ?_
              refine lv_icmp_ge (tgt := 89) hx hb dX8_frost_57 (by decide) (fun c => absurd c (cN_ge hltL5)) (fun c6 => ?_)
              refine lv_iload hx hb dX8_frost_60 (lv_at hl 1 rfl) ?_
              refine lv_iload hx hb dX8_frost_62 (lv_at hl 2 rfl) ?_
              refine lv_iload hx hb dX8_frost_64 (lv_at hl 0 rfl) ?_
              refine kb_ci hH hA [] (Wc := ([] : List va_W)) (Wc' := ([] : List va_W)) (WS' := (w_O8 G g V)) rfl (by decide) rfl rfl (va_runS (As := [.int (nI iL3), .int (nI iL5)]) (rest := [.int L5a]) ⟨hx, hb, hml, hown, hts⟩ (c_X8_has l G (nI iL3) (nI iL5) rfl _) (va_cwS 2 hts gX8_frost_X8_has rfl rfl rfl hd_X8_has ⟨Nat.le_of_ble_eq_true rfl, Nat.le_of_ble_eq_true rfl⟩) (kb_preS hH hK hN [] rfl (by decide)) rfl rfl hl.1 rfl (lv_room (Nat.le_of_ble_eq_true rfl)) dX8_frost_66 ⟨Nat.le_of_ble_eq_true rfl, Nat.le_of_ble_eq_true rfl⟩) (fun H locs hH => ?_)
              refine lv_if_eq (tgt := 76) hx hb dX8_frost_69 (by decide) (fun c7 => ?_) (fun c7 => ?_)
              · rw [if_pos c7] at hBL5
                refine lv_bipush (v := 10) hx hb dX8_frost_76 (by decide) ?_
                refine lv_iload_n hx hb dX8_frost_78 rfl (lv_at hl 7 rfl) ?_
                refine lv_isub hx hb dX8_frost_79 ?_
                refine lv_imul hx hb dX8_frost_80 ?_
                refine lv_istore (lv' := [(7, .int (L5a * ((10 : Int32) - x1))), (8, .int (nI iL5)), (6, .int (nI iL3)), (5, .int L3a), (4, .int L3b), (0, .ref (g 0)), (1, .int x0), (2, .int x1), (3, .int x2)]) hx hb dX8_frost_81 hl (by decide) rfl (fun ls hl => ?_)
                refine lv_iinc (v := (nI (iL5 + 1))) (lv' := [(8, .int (nI (iL5 + 1))), (7, .int (L5a * ((10 : Int32) - x1))), (6, .int (nI iL3)), (5, .int L3a), (4, .int L3b), (0, .ref (g 0)), (1, .int x0), (2, .int x1), (3, .int x2)]) hx hb dX8_frost_83 hl (k := 1) rfl (nI_1 _) (by decide) rfl (fun ls hl => ?_)
                refine lv_goto (tgt := 51) hx hb dX8_frost_86 (by decide) ?_
                subst hBL5
                exact ihL5 _ _ _ _ ⟨by omega, hs⟩ ⟨hH, lv_sub hl [0, 1, 2, 3, 4, 5, 6, 7, 8] rfl⟩
              · rw [if_neg c7] at hBL5
                refine lv_iload_n hx hb dX8_frost_72 rfl (lv_at hl 7 rfl) ?_
                refine lv_goto (tgt := 80) hx hb dX8_frost_73 (by decide) ?_
                refine lv_imul hx hb dX8_frost_80 ?_
                refine lv_istore (lv' := [(7, .int (L5a * x1)), (8, .int (nI iL5)), (6, .int (nI iL3)), (5, .int L3a), (4, .int L3b), (0, .ref (g 0)), (1, .int x0), (2, .int x1), (3, .int x2)]) hx hb dX8_frost_81 hl (by decide) rfl (fun ls hl => ?_)
                refine lv_iinc (v := (nI (iL5 + 1))) (lv' := [(8, .int (nI (iL5 + 1))), (7, .int (L5a * x1)), (6, .int (nI iL3)), (5, .int L3a), (4, .int L3b), (0, .ref (g 0)), (1, .int x0), (2, .int x1), (3, .int x2)]) hx hb dX8_frost_83 hl (k := 1) rfl (nI_1 _) (by decide) rfl (fun ls hl => ?_)
                refine lv_goto (tgt := 51) hx hb dX8_frost_86 (by decide) ?_
                subst hBL5
                exact ihL5 _ _ _ _ ⟨by omega, hs⟩ ⟨hH, lv_sub hl [0, 1, 2, 3, 4, 5, 6, 7, 8] rfl⟩
          · obtain ⟨hH, hl⟩ := hX
            refine lv_iload hx hb dX8_frost_89 (lv_at hl 2 rfl) ?_
            refine lv_iload hx hb dX8_frost_91 (lv_at hl 0 rfl) ?_
            refine lv_iadd hx hb dX8_frost_93 ?_
            refine lv_istore (lv' := [(5, .int (L3a + SFL5)), (7, .int SFL5), (6, .int (nI iL3)), (4, .int L3b), (0, .ref (g 0)), (1, .int x0), (2, .int x1), (3, .int x2)]) hx hb dX8_frost_94 hl (by decide) rfl (fun ls hl => ?_)
            refine lv_iload hx hb dX8_frost_96 (lv_at hl 3 rfl) ?_
            refine lv_aload_n hx hb dX8_frost_98 rfl (lv_at hl 4 rfl) ?_
            refine lv_iconst (v := 0) hx hb dX8_frost_99 (by decide) ?_
            refine lv_iload_n hx hb dX8_frost_100 rfl (lv_at hl 5 rfl) ?_
            refine lv_aload_n hx hb dX8_frost_101 rfl (lv_at hl 4 rfl) ?_
            refine kb_get (v := .ref (g 6)) hx hb hts hin8 hown hK hH 0 rfl rfl rfl 5 (by decide) (hts (.fieldLink RX8 19 "CockWarModel" "now" "[I") (List.mem_of_getElem? (i := 3) rfl)) (fun _ h9 => h9) rfl dX8_frost_102 ?_
            refine lv_bipush (v := 24) hx hb dX8_frost_105 (by decide) ?_
            refine kb_iald hx hb hK hH 4 rfl (show ¬ ((24 : Int32) < 0 ∨ 54 ≤ (24 : Int32).toNatClampNeg) by decide) dX8_frost_107 ?_
            refine lv_iload hx hb dX8_frost_108 (lv_at hl 2 rfl) ?_
            refine lv_ior hx hb dX8_frost_110 ?_
            have hz9 := hD
            refine kb_ci hH hA [0, 1, 2, 3, 4, 5, 6, 7, 8, 9, 10, 11, 12, 13, 14] (Wc := (w_O8 G g V)) (Wc' := (w_O8 G g V)) (WS' := (w_O8 G g V)) rfl (by decide) rfl rfl (va_runV (As := [.int (0 : Int32), .int x0, .int (((V.1 5) (24 : Int32).toNatClampNeg) ||| (nI iL3))]) (rest := [.int L3b]) ⟨hx, hb, hml, hown, hts⟩ (c_X8_underOf l G g V (0 : Int32) x0 (((V.1 5) (24 : Int32).toNatClampNeg) ||| (nI iL3)) hz9 rfl _) (cwV 3 hts gX8_frost_X8_underOf rfl rfl rfl he_X8_underOf ⟨Nat.le_of_ble_eq_true rfl, Nat.le_of_ble_eq_true rfl⟩) (kb_preV hH hK hN [0, 1, 2, 3, 4, 5, 6, 7, 8, 9, 10, 11, 12, 13, 14] rfl (by decide) 0 rfl rfl rfl rfl) rfl rfl hl.1 rfl (lv_room (Nat.le_of_ble_eq_true rfl)) dX8_frost_111 ⟨Nat.le_of_ble_eq_true rfl, Nat.le_of_ble_eq_true rfl⟩) (fun H locs hH => ?_)
            refine lv_if_ne (tgt := 122) hx hb dX8_frost_114 (by decide) (fun c10 => ?_) (fun c10 => ?_)
            · rw [if_neg c10] at hBL3
              refine lv_iconst (v := 0) hx hb dX8_frost_122 (by decide) ?_
              refine lv_iadd hx hb dX8_frost_123 ?_
              refine lv_istore (lv' := [(4, .int (L3b + (0 : Int32))), (5, .int (L3a + SFL5)), (7, .int SFL5), (6, .int (nI iL3)), (0, .ref (g 0)), (1, .int x0), (2, .int x1), (3, .int x2)]) hx hb dX8_frost_124 hl (by decide) rfl (fun ls hl => ?_)
              refine lv_iinc (v := (nI (iL3 + 1))) (lv' := [(6, .int (nI (iL3 + 1))), (4, .int (L3b + (0 : Int32))), (5, .int (L3a + SFL5)), (7, .int SFL5), (0, .ref (g 0)), (1, .int x0), (2, .int x1), (3, .int x2)]) hx hb dX8_frost_126 hl (k := 3) rfl (nI_1 _) (by decide) rfl (fun ls hl => ?_)
              refine lv_goto (tgt := 34) hx hb dX8_frost_129 (by decide) ?_
              subst hBL3
              exact ihL3 _ _ _ _ ⟨by omega, hs, hDn⟩ ⟨hH, lv_sub hl [0, 2, 1, 4, 5, 6, 7] rfl⟩
            · rw [if_pos c10] at hBL3
              refine lv_iload hx hb dX8_frost_117 (lv_at hl 1 rfl) ?_
              refine lv_goto (tgt := 123) hx hb dX8_frost_119 (by decide) ?_
              refine lv_iadd hx hb dX8_frost_123 ?_
              refine lv_istore (lv' := [(4, .int (L3b + SFL5)), (5, .int (L3a + SFL5)), (7, .int SFL5), (6, .int (nI iL3)), (0, .ref (g 0)), (1, .int x0), (2, .int x1), (3, .int x2)]) hx hb dX8_frost_124 hl (by decide) rfl (fun ls hl => ?_)
              refine lv_iinc (v := (nI (iL3 + 1))) (lv' := [(6, .int (nI (iL3 + 1))), (4, .int (L3b + SFL5)), (5, .int (L3a + SFL5)), (7, .int SFL5), (0, .ref (g 0)), (1, .int x0), (2, .int x1), (3, .int x2)]) hx hb dX8_frost_126 hl (k := 3) rfl (nI_1 _) (by decide) rfl (fun ls hl => ?_)
              refine lv_goto (tgt := 34) hx hb dX8_frost_129 (by decide) ?_
              subst hBL3
              exact ihL3 _ _ _ _ ⟨by omega, hs, hDn⟩ ⟨hH, lv_sub hl [0, 2, 1, 4, 5, 6, 7] rfl⟩
      · obtain ⟨hH, hl⟩ := hX
        refine lv_iload hx hb dX8_frost_132 (lv_at hl 1 rfl) ?_
        refine lv_iload hx hb dX8_frost_134 (lv_at hl 0 rfl) ?_
        obtain ⟨hz12, hD⟩ := hD
        refine kb_ci hH hA [] (Wc := ([] : List va_W)) (Wc' := ([] : List va_W)) (WS' := (w_O8 G g V)) rfl (by decide) rfl rfl (va_runS (As := [.int SFL3.2, .int SFL3.1]) (rest := []) ⟨hx, hb, hml, hown, hts⟩ (c_X8_common l G SFL3.2 SFL3.1 hz12 rfl _) (va_cwS 2 hts gX8_frost_X8_common rfl rfl rfl hd_X8_common ⟨Nat.le_of_ble_eq_true rfl, Nat.le_of_ble_eq_true rfl⟩) (kb_preS hH hK hN [] rfl (by decide)) rfl rfl hl.1 rfl (lv_room (Nat.le_of_ble_eq_true rfl)) dX8_frost_136 ⟨Nat.le_of_ble_eq_true rfl, Nat.le_of_ble_eq_true rfl⟩) (fun H locs hH => ?_)
        refine lv_istore (lv' := [(6, .int (f_X8_common SFL3.2 SFL3.1)), (5, .int SFL3.1), (4, .int SFL3.2), (3, .int x2)]) hx hb dX8_frost_139 hl (by decide) rfl (fun ls hl => ?_)
        refine lv_iload_n hx hb dX8_frost_141 rfl (lv_at hl 3 rfl) ?_
        refine lv_if_eq (tgt := 153) hx hb dX8_frost_142 (by decide) (fun c13 => ?_) (fun c13 => ?_)
        · have hD := hD.1 c13
          rw [if_pos c13] at hF
          refine lv_iload hx hb dX8_frost_153 (lv_at hl 1 rfl) ?_
          refine lv_iload hx hb dX8_frost_155 (lv_at hl 0 rfl) ?_
          have hz14 := hD
          refine lv_idiv hx hb dX8_frost_157 hz14 ?_
          subst hF
          exact kb_iret hx hb hr hH rfl rfl dX8_frost_158 hlocks
        · have hD := hD.2 c13
          rw [if_neg c13] at hF
          refine lv_iload hx hb dX8_frost_145 (lv_at hl 2 rfl) ?_
          refine lv_iload hx hb dX8_frost_147 (lv_at hl 0 rfl) ?_
          have hz15 := hD
          refine lv_idiv hx hb dX8_frost_149 hz15 ?_
          refine lv_goto (tgt := 158) hx hb dX8_frost_150 (by decide) ?_
          subst hF
          exact kb_iret hx hb hr hH rfl rfl dX8_frost_158 hlocks
    · rw [if_pos c2] at hF
      refine lv_bipush (v := -2) hx hb dX8_frost_22 (by decide) ?_
      subst hF
      exact kb_iret hx hb hr hH rfl rfl dX8_frost_24 hlocks
  · rw [if_pos c1] at hF
    refine lv_iconst (v := -1) hx hb dX8_frost_8 (by decide) ?_
    subst hF
    exact kb_iret hx hb hr hH rfl rfl dX8_frost_9 hlocks
def f_X8_seed (V : OV) (x0 : Int64) : (Int64 × OV) := ((V.2.2 28), (oL V 28 x0))
set_option maxHeartbeats 4000000 in
set_option maxRecDepth 100000 in
theorem c_X8_seed (l : Launch) (G : Ge) (g : Nat → Nat) (V : OV) (x0 : Int64) {F : (Int64 × OV)} (hF : f_X8_seed V x0 = F) : CJ l yX8_seed wsX8_seed { frames := 0, cells := 0, slots := 0, locals := 0 } [.ref (g 0), .long x0] G (w_O8 G g V) (w_O8 G g F.2) F.1 := by
  intro sz
  refine Met.ofW (cc := cX8_seed) (maxL := 5) (ret := (some .long)) (by decide) rfl ?_
  intro p e s m args below meth c s₁ B hml hv
  obtain ⟨rfl, hpre⟩ := hv
  obtain ⟨hsz, hH, hK, hN, hA⟩ := kb_start hpre
  subst hsz
  have hx := B.exec
  have hb := B.bytes
  have hr := B.returns
  have hts := atoms_spec (ws := wsX8_seed) B.pre
  have hown : s.vm.findClass RX8 = some m.cls := findClass_of_methodNamed B.named
  have hlocks := B.notSynchronized
  generalize hAe : va_A (List.flatten (w_O8 G g V)) s.heap.size = A at hH hA ⊢
  have hl := lv_entry ([.ref (g 0), .long x0]) (n := 5) (Nat.le_of_ble_eq_true rfl)
  rw [lg_entry_eq]
  generalize (lg_sl ([.ref (g 0), .long x0]) ++ List.replicate (5 - (lg_sl ([.ref (g 0), .long x0])).length) Slot.unset).toArray = ls at hl ⊢
  have hl : lv_has ls 5 [(0, .ref (g 0)), (1, .long x0)] := hl
  have hH : HP G A s.heap (w_O8 G g V) s.heap [] := hH
  have hin8 : ∀ w ∈ u_ws RX8 TX8 31, w ∈ wsX8_seed := fun w h => List.mem_cons_of_mem _ (List.mem_append_right _ h)
  have hF : ((V.2.2 28), (oL V 28 x0)) = F := hF
  refine lv_aload_n hx hb dX8_seed_0 rfl (lv_at hl 0 rfl) ?_
  refine kb_get (v := .long (V.2.2 28)) hx hb hts hin8 hown hK hH 0 rfl rfl rfl 28 (by decide) (hts (.fieldLink RX8 209 "CockWarModel" "seed" "J") (List.mem_of_getElem? (i := 1) rfl)) (fun _ h9 => h9) rfl dX8_seed_1 ?_
  refine lv_lstore_n (lv' := [(3, .long (V.2.2 28)), (0, .ref (g 0)), (1, .long x0)]) hx hb dX8_seed_4 rfl hl (by decide) rfl (fun ls hl => ?_)
  refine lv_aload_n hx hb dX8_seed_5 rfl (lv_at hl 1 rfl) ?_
  refine lv_lload_n hx hb dX8_seed_6 rfl (lv_at hl 2 rfl) ?_
  refine kb_put (ty := .long) (v := .long x0) (WS' := (w_O8 G g (oL V 28 x0))) hx hb hts hin8 tyX8 tyX8_ok nmX8 hown hK hH 0 rfl rfl 28 (by decide) (hts (.fieldLink RX8 209 "CockWarModel" "seed" "J") (List.mem_of_getElem? (i := 1) rfl)) (fun _ h9 => h9) rfl (by decide +kernel) rfl rfl (Nat.le_of_ble_eq_true rfl) rfl dX8_seed_7 (fun H locs hH => ?_)
  refine lv_lload_n hx hb dX8_seed_10 rfl (lv_at hl 0 rfl) ?_
  subst hF
  exact kb_lret hx hb hr hH rfl rfl dX8_seed_11 hlocks
def f_X8_years_L4 (q2 : (OV)) (iL4 : Nat) (s : (Int32)) : (Int32) := (s + ((q2.1 4) (((3 : Int32) * (nI iL4)) + (2 : Int32)).toNatClampNeg))
def d_X8_years_L4 (q2 : (OV)) (iL4 : Nat) (s : (Int32)) : Prop := vp_in (((3 : Int32) * (nI iL4)) + (2 : Int32)) 12
def f_X8_years_L12 (L8b : OV) (s : (Int32 × Int32)) : (Int32 × Int32) ⊕ (Int32 × Int32) := (if s.2 < ((L8b.1 4) (((3 : Int32) * s.1) + (2 : Int32)).toNatClampNeg) then (Sum.inr (s.1, s.2)) else (Sum.inl ((s.1 + (1 : Int32)), (s.2 - ((L8b.1 4) (((3 : Int32) * s.1) + (2 : Int32)).toNatClampNeg)))))
def d_X8_years_L12 (L8b : OV) (s : (Int32 × Int32)) : Prop := (vp_in (((3 : Int32) * s.1) + (2 : Int32)) 12 ∧ (¬ (s.2 < ((L8b.1 4) (((3 : Int32) * s.1) + (2 : Int32)).toNatClampNeg)) → vp_in (((3 : Int32) * s.1) + (2 : Int32)) 12))
def f_X8_years_L8 (z7 : (Int32)) (iL8 : Nat) (s : (Int32 × OV)) : (Int32 × OV) ⊕ (Int32 × OV) := (if (s.2.2.1 1) ≤ 0 then (Sum.inr (s.1, s.2)) else (kAp (lpw (f_X8_years_L12 s.2) 70 ((0 : Int32), (((((((s.2.2.2 28) * (6364136223846793005 : Int64)) + (1442695040888963407 : Int64)).toUInt64 >>> ((33 : Int32).toInt64.toUInt64 &&& Int64.toUInt64 63)).toInt64) - (((((s.2.2.2 28) * (6364136223846793005 : Int64)) + (1442695040888963407 : Int64)).toUInt64 >>> ((33 : Int32).toInt64.toUInt64 &&& Int64.toUInt64 63)).toInt64) / (z7.toInt64) * (z7.toInt64)).toInt32))) (fun z16 => (kAp (f_X8_blowOn (oL s.2 28 (((s.2.2.2 28) * (6364136223846793005 : Int64)) + (1442695040888963407 : Int64))) (1 : Int32) z16.1) (fun q17 => (if ((q17.1 5) (52 : Int32).toNatClampNeg) = 0 then (Sum.inl ((s.1 + (1 : Int32)), q17)) else (Sum.inl ((s.1 + (0 : Int32)), q17))))))))
def d_X8_years_L8 (z7 : (Int32)) (iL8 : Nat) (s : (Int32 × OV)) : Prop := (¬ ((s.2.2.1 1) ≤ 0) → (¬ (z7.toInt64) = 0 ∧ ((lpwD (f_X8_years_L12 s.2) (d_X8_years_L12 s.2) 70 ((0 : Int32), (((((((s.2.2.2 28) * (6364136223846793005 : Int64)) + (1442695040888963407 : Int64)).toUInt64 >>> ((33 : Int32).toInt64.toUInt64 &&& Int64.toUInt64 63)).toInt64) - (((((s.2.2.2 28) * (6364136223846793005 : Int64)) + (1442695040888963407 : Int64)).toUInt64 >>> ((33 : Int32).toInt64.toUInt64 &&& Int64.toUInt64 63)).toInt64) / (z7.toInt64) * (z7.toInt64)).toInt32))) ∧ (kAp (lpw (f_X8_years_L12 s.2) 70 ((0 : Int32), (((((((s.2.2.2 28) * (6364136223846793005 : Int64)) + (1442695040888963407 : Int64)).toUInt64 >>> ((33 : Int32).toInt64.toUInt64 &&& Int64.toUInt64 63)).toInt64) - (((((s.2.2.2 28) * (6364136223846793005 : Int64)) + (1442695040888963407 : Int64)).toUInt64 >>> ((33 : Int32).toInt64.toUInt64 &&& Int64.toUInt64 63)).toInt64) / (z7.toInt64) * (z7.toInt64)).toInt32))) (fun z16 => (d_X8_blowOn (oL s.2 28 (((s.2.2.2 28) * (6364136223846793005 : Int64)) + (1442695040888963407 : Int64))) (1 : Int32) z16.1))))))
def f_X8_years (V : OV) (x0 : Int32) : (Int32 × OV) := (if (f_X8_in (x0.toInt64) (1 : Int64) (30 : Int64)) = 0 then ((-2 : Int32), V) else (kAp (f_X8_layTrial V) (fun q2 => (kAp (lpu (f_X8_years_L4 q2) (cN (q2.2.1 1)) 0 (0 : Int32)) (fun z7 => (kAp (lpb (f_X8_years_L8 z7) (cN x0) 0 ((0 : Int32), q2)) (fun z20 => (z20.1, z20.2))))))))
def d_X8_years (V : OV) (x0 : Int32) : Prop := (¬ ((f_X8_in (x0.toInt64) (1 : Int64) (30 : Int64)) = 0) → ((d_X8_layTrial V) ∧ (kAp (f_X8_layTrial V) (fun q2 => ((lpuD (f_X8_years_L4 q2) (d_X8_years_L4 q2) (cN (q2.2.1 1)) 0 (0 : Int32)) ∧ (kAp (lpu (f_X8_years_L4 q2) (cN (q2.2.1 1)) 0 (0 : Int32)) (fun z7 => (lpxD (f_X8_years_L8 z7) (d_X8_years_L8 z7) (cN x0) 0 ((0 : Int32), q2)))))))))
set_option maxHeartbeats 4000000 in
set_option maxRecDepth 100000 in
theorem c_X8_years (l : Launch) (G : Ge) (g : Nat → Nat) (V : OV) (x0 : Int32) (hD : d_X8_years V x0) {F : (Int32 × OV)} (hF : f_X8_years V x0 = F) : CI l yX8_years wsX8_years { frames := 4, cells := 0, slots := 0, locals := 99 } [.ref (g 0), .int x0] G (w_O8 G g V) (w_O8 G g F.2) F.1 := by
  intro sz
  refine Met.ofW (cc := cX8_years) (maxL := 7) (ret := (some .int)) (by decide) rfl ?_
  intro p e s m args below meth c s₁ B hml hv
  obtain ⟨rfl, hpre⟩ := hv
  obtain ⟨hsz, hH, hK, hN, hA⟩ := kb_start hpre
  subst hsz
  have hx := B.exec
  have hb := B.bytes
  have hr := B.returns
  have hts := atoms_spec (ws := wsX8_years) B.pre
  have hown : s.vm.findClass RX8 = some m.cls := findClass_of_methodNamed B.named
  have hlocks := B.notSynchronized
  generalize hAe : va_A (List.flatten (w_O8 G g V)) s.heap.size = A at hH hA ⊢
  have hl := lv_entry ([.ref (g 0), .int x0]) (n := 7) (Nat.le_of_ble_eq_true rfl)
  rw [lg_entry_eq]
  generalize (lg_sl ([.ref (g 0), .int x0]) ++ List.replicate (7 - (lg_sl ([.ref (g 0), .int x0])).length) Slot.unset).toArray = ls at hl ⊢
  have hl : lv_has ls 7 [(0, .ref (g 0)), (1, .int x0)] := hl
  have hH : HP G A s.heap (w_O8 G g V) s.heap [] := hH
  have hin8 : ∀ w ∈ u_ws RX8 TX8 31, w ∈ wsX8_years := fun w h => List.mem_cons_of_mem _ (List.mem_append_right _ h)
  have hF : (if (f_X8_in (x0.toInt64) (1 : Int64) (30 : Int64)) = 0 then ((-2 : Int32), V) else (kAp (f_X8_layTrial V) (fun q2 => (kAp (lpu (f_X8_years_L4 q2) (cN (q2.2.1 1)) 0 (0 : Int32)) (fun z7 => (kAp (lpb (f_X8_years_L8 z7) (cN x0) 0 ((0 : Int32), q2)) (fun z20 => (z20.1, z20.2)))))))) = F := hF
  have hD : (¬ ((f_X8_in (x0.toInt64) (1 : Int64) (30 : Int64)) = 0) → ((d_X8_layTrial V) ∧ (kAp (f_X8_layTrial V) (fun q2 => ((lpuD (f_X8_years_L4 q2) (d_X8_years_L4 q2) (cN (q2.2.1 1)) 0 (0 : Int32)) ∧ (kAp (lpu (f_X8_years_L4 q2) (cN (q2.2.1 1)) 0 (0 : Int32)) (fun z7 => (lpxD (f_X8_years_L8 z7) (d_X8_years_L8 z7) (cN x0) 0 ((0 : Int32), q2))))))))) := hD
  refine lv_iload_n hx hb dX8_years_0 rfl (lv_at hl 1 rfl) ?_
  refine lv_i2l (v := (x0.toInt64)) hx hb dX8_years_1 rfl ?_
  refine lv_lconst (v := 1) hx hb dX8_years_2 (by decide) ?_
  refine lv_ldc2 (v := 30) hx hb hown (hts (.constantLong RX8 213 (30)) (List.mem_of_getElem? (i := 1) rfl)) dX8_years_3 ?_
  refine kb_ci hH hA [] (Wc := ([] : List va_W)) (Wc' := ([] : List va_W)) (WS' := (w_O8 G g V)) rfl (by decide) rfl rfl (va_runS (As := [.long (x0.toInt64), .long (1 : Int64), .long (30 : Int64)]) (rest := []) ⟨hx, hb, hml, hown, hts⟩ (c_X8_in l G (x0.toInt64) (1 : Int64) (30 : Int64) rfl _) (va_cwS 3 hts gX8_years_X8_in rfl rfl rfl hd_X8_in ⟨Nat.le_of_ble_eq_true rfl, Nat.le_of_ble_eq_true rfl⟩) (kb_preS hH hK hN [] rfl (by decide)) rfl rfl hl.1 rfl (lv_room (Nat.le_of_ble_eq_true rfl)) dX8_years_6 ⟨Nat.le_of_ble_eq_true rfl, Nat.le_of_ble_eq_true rfl⟩) (fun H locs hH => ?_)
  refine lv_if_ne (tgt := 15) hx hb dX8_years_9 (by decide) (fun c1 => ?_) (fun c1 => ?_)
  · have hD := hD c1
    rw [if_neg c1] at hF
    refine lv_aload_n hx hb dX8_years_15 rfl (lv_at hl 0 rfl) ?_
    obtain ⟨hz3, hD⟩ := hD
    obtain ⟨q2, hq2⟩ : ∃ z, z = (f_X8_layTrial V) := ⟨_, rfl⟩
    have hF := kAp_eq hF hq2
    have hD := kAp_D hD hq2
    refine kb_cv hH hA [0, 1, 2, 3, 4, 5, 6, 7, 8, 9, 10, 11, 12, 13, 14] (Wc := (w_O8 G g V)) (Wc' := (w_O8 G g q2)) (WS' := (w_O8 G g q2)) rfl (by decide) rfl rfl (va_runV (As := []) (rest := []) ⟨hx, hb, hml, hown, hts⟩ (c_X8_layTrial l G g V hz3 hq2.symm _) (cwV 0 hts gX8_years_X8_layTrial rfl rfl rfl he_X8_layTrial ⟨Nat.le_of_ble_eq_true rfl, Nat.le_of_ble_eq_true rfl⟩) (kb_preV hH hK hN [0, 1, 2, 3, 4, 5, 6, 7, 8, 9, 10, 11, 12, 13, 14] rfl (by decide) 0 rfl rfl rfl rfl) rfl rfl hl.1 rfl (lv_room (Nat.le_of_ble_eq_true rfl)) dX8_years_16 ⟨Nat.le_of_ble_eq_true rfl, Nat.le_of_ble_eq_true rfl⟩) (fun H locs hH => ?_)
    refine lv_iconst (v := 0) hx hb dX8_years_19 (by decide) ?_
    refine lv_istore_n (lv' := [(2, .int (0 : Int32)), (0, .ref (g 0)), (1, .int x0)]) hx hb dX8_years_20 rfl hl (by decide) rfl (fun ls hl => ?_)
    refine lv_iconst (v := 0) hx hb dX8_years_21 (by decide) ?_
    refine lv_istore_n (lv' := [(3, .int (0 : Int32)), (2, .int (0 : Int32)), (0, .ref (g 0)), (1, .int x0)]) hx hb dX8_years_22 rfl hl (by decide) rfl (fun ls hl => ?_)
    obtain ⟨hDlL4, hD⟩ := hD
    obtain ⟨SFL4, hSFL4⟩ : ∃ z, z = (lpu (f_X8_years_L4 q2) (cN (q2.2.1 1)) 0 (0 : Int32)) := ⟨_, rfl⟩
    have hF := kAp_eq hF hSFL4
    have hD := kAp_D hD hSFL4
    refine kb_cut (fun H locs ls => HP G A s.heap (w_O8 G g q2) H locs ∧ lv_has ls 7 [(2, .int SFL4), (0, .ref (g 0)), (1, .int x0)]) 50 [] (fun EXL4 => ?_) (fun H locs ls hX => ?_)
    · refine kb_loop (σ := (Int32)) (fun n i x => n + i = (cN (q2.2.1 1)) ∧ lpu (f_X8_years_L4 q2) n i x = SFL4 ∧ lpuD (f_X8_years_L4 q2) (d_X8_years_L4 q2) n i x) (fun iL4 x H locs ls => HP G A s.heap (w_O8 G g q2) H locs ∧ lv_has ls 7 [(3, .int (nI iL4)), (2, .int x), (0, .ref (g 0)), (1, .int x0)]) (fun iL4 x H locs ls hI hX => ?_) (fun n iL4 x hI ihL4 H locs ls hX => ?_) (cN (q2.2.1 1)) 0 (0 : Int32) _ _ _ ⟨Nat.add_zero _, hSFL4.symm, hDlL4⟩ ⟨hH, lv_sub hl [0, 1, 2, 3] rfl⟩
      · obtain ⟨L4a, exL4a⟩ : ∃ z, z = x := ⟨_, rfl⟩
        subst exL4a
        have hH : HP G A s.heap (w_O8 G g q2) H locs := hX.1
        have hl : lv_has ls 7 [(3, .int (nI iL4)), (2, .int L4a), (0, .ref (g 0)), (1, .int x0)] := hX.2
        obtain ⟨hiL4, hs, _⟩ := hI
        have hiL4 : iL4 = (cN (q2.2.1 1)) := by omega
        refine lv_iload_n hx hb dX8_years_23 rfl (lv_at hl 0 rfl) ?_
        refine lv_aload_n hx hb dX8_years_24 rfl (lv_at hl 2 rfl) ?_
        refine kb_get (v := .int (q2.2.1 1)) hx hb hts hin8 hown hK hH 0 rfl rfl rfl 1 (by decide) (hts (.fieldLink RX8 109 "CockWarModel" "winds" "I") (List.mem_of_getElem? (i := 2) rfl)) (fun _ h9 => h9) rfl dX8_years_25 ?_
        refine lv_icmp_ge (tgt := 50) hx hb dX8_years_28 (by decide) (fun _ => ?_) (fun c => absurd (cN_end hiL4) c)
        exact EXL4 _ _ _ ⟨by subst hs; exact hH, by subst hs; exact lv_sub hl [1, 2, 3] rfl⟩
      · obtain ⟨L4a, exL4a⟩ : ∃ z, z = x := ⟨_, rfl⟩
        subst exL4a
        have hH : HP G A s.heap (w_O8 G g q2) H locs := hX.1
        have hl : lv_has ls 7 [(3, .int (nI iL4)), (2, .int L4a), (0, .ref (g 0)), (1, .int x0)] := hX.2
        obtain ⟨hiL4, hs, hDi⟩ := hI
        obtain ⟨hD, hDn⟩ := hDi
        have hD : vp_in (((3 : Int32) * (nI iL4)) + (2 : Int32)) 12 := hD
        have hltL4 : iL4 < (cN (q2.2.1 1)) := by omega
        obtain ⟨BVL4, hBd⟩ : ∃ z, (f_X8_years_L4 q2) iL4 L4a = z := ⟨_, rfl⟩
        have hs : lpu (f_X8_years_L4 q2) n (iL4 + 1) BVL4 = SFL4 := by rw [← hBd]; exact hs
        have hDn : lpuD (f_X8_years_L4 q2) (d_X8_years_L4 q2) n (iL4 + 1) BVL4 := by rw [← hBd]; exact hDn
        have hBL4 : (L4a + ((q2.1 4) (((3 : Int32) * (nI iL4)) + (2 : Int32)).toNatClampNeg)) = BVL4 := hBd
        refine lv_iload_n hx hb dX8_years_23 rfl (lv_at hl 0 rfl) ?_
        refine lv_aload_n hx hb dX8_years_24 rfl (lv_at hl 2 rfl) ?_
        refine kb_get (v := .int (q2.2.1 1)) hx hb hts hin8 hown hK hH 0 rfl rfl rfl 1 (by decide) (hts (.fieldLink RX8 109 "CockWarModel" "winds" "I") (List.mem_of_getElem? (i := 2) rfl)) (fun _ h9 => h9) rfl dX8_years_25 ?_
        refine lv_icmp_ge (tgt := 50) hx hb dX8_years_28 (by decide) (fun c => absurd c (cN_ge hltL4)) (fun c5 => ?_)
        refine lv_iload_n hx hb dX8_years_31 rfl (lv_at hl 1 rfl) ?_
        refine lv_aload_n hx hb dX8_years_32 rfl (lv_at hl 2 rfl) ?_
        refine kb_get (v := .ref (g 5)) hx hb hts hin8 hown hK hH 0 rfl rfl rfl 4 (by decide) (hts (.fieldLink RX8 16 "CockWarModel" "wind" "[I") (List.mem_of_getElem? (i := 3) rfl)) (fun _ h9 => h9) rfl dX8_years_33 ?_
        refine lv_iconst (v := 3) hx hb dX8_years_36 (by decide) ?_
        refine lv_iload_n hx hb dX8_years_37 rfl (lv_at hl 0 rfl) ?_
        refine lv_imul hx hb dX8_years_38 ?_
        refine lv_iconst (v := 2) hx hb dX8_years_39 (by decide) ?_
        refine lv_iadd hx hb dX8_years_40 ?_
        have hz6 := hD
        refine kb_iald (f := (q2.1 4)) hx hb hK hH 3 rfl hz6 dX8_years_41 ?_
        refine lv_iadd hx hb dX8_years_42 ?_
        refine lv_istore_n (lv' := [(2, .int (L4a + ((q2.1 4) (((3 : Int32) * (nI iL4)) + (2 : Int32)).toNatClampNeg))), (3, .int (nI iL4)), (0, .ref (g 0)), (1, .int x0)]) hx hb dX8_years_43 rfl hl (by decide) rfl (fun ls hl => ?_)
        refine lv_iinc (v := (nI (iL4 + 1))) (lv' := [(3, .int (nI (iL4 + 1))), (2, .int (L4a + ((q2.1 4) (((3 : Int32) * (nI iL4)) + (2 : Int32)).toNatClampNeg))), (0, .ref (g 0)), (1, .int x0)]) hx hb dX8_years_44 hl (k := 1) rfl (nI_1 _) (by decide) rfl (fun ls hl => ?_)
        refine lv_goto (tgt := 23) hx hb dX8_years_47 (by decide) ?_
        subst hBL4
        exact ihL4 _ _ _ _ ⟨by omega, hs, hDn⟩ ⟨hH, lv_sub hl [0, 1, 2, 3] rfl⟩
    · obtain ⟨hH, hl⟩ := hX
      refine lv_iconst (v := 0) hx hb dX8_years_50 (by decide) ?_
      refine lv_istore_n (lv' := [(3, .int (0 : Int32)), (2, .int SFL4), (0, .ref (g 0)), (1, .int x0)]) hx hb dX8_years_51 rfl hl (by decide) rfl (fun ls hl => ?_)
      refine lv_iconst (v := 0) hx hb dX8_years_52 (by decide) ?_
      refine lv_istore (lv' := [(4, .int (0 : Int32)), (3, .int (0 : Int32)), (2, .int SFL4), (0, .ref (g 0)), (1, .int x0)]) hx hb dX8_years_53 hl (by decide) rfl (fun ls hl => ?_)
      have hDlL8 := hD
      obtain ⟨SFL8, hSFL8⟩ : ∃ z, z = (lpb (f_X8_years_L8 SFL4) (cN x0) 0 ((0 : Int32), q2)) := ⟨_, rfl⟩
      have hF := kAp_eq hF hSFL8
      refine kb_cut (fun H locs ls => HP G A s.heap (w_O8 G g SFL8.2) H locs ∧ lv_has ls 7 [(3, .int SFL8.1)]) 169 [] (fun EXL8 => ?_) (fun H locs ls hX => ?_)
      · refine kb_loop (σ := (Int32 × OV)) (fun n i x => n + i = (cN x0) ∧ lpb (f_X8_years_L8 SFL4) n i x = SFL8 ∧ lpxD (f_X8_years_L8 SFL4) (d_X8_years_L8 SFL4) n i x) (fun iL8 x H locs ls => HP G A s.heap (w_O8 G g x.2) H locs ∧ lv_has ls 7 [(4, .int (nI iL8)), (3, .int x.1), (2, .int SFL4), (0, .ref (g 0)), (1, .int x0)]) (fun iL8 x H locs ls hI hX => ?_) (fun n iL8 x hI ihL8 H locs ls hX => ?_) (cN x0) 0 ((0 : Int32), q2) _ _ _ ⟨Nat.add_zero _, hSFL8.symm, hDlL8⟩ ⟨hH, lv_sub hl [0, 1, 2, 3, 4] rfl⟩
        · obtain ⟨L8a, L8b⟩ := x
          have hH : HP G A s.heap (w_O8 G g L8b) H locs := hX.1
          have hl : lv_has ls 7 [(4, .int (nI iL8)), (3, .int L8a), (2, .int SFL4), (0, .ref (g 0)), (1, .int x0)] := hX.2
          obtain ⟨hiL8, hs, _⟩ := hI
          have hiL8 : iL8 = (cN x0) := by omega
          refine lv_iload hx hb dX8_years_55 (lv_at hl 0 rfl) ?_
          refine lv_iload_n hx hb dX8_years_57 rfl (lv_at hl 4 rfl) ?_
          refine lv_icmp_ge (tgt := 169) hx hb dX8_years_58 (by decide) (fun _ => ?_) (fun c => absurd (cN_end hiL8) c)
          exact EXL8 _ _ _ ⟨by subst hs; exact hH, by subst hs; exact lv_sub hl [1] rfl⟩
        · obtain ⟨L8a, L8b⟩ := x
          have hH : HP G A s.heap (w_O8 G g L8b) H locs := hX.1
          have hl : lv_has ls 7 [(4, .int (nI iL8)), (3, .int L8a), (2, .int SFL4), (0, .ref (g 0)), (1, .int x0)] := hX.2
          obtain ⟨hiL8, hs, hDi⟩ := hI
          obtain ⟨hD, hDn⟩ := hDi
          have hD : (¬ ((L8b.2.1 1) ≤ 0) → (¬ (SFL4.toInt64) = 0 ∧ ((lpwD (f_X8_years_L12 L8b) (d_X8_years_L12 L8b) 70 ((0 : Int32), (((((((L8b.2.2 28) * (6364136223846793005 : Int64)) + (1442695040888963407 : Int64)).toUInt64 >>> ((33 : Int32).toInt64.toUInt64 &&& Int64.toUInt64 63)).toInt64) - (((((L8b.2.2 28) * (6364136223846793005 : Int64)) + (1442695040888963407 : Int64)).toUInt64 >>> ((33 : Int32).toInt64.toUInt64 &&& Int64.toUInt64 63)).toInt64) / (SFL4.toInt64) * (SFL4.toInt64)).toInt32))) ∧ (kAp (lpw (f_X8_years_L12 L8b) 70 ((0 : Int32), (((((((L8b.2.2 28) * (6364136223846793005 : Int64)) + (1442695040888963407 : Int64)).toUInt64 >>> ((33 : Int32).toInt64.toUInt64 &&& Int64.toUInt64 63)).toInt64) - (((((L8b.2.2 28) * (6364136223846793005 : Int64)) + (1442695040888963407 : Int64)).toUInt64 >>> ((33 : Int32).toInt64.toUInt64 &&& Int64.toUInt64 63)).toInt64) / (SFL4.toInt64) * (SFL4.toInt64)).toInt32))) (fun z16 => (d_X8_blowOn (oL L8b 28 (((L8b.2.2 28) * (6364136223846793005 : Int64)) + (1442695040888963407 : Int64))) (1 : Int32) z16.1)))))) := hD
          have hltL8 : iL8 < (cN x0) := by omega
          obtain ⟨BVL8, hBd⟩ : ∃ z, (f_X8_years_L8 SFL4) iL8 (L8a, L8b) = z := ⟨_, rfl⟩
          have hBL8 : (if (L8b.2.1 1) ≤ 0 then (Sum.inr (L8a, L8b)) else (kAp (lpw (f_X8_years_L12 L8b) 70 ((0 : Int32), (((((((L8b.2.2 28) * (6364136223846793005 : Int64)) + (1442695040888963407 : Int64)).toUInt64 >>> ((33 : Int32).toInt64.toUInt64 &&& Int64.toUInt64 63)).toInt64) - (((((L8b.2.2 28) * (6364136223846793005 : Int64)) + (1442695040888963407 : Int64)).toUInt64 >>> ((33 : Int32).toInt64.toUInt64 &&& Int64.toUInt64 63)).toInt64) / (SFL4.toInt64) * (SFL4.toInt64)).toInt32))) (fun z16 => (kAp (f_X8_blowOn (oL L8b 28 (((L8b.2.2 28) * (6364136223846793005 : Int64)) + (1442695040888963407 : Int64))) (1 : Int32) z16.1) (fun q17 => (if ((q17.1 5) (52 : Int32).toNatClampNeg) = 0 then (Sum.inl ((L8a + (1 : Int32)), q17)) else (Sum.inl ((L8a + (0 : Int32)), q17)))))))) = BVL8 := hBd
          refine lv_iload hx hb dX8_years_55 (lv_at hl 0 rfl) ?_
          refine lv_iload_n hx hb dX8_years_57 rfl (lv_at hl 4 rfl) ?_
          refine lv_icmp_ge (tgt := 169) hx hb dX8_years_58 (by decide) (fun c => absurd c (cN_ge hltL8)) (fun c9 => ?_)
          refine lv_aload_n hx hb dX8_years_61 rfl (lv_at hl 3 rfl) ?_
          refine kb_get (v := .int (L8b.2.1 1)) hx hb hts hin8 hown hK hH 0 rfl rfl rfl 1 (by decide) (hts (.fieldLink RX8 109 "CockWarModel" "winds" "I") (List.mem_of_getElem? (i := 2) rfl)) (fun _ h9 => h9) rfl dX8_years_62 ?_
          refine lv_if_le (tgt := 169) hx hb dX8_years_65 (by decide) (fun c10 => ?_) (fun c10 => ?_)
          · rw [if_pos c10] at hBL8
            have hs := lpb_r hs (hBd.trans hBL8.symm)
            exact EXL8 _ _ _ ⟨by subst hs; exact hH, by subst hs; exact lv_sub hl [1] rfl⟩
          · have hD := hD c10
            rw [if_neg c10] at hBL8
            refine lv_aload_n hx hb dX8_years_68 rfl (lv_at hl 3 rfl) ?_
            refine lv_aload_n hx hb dX8_years_69 rfl (lv_at hl 3 rfl) ?_
            refine kb_get (v := .long (L8b.2.2 28)) hx hb hts hin8 hown hK hH 0 rfl rfl rfl 28 (by decide) (hts (.fieldLink RX8 209 "CockWarModel" "seed" "J") (List.mem_of_getElem? (i := 4) rfl)) (fun _ h9 => h9) rfl dX8_years_70 ?_
            refine lv_ldc2 (v := 6364136223846793005) hx hb hown (hts (.constantLong RX8 215 (6364136223846793005)) (List.mem_of_getElem? (i := 5) rfl)) dX8_years_73 ?_
            refine lv_lmul hx hb dX8_years_76 ?_
            refine lv_ldc2 (v := 1442695040888963407) hx hb hown (hts (.constantLong RX8 217 (1442695040888963407)) (List.mem_of_getElem? (i := 6) rfl)) dX8_years_77 ?_
            refine lv_ladd hx hb dX8_years_80 ?_
            refine kb_put (ty := .long) (v := .long (((L8b.2.2 28) * (6364136223846793005 : Int64)) + (1442695040888963407 : Int64))) (WS' := (w_O8 G g (oL L8b 28 (((L8b.2.2 28) * (6364136223846793005 : Int64)) + (1442695040888963407 : Int64))))) hx hb hts hin8 tyX8 tyX8_ok nmX8 hown hK hH 0 rfl rfl 28 (by decide) (hts (.fieldLink RX8 209 "CockWarModel" "seed" "J") (List.mem_of_getElem? (i := 4) rfl)) (fun _ h9 => h9) rfl (by decide +kernel) rfl rfl (Nat.le_of_ble_eq_true rfl) rfl dX8_years_81 (fun H locs hH => ?_)
            refine lv_aload_n hx hb dX8_years_84 rfl (lv_at hl 3 rfl) ?_
            refine kb_get (v := .long (((L8b.2.2 28) * (6364136223846793005 : Int64)) + (1442695040888963407 : Int64))) hx hb hts hin8 hown hK hH 0 rfl rfl rfl 28 (by decide) (hts (.fieldLink RX8 209 "CockWarModel" "seed" "J") (List.mem_of_getElem? (i := 4) rfl)) (fun _ h9 => h9) rfl dX8_years_85 ?_
            refine lv_bipush (v := 33) hx hb dX8_years_88 (by decide) ?_
            refine lv_lushr (v := (((((L8b.2.2 28) * (6364136223846793005 : Int64)) + (1442695040888963407 : Int64)).toUInt64 >>> ((33 : Int32).toInt64.toUInt64 &&& Int64.toUInt64 63)).toInt64)) hx hb dX8_years_90 rfl ?_
            refine lv_iload_n hx hb dX8_years_91 rfl (lv_at hl 2 rfl) ?_
            refine lv_i2l (v := (SFL4.toInt64)) hx hb dX8_years_92 rfl ?_
            obtain ⟨hz11, hD⟩ := hD
            refine lv_lrem hx hb dX8_years_93 hz11 ?_
            refine lv_l2i (v := (((((((L8b.2.2 28) * (6364136223846793005 : Int64)) + (1442695040888963407 : Int64)).toUInt64 >>> ((33 : Int32).toInt64.toUInt64 &&& Int64.toUInt64 63)).toInt64) - (((((L8b.2.2 28) * (6364136223846793005 : Int64)) + (1442695040888963407 : Int64)).toUInt64 >>> ((33 : Int32).toInt64.toUInt64 &&& Int64.toUInt64 63)).toInt64) / (SFL4.toInt64) * (SFL4.toInt64)).toInt32)) hx hb dX8_years_94 rfl ?_
            refine lv_istore (lv' := [(5, .int (((((((L8b.2.2 28) * (6364136223846793005 : Int64)) + (1442695040888963407 : Int64)).toUInt64 >>> ((33 : Int32).toInt64.toUInt64 &&& Int64.toUInt64 63)).toInt64) - (((((L8b.2.2 28) * (6364136223846793005 : Int64)) + (1442695040888963407 : Int64)).toUInt64 >>> ((33 : Int32).toInt64.toUInt64 &&& Int64.toUInt64 63)).toInt64) / (SFL4.toInt64) * (SFL4.toInt64)).toInt32)), (4, .int (nI iL8)), (3, .int L8a), (2, .int SFL4), (0, .ref (g 0)), (1, .int x0)]) hx hb dX8_years_95 hl (by decide) rfl (fun ls hl => ?_)
            refine lv_iconst (v := 0) hx hb dX8_years_97 (by decide) ?_
            refine lv_istore (lv' := [(6, .int (0 : Int32)), (5, .int (((((((L8b.2.2 28) * (6364136223846793005 : Int64)) + (1442695040888963407 : Int64)).toUInt64 >>> ((33 : Int32).toInt64.toUInt64 &&& Int64.toUInt64 63)).toInt64) - (((((L8b.2.2 28) * (6364136223846793005 : Int64)) + (1442695040888963407 : Int64)).toUInt64 >>> ((33 : Int32).toInt64.toUInt64 &&& Int64.toUInt64 63)).toInt64) / (SFL4.toInt64) * (SFL4.toInt64)).toInt32)), (4, .int (nI iL8)), (3, .int L8a), (2, .int SFL4), (0, .ref (g 0)), (1, .int x0)]) hx hb dX8_years_98 hl (by decide) rfl (fun ls hl => ?_)
            obtain ⟨hDlL12, hD⟩ := hD
            obtain ⟨SFL12, hSFL12⟩ : ∃ z, z = (lpw (f_X8_years_L12 L8b) 70 ((0 : Int32), (((((((L8b.2.2 28) * (6364136223846793005 : Int64)) + (1442695040888963407 : Int64)).toUInt64 >>> ((33 : Int32).toInt64.toUInt64 &&& Int64.toUInt64 63)).toInt64) - (((((L8b.2.2 28) * (6364136223846793005 : Int64)) + (1442695040888963407 : Int64)).toUInt64 >>> ((33 : Int32).toInt64.toUInt64 &&& Int64.toUInt64 63)).toInt64) / (SFL4.toInt64) * (SFL4.toInt64)).toInt32))) := ⟨_, rfl⟩
            have hBL8 := kAp_eq hBL8 hSFL12
            have hD := kAp_D hD hSFL12
            refine kb_cut (fun H locs ls => HP G A s.heap (w_O8 G g (oL L8b 28 (((L8b.2.2 28) * (6364136223846793005 : Int64)) + (1442695040888963407 : Int64)))) H locs ∧ lv_has ls 7 [(6, .int SFL12.1), (4, .int (nI iL8)), (3, .int L8a), (2, .int SFL4), (0, .ref (g 0)), (1, .int x0)]) 138 [] (fun EXL12 => ?_) (fun H locs ls hX => ?_)
            · refine kb_loop (σ := (Int32 × Int32)) (fun n i x => True ∧ lpw (f_X8_years_L12 L8b) n x = SFL12 ∧ lpwD (f_X8_years_L12 L8b) (d_X8_years_L12 L8b) n x) (fun iL12 x H locs ls => HP G A s.heap (w_O8 G g (oL L8b 28 (((L8b.2.2 28) * (6364136223846793005 : Int64)) + (1442695040888963407 : Int64)))) H locs ∧ lv_has ls 7 [(6, .int x.1), (5, .int x.2), (4, .int (nI iL8)), (3, .int L8a), (2, .int SFL4), (0, .ref (g 0)), (1, .int x0)]) (fun iL12 x H locs ls hI hX => ?_) (fun n iL12 x hI ihL12 H locs ls hX => ?_) 70 0 ((0 : Int32), (((((((L8b.2.2 28) * (6364136223846793005 : Int64)) + (1442695040888963407 : Int64)).toUInt64 >>> ((33 : Int32).toInt64.toUInt64 &&& Int64.toUInt64 63)).toInt64) - (((((L8b.2.2 28) * (6364136223846793005 : Int64)) + (1442695040888963407 : Int64)).toUInt64 >>> ((33 : Int32).toInt64.toUInt64 &&& Int64.toUInt64 63)).toInt64) / (SFL4.toInt64) * (SFL4.toInt64)).toInt32)) _ _ _ ⟨trivial, hSFL12.symm, hDlL12⟩ ⟨hH, lv_sub hl [0, 1, 2, 3, 4, 5, 6] rfl⟩
              · obtain ⟨L12a, L12b⟩ := x
                have hH : HP G A s.heap (w_O8 G g (oL L8b 28 (((L8b.2.2 28) * (6364136223846793005 : Int64)) + (1442695040888963407 : Int64)))) H locs := hX.1
                have hl : lv_has ls 7 [(6, .int L12a), (5, .int L12b), (4, .int (nI iL8)), (3, .int L8a), (2, .int SFL4), (0, .ref (g 0)), (1, .int x0)] := hX.2
                exact absurd hI.2.2 (by simp [lpwD])
              · obtain ⟨L12a, L12b⟩ := x
                have hH : HP G A s.heap (w_O8 G g (oL L8b 28 (((L8b.2.2 28) * (6364136223846793005 : Int64)) + (1442695040888963407 : Int64)))) H locs := hX.1
                have hl : lv_has ls 7 [(6, .int L12a), (5, .int L12b), (4, .int (nI iL8)), (3, .int L8a), (2, .int SFL4), (0, .ref (g 0)), (1, .int x0)] := hX.2
                obtain ⟨hiL12, hs, hDi⟩ := hI
                obtain ⟨hD, hDn⟩ := hDi
                have hD : (vp_in (((3 : Int32) * L12a) + (2 : Int32)) 12 ∧ (¬ (L12b < ((L8b.1 4) (((3 : Int32) * L12a) + (2 : Int32)).toNatClampNeg)) → vp_in (((3 : Int32) * L12a) + (2 : Int32)) 12)) := hD
                obtain ⟨BVL12, hBd⟩ : ∃ z, (f_X8_years_L12 L8b) (L12a, L12b) = z := ⟨_, rfl⟩
                have hBL12 : (if L12b < ((L8b.1 4) (((3 : Int32) * L12a) + (2 : Int32)).toNatClampNeg) then (Sum.inr (L12a, L12b)) else (Sum.inl ((L12a + (1 : Int32)), (L12b - ((L8b.1 4) (((3 : Int32) * L12a) + (2 : Int32)).toNatClampNeg))))) = BVL12 := hBd
                refine lv_iload hx hb dX8_years_100 (lv_at hl 1 rfl) ?_
                refine lv_aload_n hx hb dX8_years_102 rfl (lv_at hl 5 rfl) ?_
                refine kb_get (v := .ref (g 5)) hx hb hts hin8 hown hK hH 0 rfl rfl rfl 4 (by decide) (hts (.fieldLink RX8 16 "CockWarModel" "wind" "[I") (List.mem_of_getElem? (i := 3) rfl)) (fun _ h9 => h9) rfl dX8_years_103 ?_
                refine lv_iconst (v := 3) hx hb dX8_years_106 (by decide) ?_
                refine lv_iload hx hb dX8_years_107 (lv_at hl 0 rfl) ?_
                refine lv_imul hx hb dX8_years_109 ?_
                refine lv_iconst (v := 2) hx hb dX8_years_110 (by decide) ?_
                refine lv_iadd hx hb dX8_years_111 ?_
                obtain ⟨hz13, hD⟩ := hD
                refine kb_iald (f := (L8b.1 4)) hx hb hK hH 3 rfl hz13 dX8_years_112 ?_
                refine lv_icmp_lt (tgt := 138) hx hb dX8_years_113 (by decide) (fun c14 => ?_) (fun c14 => ?_)
                · rw [if_pos c14] at hBL12
                  have hs := lpw_r hs (hBd.trans hBL12.symm)
                  exact EXL12 _ _ _ ⟨by subst hs; exact hH, by subst hs; exact lv_sub hl [0, 2, 3, 4, 5, 6] rfl⟩
                · have hD := hD c14
                  rw [if_neg c14] at hBL12
                  refine lv_iload hx hb dX8_years_116 (lv_at hl 1 rfl) ?_
                  refine lv_aload_n hx hb dX8_years_118 rfl (lv_at hl 5 rfl) ?_
                  refine kb_get (v := .ref (g 5)) hx hb hts hin8 hown hK hH 0 rfl rfl rfl 4 (by decide) (hts (.fieldLink RX8 16 "CockWarModel" "wind" "[I") (List.mem_of_getElem? (i := 3) rfl)) (fun _ h9 => h9) rfl dX8_years_119 ?_
                  refine lv_iconst (v := 3) hx hb dX8_years_122 (by decide) ?_
                  refine lv_iload hx hb dX8_years_123 (lv_at hl 0 rfl) ?_
                  refine lv_imul hx hb dX8_years_125 ?_
                  refine lv_iconst (v := 2) hx hb dX8_years_126 (by decide) ?_
                  refine lv_iadd hx hb dX8_years_127 ?_
                  have hz15 := hD
                  refine kb_iald (f := (L8b.1 4)) hx hb hK hH 3 rfl hz15 dX8_years_128 ?_
                  refine lv_isub hx hb dX8_years_129 ?_
                  refine lv_istore (lv' := [(5, .int (L12b - ((L8b.1 4) (((3 : Int32) * L12a) + (2 : Int32)).toNatClampNeg))), (6, .int L12a), (4, .int (nI iL8)), (3, .int L8a), (2, .int SFL4), (0, .ref (g 0)), (1, .int x0)]) hx hb dX8_years_130 hl (by decide) rfl (fun ls hl => ?_)
                  refine lv_iinc (v := (L12a + (1 : Int32))) (lv' := [(6, .int (L12a + (1 : Int32))), (5, .int (L12b - ((L8b.1 4) (((3 : Int32) * L12a) + (2 : Int32)).toNatClampNeg))), (4, .int (nI iL8)), (3, .int L8a), (2, .int SFL4), (0, .ref (g 0)), (1, .int x0)]) hx hb dX8_years_132 hl (k := 1) rfl rfl (by decide) rfl (fun ls hl => ?_)
                  refine lv_goto (tgt := 100) hx hb dX8_years_135 (by decide) ?_
                  have hs := lpw_l hs (hBd.trans hBL12.symm)
                  have hDn := hDn _ (hBd.trans hBL12.symm)
                  exact ihL12 _ _ _ _ ⟨trivial, hs, hDn⟩ ⟨hH, lv_sub hl [0, 1, 2, 3, 4, 5, 6] rfl⟩
            · obtain ⟨hH, hl⟩ := hX
              refine lv_aload_n hx hb dX8_years_138 rfl (lv_at hl 4 rfl) ?_
              refine lv_iconst (v := 1) hx hb dX8_years_139 (by decide) ?_
              refine lv_iload hx hb dX8_years_140 (lv_at hl 0 rfl) ?_
              have hz18 := hD
              obtain ⟨q17, hq17⟩ : ∃ z, z = (f_X8_blowOn (oL L8b 28 (((L8b.2.2 28) * (6364136223846793005 : Int64)) + (1442695040888963407 : Int64))) (1 : Int32) SFL12.1) := ⟨_, rfl⟩
              have hBL8 := kAp_eq hBL8 hq17
              refine kb_cv hH hA [0, 1, 2, 3, 4, 5, 6, 7, 8, 9, 10, 11, 12, 13, 14] (Wc := (w_O8 G g (oL L8b 28 (((L8b.2.2 28) * (6364136223846793005 : Int64)) + (1442695040888963407 : Int64))))) (Wc' := (w_O8 G g q17)) (WS' := (w_O8 G g q17)) rfl (by decide) rfl rfl (va_runV (As := [.int (1 : Int32), .int SFL12.1]) (rest := []) ⟨hx, hb, hml, hown, hts⟩ (c_X8_blowOn l G g (oL L8b 28 (((L8b.2.2 28) * (6364136223846793005 : Int64)) + (1442695040888963407 : Int64))) (1 : Int32) SFL12.1 hz18 hq17.symm _) (cwV 2 hts gX8_years_X8_blowOn rfl rfl rfl he_X8_blowOn ⟨Nat.le_of_ble_eq_true rfl, Nat.le_of_ble_eq_true rfl⟩) (kb_preV hH hK hN [0, 1, 2, 3, 4, 5, 6, 7, 8, 9, 10, 11, 12, 13, 14] rfl (by decide) 0 rfl rfl rfl rfl) rfl rfl hl.1 rfl (lv_room (Nat.le_of_ble_eq_true rfl)) dX8_years_142 ⟨Nat.le_of_ble_eq_true rfl, Nat.le_of_ble_eq_true rfl⟩) (fun H locs hH => ?_)
              refine lv_iload_n hx hb dX8_years_145 rfl (lv_at hl 2 rfl) ?_
              refine lv_aload_n hx hb dX8_years_146 rfl (lv_at hl 4 rfl) ?_
              refine kb_get (v := .ref (g 6)) hx hb hts hin8 hown hK hH 0 rfl rfl rfl 5 (by decide) (hts (.fieldLink RX8 19 "CockWarModel" "now" "[I") (List.mem_of_getElem? (i := 7) rfl)) (fun _ h9 => h9) rfl dX8_years_147 ?_
              refine lv_bipush (v := 52) hx hb dX8_years_150 (by decide) ?_
              refine kb_iald (f := (q17.1 5)) hx hb hK hH 4 rfl (show ¬ ((52 : Int32) < 0 ∨ 54 ≤ (52 : Int32).toNatClampNeg) by decide) dX8_years_152 ?_
              refine lv_if_ne (tgt := 160) hx hb dX8_years_153 (by decide) (fun c19 => ?_) (fun c19 => ?_)
              · rw [if_neg c19] at hBL8
                refine lv_iconst (v := 0) hx hb dX8_years_160 (by decide) ?_
                refine lv_iadd hx hb dX8_years_161 ?_
                refine lv_istore_n (lv' := [(3, .int (L8a + (0 : Int32))), (6, .int SFL12.1), (4, .int (nI iL8)), (2, .int SFL4), (0, .ref (g 0)), (1, .int x0)]) hx hb dX8_years_162 rfl hl (by decide) rfl (fun ls hl => ?_)
                refine lv_iinc (v := (nI (iL8 + 1))) (lv' := [(4, .int (nI (iL8 + 1))), (3, .int (L8a + (0 : Int32))), (6, .int SFL12.1), (2, .int SFL4), (0, .ref (g 0)), (1, .int x0)]) hx hb dX8_years_163 hl (k := 2) rfl (nI_1 _) (by decide) rfl (fun ls hl => ?_)
                refine lv_goto (tgt := 55) hx hb dX8_years_166 (by decide) ?_
                have hs := lpb_l hs (hBd.trans hBL8.symm)
                have hDn := hDn _ (hBd.trans hBL8.symm)
                exact ihL8 _ _ _ _ ⟨by omega, hs, hDn⟩ ⟨hH, lv_sub hl [0, 1, 3, 4, 5] rfl⟩
              · rw [if_pos c19] at hBL8
                refine lv_iconst (v := 1) hx hb dX8_years_156 (by decide) ?_
                refine lv_goto (tgt := 161) hx hb dX8_years_157 (by decide) ?_
                refine lv_iadd hx hb dX8_years_161 ?_
                refine lv_istore_n (lv' := [(3, .int (L8a + (1 : Int32))), (6, .int SFL12.1), (4, .int (nI iL8)), (2, .int SFL4), (0, .ref (g 0)), (1, .int x0)]) hx hb dX8_years_162 rfl hl (by decide) rfl (fun ls hl => ?_)
                refine lv_iinc (v := (nI (iL8 + 1))) (lv' := [(4, .int (nI (iL8 + 1))), (3, .int (L8a + (1 : Int32))), (6, .int SFL12.1), (2, .int SFL4), (0, .ref (g 0)), (1, .int x0)]) hx hb dX8_years_163 hl (k := 2) rfl (nI_1 _) (by decide) rfl (fun ls hl => ?_)
                refine lv_goto (tgt := 55) hx hb dX8_years_166 (by decide) ?_
                have hs := lpb_l hs (hBd.trans hBL8.symm)
                have hDn := hDn _ (hBd.trans hBL8.symm)
                exact ihL8 _ _ _ _ ⟨by omega, hs, hDn⟩ ⟨hH, lv_sub hl [0, 1, 3, 4, 5] rfl⟩
      · obtain ⟨hH, hl⟩ := hX
        refine lv_iload_n hx hb dX8_years_169 rfl (lv_at hl 0 rfl) ?_
        subst hF
        exact kb_iret hx hb hr hH rfl rfl dX8_years_170 hlocks
  · rw [if_pos c1] at hF
    refine lv_bipush (v := -2) hx hb dX8_years_12 (by decide) ?_
    subst hF
    exact kb_iret hx hb hr hH rfl rfl dX8_years_14 hlocks
def f_X8_keep_L3 (x0 : Int32) (iL3 : Nat) (s : (OV)) : (OV) := (oA s 30 (upd (s.1 30) (((27 : Int32) * x0) + (nI iL3)).toNatClampNeg ((s.1 5) (nI iL3).toNatClampNeg)))
def d_X8_keep_L3 (x0 : Int32) (iL3 : Nat) (s : (OV)) : Prop := vp_in (((27 : Int32) * x0) + (nI iL3)) 54
def f_X8_keep (V : OV) (x0 : Int32) : (Int32 × OV) := (if (f_X8_in (x0.toInt64) (0 : Int64) (1 : Int64)) = 0 then ((-1 : Int32), V) else (kAp (lpu (f_X8_keep_L3 x0) (cN (27 : Int32)) 0 (oA V 29 (upd (V.1 29) (x0).toNatClampNeg (vp_nar .boolean (1 : Int32))))) (fun z6 => (((z6.1 5) (26 : Int32).toNatClampNeg), z6))))
def d_X8_keep (V : OV) (x0 : Int32) : Prop := (¬ ((f_X8_in (x0.toInt64) (0 : Int64) (1 : Int64)) = 0) → (vp_in x0 2 ∧ (lpuD (f_X8_keep_L3 x0) (d_X8_keep_L3 x0) (cN (27 : Int32)) 0 (oA V 29 (upd (V.1 29) (x0).toNatClampNeg (vp_nar .boolean (1 : Int32)))))))
set_option maxHeartbeats 4000000 in
set_option maxRecDepth 100000 in
theorem c_X8_keep (l : Launch) (G : Ge) (g : Nat → Nat) (V : OV) (x0 : Int32) (hD : d_X8_keep V x0) {F : (Int32 × OV)} (hF : f_X8_keep V x0 = F) : CI l yX8_keep wsX8_keep { frames := 1, cells := 0, slots := 0, locals := 25 } [.ref (g 0), .int x0] G (w_O8 G g V) (w_O8 G g F.2) F.1 := by
  intro sz
  refine Met.ofW (cc := cX8_keep) (maxL := 3) (ret := (some .int)) (by decide) rfl ?_
  intro p e s m args below meth c s₁ B hml hv
  obtain ⟨rfl, hpre⟩ := hv
  obtain ⟨hsz, hH, hK, hN, hA⟩ := kb_start hpre
  subst hsz
  have hx := B.exec
  have hb := B.bytes
  have hr := B.returns
  have hts := atoms_spec (ws := wsX8_keep) B.pre
  have hown : s.vm.findClass RX8 = some m.cls := findClass_of_methodNamed B.named
  have hlocks := B.notSynchronized
  generalize hAe : va_A (List.flatten (w_O8 G g V)) s.heap.size = A at hH hA ⊢
  have hl := lv_entry ([.ref (g 0), .int x0]) (n := 3) (Nat.le_of_ble_eq_true rfl)
  rw [lg_entry_eq]
  generalize (lg_sl ([.ref (g 0), .int x0]) ++ List.replicate (3 - (lg_sl ([.ref (g 0), .int x0])).length) Slot.unset).toArray = ls at hl ⊢
  have hl : lv_has ls 3 [(0, .ref (g 0)), (1, .int x0)] := hl
  have hH : HP G A s.heap (w_O8 G g V) s.heap [] := hH
  have hin8 : ∀ w ∈ u_ws RX8 TX8 31, w ∈ wsX8_keep := fun w h => List.mem_cons_of_mem _ (List.mem_append_right _ h)
  have hF : (if (f_X8_in (x0.toInt64) (0 : Int64) (1 : Int64)) = 0 then ((-1 : Int32), V) else (kAp (lpu (f_X8_keep_L3 x0) (cN (27 : Int32)) 0 (oA V 29 (upd (V.1 29) (x0).toNatClampNeg (vp_nar .boolean (1 : Int32))))) (fun z6 => (((z6.1 5) (26 : Int32).toNatClampNeg), z6)))) = F := hF
  have hD : (¬ ((f_X8_in (x0.toInt64) (0 : Int64) (1 : Int64)) = 0) → (vp_in x0 2 ∧ (lpuD (f_X8_keep_L3 x0) (d_X8_keep_L3 x0) (cN (27 : Int32)) 0 (oA V 29 (upd (V.1 29) (x0).toNatClampNeg (vp_nar .boolean (1 : Int32))))))) := hD
  refine lv_iload_n hx hb dX8_keep_0 rfl (lv_at hl 1 rfl) ?_
  refine lv_i2l (v := (x0.toInt64)) hx hb dX8_keep_1 rfl ?_
  refine lv_lconst (v := 0) hx hb dX8_keep_2 (by decide) ?_
  refine lv_lconst (v := 1) hx hb dX8_keep_3 (by decide) ?_
  refine kb_ci hH hA [] (Wc := ([] : List va_W)) (Wc' := ([] : List va_W)) (WS' := (w_O8 G g V)) rfl (by decide) rfl rfl (va_runS (As := [.long (x0.toInt64), .long (0 : Int64), .long (1 : Int64)]) (rest := []) ⟨hx, hb, hml, hown, hts⟩ (c_X8_in l G (x0.toInt64) (0 : Int64) (1 : Int64) rfl _) (va_cwS 3 hts gX8_keep_X8_in rfl rfl rfl hd_X8_in ⟨Nat.le_of_ble_eq_true rfl, Nat.le_of_ble_eq_true rfl⟩) (kb_preS hH hK hN [] rfl (by decide)) rfl rfl hl.1 rfl (lv_room (Nat.le_of_ble_eq_true rfl)) dX8_keep_4 ⟨Nat.le_of_ble_eq_true rfl, Nat.le_of_ble_eq_true rfl⟩) (fun H locs hH => ?_)
  refine lv_if_ne (tgt := 12) hx hb dX8_keep_7 (by decide) (fun c1 => ?_) (fun c1 => ?_)
  · have hD := hD c1
    rw [if_neg c1] at hF
    refine lv_aload_n hx hb dX8_keep_12 rfl (lv_at hl 0 rfl) ?_
    refine kb_get (v := .ref (g 30)) hx hb hts hin8 hown hK hH 0 rfl rfl rfl 29 (by decide) (hts (.fieldLink RX8 46 "CockWarModel" "isKept" "[Z") (List.mem_of_getElem? (i := 1) rfl)) (fun _ h9 => h9) rfl dX8_keep_13 ?_
    refine lv_iload_n hx hb dX8_keep_16 rfl (lv_at hl 1 rfl) ?_
    refine lv_iconst (v := 1) hx hb dX8_keep_17 (by decide) ?_
    obtain ⟨hz2, hD⟩ := hD
    refine kb_zast (WS' := (w_O8 G g (oA V 29 (upd (V.1 29) (x0).toNatClampNeg (vp_nar .boolean (1 : Int32)))))) hx hb hK hH 13 rfl hz2 rfl dX8_keep_18 (fun H locs hH => ?_)
    refine lv_iconst (v := 0) hx hb dX8_keep_19 (by decide) ?_
    refine lv_istore_n (lv' := [(2, .int (0 : Int32)), (0, .ref (g 0)), (1, .int x0)]) hx hb dX8_keep_20 rfl hl (by decide) rfl (fun ls hl => ?_)
    have hDlL3 := hD
    obtain ⟨SFL3, hSFL3⟩ : ∃ z, z = (lpu (f_X8_keep_L3 x0) (cN (27 : Int32)) 0 (oA V 29 (upd (V.1 29) (x0).toNatClampNeg (vp_nar .boolean (1 : Int32))))) := ⟨_, rfl⟩
    have hF := kAp_eq hF hSFL3
    refine kb_cut (fun H locs ls => HP G A s.heap (w_O8 G g SFL3) H locs ∧ lv_has ls 3 [(0, .ref (g 0))]) 50 [] (fun EXL3 => ?_) (fun H locs ls hX => ?_)
    · refine kb_loop (σ := (OV)) (fun n i x => n + i = (cN (27 : Int32)) ∧ lpu (f_X8_keep_L3 x0) n i x = SFL3 ∧ lpuD (f_X8_keep_L3 x0) (d_X8_keep_L3 x0) n i x) (fun iL3 x H locs ls => HP G A s.heap (w_O8 G g x) H locs ∧ lv_has ls 3 [(2, .int (nI iL3)), (0, .ref (g 0)), (1, .int x0)]) (fun iL3 x H locs ls hI hX => ?_) (fun n iL3 x hI ihL3 H locs ls hX => ?_) (cN (27 : Int32)) 0 (oA V 29 (upd (V.1 29) (x0).toNatClampNeg (vp_nar .boolean (1 : Int32)))) _ _ _ ⟨Nat.add_zero _, hSFL3.symm, hDlL3⟩ ⟨hH, lv_sub hl [0, 1, 2] rfl⟩
      · obtain ⟨L3a, exL3a⟩ : ∃ z, z = x := ⟨_, rfl⟩
        subst exL3a
        have hH : HP G A s.heap (w_O8 G g L3a) H locs := hX.1
        have hl : lv_has ls 3 [(2, .int (nI iL3)), (0, .ref (g 0)), (1, .int x0)] := hX.2
        obtain ⟨hiL3, hs, _⟩ := hI
        have hiL3 : iL3 = (cN (27 : Int32)) := by omega
        refine lv_iload_n hx hb dX8_keep_21 rfl (lv_at hl 0 rfl) ?_
        refine lv_bipush (v := 27) hx hb dX8_keep_22 (by decide) ?_
        refine lv_icmp_ge (tgt := 50) hx hb dX8_keep_24 (by decide) (fun _ => ?_) (fun c => absurd (cN_end hiL3) c)
        exact EXL3 _ _ _ ⟨by subst hs; exact hH, by subst hs; exact lv_sub hl [1] rfl⟩
      · obtain ⟨L3a, exL3a⟩ : ∃ z, z = x := ⟨_, rfl⟩
        subst exL3a
        have hH : HP G A s.heap (w_O8 G g L3a) H locs := hX.1
        have hl : lv_has ls 3 [(2, .int (nI iL3)), (0, .ref (g 0)), (1, .int x0)] := hX.2
        obtain ⟨hiL3, hs, hDi⟩ := hI
        obtain ⟨hD, hDn⟩ := hDi
        have hD : vp_in (((27 : Int32) * x0) + (nI iL3)) 54 := hD
        have hltL3 : iL3 < (cN (27 : Int32)) := by omega
        obtain ⟨BVL3, hBd⟩ : ∃ z, (f_X8_keep_L3 x0) iL3 L3a = z := ⟨_, rfl⟩
        have hs : lpu (f_X8_keep_L3 x0) n (iL3 + 1) BVL3 = SFL3 := by rw [← hBd]; exact hs
        have hDn : lpuD (f_X8_keep_L3 x0) (d_X8_keep_L3 x0) n (iL3 + 1) BVL3 := by rw [← hBd]; exact hDn
        have hBL3 : (oA L3a 30 (upd (L3a.1 30) (((27 : Int32) * x0) + (nI iL3)).toNatClampNeg ((L3a.1 5) (nI iL3).toNatClampNeg))) = BVL3 := hBd
        refine lv_iload_n hx hb dX8_keep_21 rfl (lv_at hl 0 rfl) ?_
        refine lv_bipush (v := 27) hx hb dX8_keep_22 (by decide) ?_
        refine lv_icmp_ge (tgt := 50) hx hb dX8_keep_24 (by decide) (fun c => absurd c (cN_ge hltL3)) (fun c4 => ?_)
        refine lv_aload_n hx hb dX8_keep_27 rfl (lv_at hl 1 rfl) ?_
        refine kb_get (v := .ref (g 31)) hx hb hts hin8 hown hK hH 0 rfl rfl rfl 30 (by decide) (hts (.fieldLink RX8 50 "CockWarModel" "kept" "[I") (List.mem_of_getElem? (i := 2) rfl)) (fun _ h9 => h9) rfl dX8_keep_28 ?_
        refine lv_bipush (v := 27) hx hb dX8_keep_31 (by decide) ?_
        refine lv_iload_n hx hb dX8_keep_33 rfl (lv_at hl 2 rfl) ?_
        refine lv_imul hx hb dX8_keep_34 ?_
        refine lv_iload_n hx hb dX8_keep_35 rfl (lv_at hl 0 rfl) ?_
        refine lv_iadd hx hb dX8_keep_36 ?_
        refine lv_aload_n hx hb dX8_keep_37 rfl (lv_at hl 1 rfl) ?_
        refine kb_get (v := .ref (g 6)) hx hb hts hin8 hown hK hH 0 rfl rfl rfl 5 (by decide) (hts (.fieldLink RX8 19 "CockWarModel" "now" "[I") (List.mem_of_getElem? (i := 3) rfl)) (fun _ h9 => h9) rfl dX8_keep_38 ?_
        refine lv_iload_n hx hb dX8_keep_41 rfl (lv_at hl 0 rfl) ?_
        refine kb_iald hx hb hK hH 4 rfl (vp_in_nI (Nat.lt_of_lt_of_le hltL3 (by decide)) (by decide)) dX8_keep_42 ?_
        have hz5 := hD
        refine kb_iast (WS' := (w_O8 G g (oA L3a 30 (upd (L3a.1 30) (((27 : Int32) * x0) + (nI iL3)).toNatClampNeg ((L3a.1 5) (nI iL3).toNatClampNeg))))) hx hb hK hH 14 rfl hz5 rfl dX8_keep_43 (fun H locs hH => ?_)
        refine lv_iinc (v := (nI (iL3 + 1))) (lv' := [(2, .int (nI (iL3 + 1))), (0, .ref (g 0)), (1, .int x0)]) hx hb dX8_keep_44 hl (k := 0) rfl (nI_1 _) (by decide) rfl (fun ls hl => ?_)
        refine lv_goto (tgt := 21) hx hb dX8_keep_47 (by decide) ?_
        subst hBL3
        exact ihL3 _ _ _ _ ⟨by omega, hs, hDn⟩ ⟨hH, lv_sub hl [0, 1, 2] rfl⟩
    · obtain ⟨hH, hl⟩ := hX
      refine lv_aload_n hx hb dX8_keep_50 rfl (lv_at hl 0 rfl) ?_
      refine kb_get (v := .ref (g 6)) hx hb hts hin8 hown hK hH 0 rfl rfl rfl 5 (by decide) (hts (.fieldLink RX8 19 "CockWarModel" "now" "[I") (List.mem_of_getElem? (i := 3) rfl)) (fun _ h9 => h9) rfl dX8_keep_51 ?_
      refine lv_bipush (v := 26) hx hb dX8_keep_54 (by decide) ?_
      refine kb_iald hx hb hK hH 4 rfl (show ¬ ((26 : Int32) < 0 ∨ 54 ≤ (26 : Int32).toNatClampNeg) by decide) dX8_keep_56 ?_
      subst hF
      exact kb_iret hx hb hr hH rfl rfl dX8_keep_57 hlocks
  · rw [if_pos c1] at hF
    refine lv_iconst (v := -1) hx hb dX8_keep_10 (by decide) ?_
    subst hF
    exact kb_iret hx hb hr hH rfl rfl dX8_keep_11 hlocks
def f_X8_again_L4 (x0 : Int32) (iL4 : Nat) (s : (OV)) : (OV) := (oA s 5 (upd (s.1 5) (nI iL4).toNatClampNeg ((s.1 30) (((27 : Int32) * x0) + (nI iL4)).toNatClampNeg)))
def d_X8_again_L4 (x0 : Int32) (iL4 : Nat) (s : (OV)) : Prop := vp_in (((27 : Int32) * x0) + (nI iL4)) 54
def f_X8_again (V : OV) (x0 : Int32) : (Int32 × OV) := (if (f_X8_in (x0.toInt64) (0 : Int64) (1 : Int64)) = 0 then ((-1 : Int32), V) else (if ((V.1 29) (x0).toNatClampNeg) = 0 then ((-3 : Int32), V) else (kAp (lpu (f_X8_again_L4 x0) (cN (27 : Int32)) 0 V) (fun z7 => (((z7.1 5) (26 : Int32).toNatClampNeg), (oI z7 18 (0 : Int32)))))))
def d_X8_again (V : OV) (x0 : Int32) : Prop := (¬ ((f_X8_in (x0.toInt64) (0 : Int64) (1 : Int64)) = 0) → (vp_in x0 2 ∧ (¬ (((V.1 29) (x0).toNatClampNeg) = 0) → (lpuD (f_X8_again_L4 x0) (d_X8_again_L4 x0) (cN (27 : Int32)) 0 V))))
set_option maxHeartbeats 4000000 in
set_option maxRecDepth 100000 in
theorem c_X8_again (l : Launch) (G : Ge) (g : Nat → Nat) (V : OV) (x0 : Int32) (hD : d_X8_again V x0) {F : (Int32 × OV)} (hF : f_X8_again V x0 = F) : CI l yX8_again wsX8_again { frames := 1, cells := 0, slots := 0, locals := 25 } [.ref (g 0), .int x0] G (w_O8 G g V) (w_O8 G g F.2) F.1 := by
  intro sz
  refine Met.ofW (cc := cX8_again) (maxL := 3) (ret := (some .int)) (by decide) rfl ?_
  intro p e s m args below meth c s₁ B hml hv
  obtain ⟨rfl, hpre⟩ := hv
  obtain ⟨hsz, hH, hK, hN, hA⟩ := kb_start hpre
  subst hsz
  have hx := B.exec
  have hb := B.bytes
  have hr := B.returns
  have hts := atoms_spec (ws := wsX8_again) B.pre
  have hown : s.vm.findClass RX8 = some m.cls := findClass_of_methodNamed B.named
  have hlocks := B.notSynchronized
  generalize hAe : va_A (List.flatten (w_O8 G g V)) s.heap.size = A at hH hA ⊢
  have hl := lv_entry ([.ref (g 0), .int x0]) (n := 3) (Nat.le_of_ble_eq_true rfl)
  rw [lg_entry_eq]
  generalize (lg_sl ([.ref (g 0), .int x0]) ++ List.replicate (3 - (lg_sl ([.ref (g 0), .int x0])).length) Slot.unset).toArray = ls at hl ⊢
  have hl : lv_has ls 3 [(0, .ref (g 0)), (1, .int x0)] := hl
  have hH : HP G A s.heap (w_O8 G g V) s.heap [] := hH
  have hin8 : ∀ w ∈ u_ws RX8 TX8 31, w ∈ wsX8_again := fun w h => List.mem_cons_of_mem _ (List.mem_append_right _ h)
  have hF : (if (f_X8_in (x0.toInt64) (0 : Int64) (1 : Int64)) = 0 then ((-1 : Int32), V) else (if ((V.1 29) (x0).toNatClampNeg) = 0 then ((-3 : Int32), V) else (kAp (lpu (f_X8_again_L4 x0) (cN (27 : Int32)) 0 V) (fun z7 => (((z7.1 5) (26 : Int32).toNatClampNeg), (oI z7 18 (0 : Int32))))))) = F := hF
  have hD : (¬ ((f_X8_in (x0.toInt64) (0 : Int64) (1 : Int64)) = 0) → (vp_in x0 2 ∧ (¬ (((V.1 29) (x0).toNatClampNeg) = 0) → (lpuD (f_X8_again_L4 x0) (d_X8_again_L4 x0) (cN (27 : Int32)) 0 V)))) := hD
  refine lv_iload_n hx hb dX8_again_0 rfl (lv_at hl 1 rfl) ?_
  refine lv_i2l (v := (x0.toInt64)) hx hb dX8_again_1 rfl ?_
  refine lv_lconst (v := 0) hx hb dX8_again_2 (by decide) ?_
  refine lv_lconst (v := 1) hx hb dX8_again_3 (by decide) ?_
  refine kb_ci hH hA [] (Wc := ([] : List va_W)) (Wc' := ([] : List va_W)) (WS' := (w_O8 G g V)) rfl (by decide) rfl rfl (va_runS (As := [.long (x0.toInt64), .long (0 : Int64), .long (1 : Int64)]) (rest := []) ⟨hx, hb, hml, hown, hts⟩ (c_X8_in l G (x0.toInt64) (0 : Int64) (1 : Int64) rfl _) (va_cwS 3 hts gX8_again_X8_in rfl rfl rfl hd_X8_in ⟨Nat.le_of_ble_eq_true rfl, Nat.le_of_ble_eq_true rfl⟩) (kb_preS hH hK hN [] rfl (by decide)) rfl rfl hl.1 rfl (lv_room (Nat.le_of_ble_eq_true rfl)) dX8_again_4 ⟨Nat.le_of_ble_eq_true rfl, Nat.le_of_ble_eq_true rfl⟩) (fun H locs hH => ?_)
  refine lv_if_ne (tgt := 12) hx hb dX8_again_7 (by decide) (fun c1 => ?_) (fun c1 => ?_)
  · have hD := hD c1
    rw [if_neg c1] at hF
    refine lv_aload_n hx hb dX8_again_12 rfl (lv_at hl 0 rfl) ?_
    refine kb_get (v := .ref (g 30)) hx hb hts hin8 hown hK hH 0 rfl rfl rfl 29 (by decide) (hts (.fieldLink RX8 46 "CockWarModel" "isKept" "[Z") (List.mem_of_getElem? (i := 1) rfl)) (fun _ h9 => h9) rfl dX8_again_13 ?_
    refine lv_iload_n hx hb dX8_again_16 rfl (lv_at hl 1 rfl) ?_
    obtain ⟨hz2, hD⟩ := hD
    refine kb_zald hx hb hK hH 13 rfl hz2 dX8_again_17 ?_
    refine lv_if_ne (tgt := 24) hx hb dX8_again_18 (by decide) (fun c3 => ?_) (fun c3 => ?_)
    · have hD := hD c3
      rw [if_neg c3] at hF
      refine lv_iconst (v := 0) hx hb dX8_again_24 (by decide) ?_
      refine lv_istore_n (lv' := [(2, .int (0 : Int32)), (0, .ref (g 0)), (1, .int x0)]) hx hb dX8_again_25 rfl hl (by decide) rfl (fun ls hl => ?_)
      have hDlL4 := hD
      obtain ⟨SFL4, hSFL4⟩ : ∃ z, z = (lpu (f_X8_again_L4 x0) (cN (27 : Int32)) 0 V) := ⟨_, rfl⟩
      have hF := kAp_eq hF hSFL4
      refine kb_cut (fun H locs ls => HP G A s.heap (w_O8 G g SFL4) H locs ∧ lv_has ls 3 [(0, .ref (g 0))]) 55 [] (fun EXL4 => ?_) (fun H locs ls hX => ?_)
      · refine kb_loop (σ := (OV)) (fun n i x => n + i = (cN (27 : Int32)) ∧ lpu (f_X8_again_L4 x0) n i x = SFL4 ∧ lpuD (f_X8_again_L4 x0) (d_X8_again_L4 x0) n i x) (fun iL4 x H locs ls => HP G A s.heap (w_O8 G g x) H locs ∧ lv_has ls 3 [(2, .int (nI iL4)), (0, .ref (g 0)), (1, .int x0)]) (fun iL4 x H locs ls hI hX => ?_) (fun n iL4 x hI ihL4 H locs ls hX => ?_) (cN (27 : Int32)) 0 V _ _ _ ⟨Nat.add_zero _, hSFL4.symm, hDlL4⟩ ⟨hH, lv_sub hl [0, 1, 2] rfl⟩
        · obtain ⟨L4a, exL4a⟩ : ∃ z, z = x := ⟨_, rfl⟩
          subst exL4a
          have hH : HP G A s.heap (w_O8 G g L4a) H locs := hX.1
          have hl : lv_has ls 3 [(2, .int (nI iL4)), (0, .ref (g 0)), (1, .int x0)] := hX.2
          obtain ⟨hiL4, hs, _⟩ := hI
          have hiL4 : iL4 = (cN (27 : Int32)) := by omega
          refine lv_iload_n hx hb dX8_again_26 rfl (lv_at hl 0 rfl) ?_
          refine lv_bipush (v := 27) hx hb dX8_again_27 (by decide) ?_
          refine lv_icmp_ge (tgt := 55) hx hb dX8_again_29 (by decide) (fun _ => ?_) (fun c => absurd (cN_end hiL4) c)
          exact EXL4 _ _ _ ⟨by subst hs; exact hH, by subst hs; exact lv_sub hl [1] rfl⟩
        · obtain ⟨L4a, exL4a⟩ : ∃ z, z = x := ⟨_, rfl⟩
          subst exL4a
          have hH : HP G A s.heap (w_O8 G g L4a) H locs := hX.1
          have hl : lv_has ls 3 [(2, .int (nI iL4)), (0, .ref (g 0)), (1, .int x0)] := hX.2
          obtain ⟨hiL4, hs, hDi⟩ := hI
          obtain ⟨hD, hDn⟩ := hDi
          have hD : vp_in (((27 : Int32) * x0) + (nI iL4)) 54 := hD
          have hltL4 : iL4 < (cN (27 : Int32)) := by omega
          obtain ⟨BVL4, hBd⟩ : ∃ z, (f_X8_again_L4 x0) iL4 L4a = z := ⟨_, rfl⟩
          have hs : lpu (f_X8_again_L4 x0) n (iL4 + 1) BVL4 = SFL4 := by rw [← hBd]; exact hs
          have hDn : lpuD (f_X8_again_L4 x0) (d_X8_again_L4 x0) n (iL4 + 1) BVL4 := by rw [← hBd]; exact hDn
          have hBL4 : (oA L4a 5 (upd (L4a.1 5) (nI iL4).toNatClampNeg ((L4a.1 30) (((27 : Int32) * x0) + (nI iL4)).toNatClampNeg))) = BVL4 := hBd
          refine lv_iload_n hx hb dX8_again_26 rfl (lv_at hl 0 rfl) ?_
          refine lv_bipush (v := 27) hx hb dX8_again_27 (by decide) ?_
          refine lv_icmp_ge (tgt := 55) hx hb dX8_again_29 (by decide) (fun c => absurd c (cN_ge hltL4)) (fun c5 => ?_)
          refine lv_aload_n hx hb dX8_again_32 rfl (lv_at hl 1 rfl) ?_
          refine kb_get (v := .ref (g 6)) hx hb hts hin8 hown hK hH 0 rfl rfl rfl 5 (by decide) (hts (.fieldLink RX8 19 "CockWarModel" "now" "[I") (List.mem_of_getElem? (i := 2) rfl)) (fun _ h9 => h9) rfl dX8_again_33 ?_
          refine lv_iload_n hx hb dX8_again_36 rfl (lv_at hl 0 rfl) ?_
          refine lv_aload_n hx hb dX8_again_37 rfl (lv_at hl 1 rfl) ?_
          refine kb_get (v := .ref (g 31)) hx hb hts hin8 hown hK hH 0 rfl rfl rfl 30 (by decide) (hts (.fieldLink RX8 50 "CockWarModel" "kept" "[I") (List.mem_of_getElem? (i := 3) rfl)) (fun _ h9 => h9) rfl dX8_again_38 ?_
          refine lv_bipush (v := 27) hx hb dX8_again_41 (by decide) ?_
          refine lv_iload_n hx hb dX8_again_43 rfl (lv_at hl 2 rfl) ?_
          refine lv_imul hx hb dX8_again_44 ?_
          refine lv_iload_n hx hb dX8_again_45 rfl (lv_at hl 0 rfl) ?_
          refine lv_iadd hx hb dX8_again_46 ?_
          have hz6 := hD
          refine kb_iald hx hb hK hH 14 rfl hz6 dX8_again_47 ?_
          refine kb_iast (WS' := (w_O8 G g (oA L4a 5 (upd (L4a.1 5) (nI iL4).toNatClampNeg ((L4a.1 30) (((27 : Int32) * x0) + (nI iL4)).toNatClampNeg))))) hx hb hK hH 4 rfl (vp_in_nI (Nat.lt_of_lt_of_le hltL4 (by decide)) (by decide)) rfl dX8_again_48 (fun H locs hH => ?_)
          refine lv_iinc (v := (nI (iL4 + 1))) (lv' := [(2, .int (nI (iL4 + 1))), (0, .ref (g 0)), (1, .int x0)]) hx hb dX8_again_49 hl (k := 0) rfl (nI_1 _) (by decide) rfl (fun ls hl => ?_)
          refine lv_goto (tgt := 26) hx hb dX8_again_52 (by decide) ?_
          subst hBL4
          exact ihL4 _ _ _ _ ⟨by omega, hs, hDn⟩ ⟨hH, lv_sub hl [0, 1, 2] rfl⟩
      · obtain ⟨hH, hl⟩ := hX
        refine lv_aload_n hx hb dX8_again_55 rfl (lv_at hl 0 rfl) ?_
        refine lv_iconst (v := 0) hx hb dX8_again_56 (by decide) ?_
        refine kb_put (ty := .int) (v := .int (0 : Int32)) (WS' := (w_O8 G g (oI SFL4 18 (0 : Int32)))) hx hb hts hin8 tyX8 tyX8_ok nmX8 hown hK hH 0 rfl rfl 18 (by decide) (hts (.fieldLink RX8 112 "CockWarModel" "acts" "I") (List.mem_of_getElem? (i := 4) rfl)) (fun _ h9 => h9) rfl (by decide +kernel) rfl rfl (Nat.le_of_ble_eq_true rfl) rfl dX8_again_57 (fun H locs hH => ?_)
        refine lv_aload_n hx hb dX8_again_60 rfl (lv_at hl 0 rfl) ?_
        refine kb_get (v := .ref (g 6)) hx hb hts hin8 hown hK hH 0 rfl rfl rfl 5 (by decide) (hts (.fieldLink RX8 19 "CockWarModel" "now" "[I") (List.mem_of_getElem? (i := 2) rfl)) (fun _ h9 => h9) rfl dX8_again_61 ?_
        refine lv_bipush (v := 26) hx hb dX8_again_64 (by decide) ?_
        refine kb_iald hx hb hK hH 4 rfl (show ¬ ((26 : Int32) < 0 ∨ 54 ≤ (26 : Int32).toNatClampNeg) by decide) dX8_again_66 ?_
        subst hF
        exact kb_iret hx hb hr hH rfl rfl dX8_again_67 hlocks
    · rw [if_pos c3] at hF
      refine lv_bipush (v := -3) hx hb dX8_again_21 (by decide) ?_
      subst hF
      exact kb_iret hx hb hr hH rfl rfl dX8_again_23 hlocks
  · rw [if_pos c1] at hF
    refine lv_iconst (v := -1) hx hb dX8_again_10 (by decide) ?_
    subst hF
    exact kb_iret hx hb hr hH rfl rfl dX8_again_11 hlocks
def f_X8_count (V : OV) (x0 : Int32) : (Int32) := (if x0 = (0 : Int32) then (V.2.1 15) else (if x0 = (1 : Int32) then (V.2.1 0) else (if x0 = (2 : Int32) then (V.2.1 1) else (if x0 = (3 : Int32) then ((V.1 5) (25 : Int32).toNatClampNeg) else (if x0 = (4 : Int32) then ((V.1 5) (26 : Int32).toNatClampNeg) else (if x0 = (5 : Int32) then (f_X8_weightOf V (0 : Int32) (0 : Int32) ((V.1 5) (23 : Int32).toNatClampNeg)) else (if x0 = (6 : Int32) then (f_X8_weightOf V (0 : Int32) (1 : Int32) ((V.1 5) (23 : Int32).toNatClampNeg)) else (if x0 = (7 : Int32) then (f_X8_treesNow V) else (if x0 = (8 : Int32) then ((V.1 5) (24 : Int32).toNatClampNeg) else (if x0 = (9 : Int32) then (V.2.1 18) else (if x0 = (10 : Int32) then (V.2.1 25) else (-2 : Int32))))))))))))
def d_X8_count (V : OV) (x0 : Int32) : Prop := (¬ (x0 = (0 : Int32)) → (¬ (x0 = (1 : Int32)) → (¬ (x0 = (2 : Int32)) → (¬ (x0 = (3 : Int32)) → (¬ (x0 = (4 : Int32)) → ((x0 = (5 : Int32) → (d_X8_weightOf V (0 : Int32) (0 : Int32) ((V.1 5) (23 : Int32).toNatClampNeg))) ∧ (¬ (x0 = (5 : Int32)) → ((x0 = (6 : Int32) → (d_X8_weightOf V (0 : Int32) (1 : Int32) ((V.1 5) (23 : Int32).toNatClampNeg))) ∧ (¬ (x0 = (6 : Int32)) → (x0 = (7 : Int32) → (d_X8_treesNow V)))))))))))
set_option maxHeartbeats 4000000 in
set_option maxRecDepth 100000 in
theorem c_X8_count (l : Launch) (G : Ge) (g : Nat → Nat) (V : OV) (x0 : Int32) (hD : d_X8_count V x0) {F : (Int32)} (hF : f_X8_count V x0 = F) : CI l yX8_count wsX8_count { frames := 2, cells := 0, slots := 0, locals := 47 } [.ref (g 0), .int x0] G (w_O8 G g V) (w_O8 G g V) F := by
  intro sz
  refine Met.ofW (cc := cX8_count) (maxL := 2) (ret := (some .int)) (by decide) rfl ?_
  intro p e s m args below meth c s₁ B hml hv
  obtain ⟨rfl, hpre⟩ := hv
  obtain ⟨hsz, hH, hK, hN, hA⟩ := kb_start hpre
  subst hsz
  have hx := B.exec
  have hb := B.bytes
  have hr := B.returns
  have hts := atoms_spec (ws := wsX8_count) B.pre
  have hown : s.vm.findClass RX8 = some m.cls := findClass_of_methodNamed B.named
  have hlocks := B.notSynchronized
  generalize hAe : va_A (List.flatten (w_O8 G g V)) s.heap.size = A at hH hA ⊢
  have hl := lv_entry ([.ref (g 0), .int x0]) (n := 2) (Nat.le_of_ble_eq_true rfl)
  rw [lg_entry_eq]
  generalize (lg_sl ([.ref (g 0), .int x0]) ++ List.replicate (2 - (lg_sl ([.ref (g 0), .int x0])).length) Slot.unset).toArray = ls at hl ⊢
  have hl : lv_has ls 2 [(0, .ref (g 0)), (1, .int x0)] := hl
  have hH : HP G A s.heap (w_O8 G g V) s.heap [] := hH
  have hin8 : ∀ w ∈ u_ws RX8 TX8 31, w ∈ wsX8_count := fun w h => List.mem_cons_of_mem _ (List.mem_append_right _ h)
  have hF : (if x0 = (0 : Int32) then (V.2.1 15) else (if x0 = (1 : Int32) then (V.2.1 0) else (if x0 = (2 : Int32) then (V.2.1 1) else (if x0 = (3 : Int32) then ((V.1 5) (25 : Int32).toNatClampNeg) else (if x0 = (4 : Int32) then ((V.1 5) (26 : Int32).toNatClampNeg) else (if x0 = (5 : Int32) then (f_X8_weightOf V (0 : Int32) (0 : Int32) ((V.1 5) (23 : Int32).toNatClampNeg)) else (if x0 = (6 : Int32) then (f_X8_weightOf V (0 : Int32) (1 : Int32) ((V.1 5) (23 : Int32).toNatClampNeg)) else (if x0 = (7 : Int32) then (f_X8_treesNow V) else (if x0 = (8 : Int32) then ((V.1 5) (24 : Int32).toNatClampNeg) else (if x0 = (9 : Int32) then (V.2.1 18) else (if x0 = (10 : Int32) then (V.2.1 25) else (-2 : Int32)))))))))))) = F := hF
  have hD : (¬ (x0 = (0 : Int32)) → (¬ (x0 = (1 : Int32)) → (¬ (x0 = (2 : Int32)) → (¬ (x0 = (3 : Int32)) → (¬ (x0 = (4 : Int32)) → ((x0 = (5 : Int32) → (d_X8_weightOf V (0 : Int32) (0 : Int32) ((V.1 5) (23 : Int32).toNatClampNeg))) ∧ (¬ (x0 = (5 : Int32)) → ((x0 = (6 : Int32) → (d_X8_weightOf V (0 : Int32) (1 : Int32) ((V.1 5) (23 : Int32).toNatClampNeg))) ∧ (¬ (x0 = (6 : Int32)) → (x0 = (7 : Int32) → (d_X8_treesNow V))))))))))) := hD
  refine lv_iload_n hx hb dX8_count_0 rfl (lv_at hl 1 rfl) ?_
  by_cases c1 : x0 = (0 : Int32)
  · rw [if_pos c1] at hF
    refine lv_tableIn (tgt := 60) (off := 59) hx hb dX8_count_1 (by rw [c1]; decide) (by rw [c1]; decide) (by rw [c1]; rfl) (by decide) ?_
    refine lv_aload_n hx hb dX8_count_60 rfl (lv_at hl 0 rfl) ?_
    refine kb_get (v := .int (V.2.1 15)) hx hb hts hin8 hown hK hH 0 rfl rfl rfl 15 (by decide) (hts (.fieldLink RX8 63 "CockWarModel" "length" "I") (List.mem_of_getElem? (i := 1) rfl)) (fun _ h9 => h9) rfl dX8_count_61 ?_
    subst hF
    exact kb_iret hx hb hr hH rfl rfl dX8_count_64 hlocks
  · have hD := hD c1
    rw [if_neg c1] at hF
    by_cases c2 : x0 = (1 : Int32)
    · rw [if_pos c2] at hF
      refine lv_tableIn (tgt := 65) (off := 64) hx hb dX8_count_1 (by rw [c2]; decide) (by rw [c2]; decide) (by rw [c2]; rfl) (by decide) ?_
      refine lv_aload_n hx hb dX8_count_65 rfl (lv_at hl 0 rfl) ?_
      refine kb_get (v := .int (V.2.1 0)) hx hb hts hin8 hown hK hH 0 rfl rfl rfl 0 (by decide) (hts (.fieldLink RX8 53 "CockWarModel" "cocks" "I") (List.mem_of_getElem? (i := 2) rfl)) (fun _ h9 => h9) rfl dX8_count_66 ?_
      subst hF
      exact kb_iret hx hb hr hH rfl rfl dX8_count_69 hlocks
    · have hD := hD c2
      rw [if_neg c2] at hF
      by_cases c3 : x0 = (2 : Int32)
      · rw [if_pos c3] at hF
        refine lv_tableIn (tgt := 70) (off := 69) hx hb dX8_count_1 (by rw [c3]; decide) (by rw [c3]; decide) (by rw [c3]; rfl) (by decide) ?_
        refine lv_aload_n hx hb dX8_count_70 rfl (lv_at hl 0 rfl) ?_
        refine kb_get (v := .int (V.2.1 1)) hx hb hts hin8 hown hK hH 0 rfl rfl rfl 1 (by decide) (hts (.fieldLink RX8 109 "CockWarModel" "winds" "I") (List.mem_of_getElem? (i := 3) rfl)) (fun _ h9 => h9) rfl dX8_count_71 ?_
        subst hF
        exact kb_iret hx hb hr hH rfl rfl dX8_count_74 hlocks
      · have hD := hD c3
        rw [if_neg c3] at hF
        by_cases c4 : x0 = (3 : Int32)
        · rw [if_pos c4] at hF
          refine lv_tableIn (tgt := 75) (off := 74) hx hb dX8_count_1 (by rw [c4]; decide) (by rw [c4]; decide) (by rw [c4]; rfl) (by decide) ?_
          refine lv_aload_n hx hb dX8_count_75 rfl (lv_at hl 0 rfl) ?_
          refine kb_get (v := .ref (g 6)) hx hb hts hin8 hown hK hH 0 rfl rfl rfl 5 (by decide) (hts (.fieldLink RX8 19 "CockWarModel" "now" "[I") (List.mem_of_getElem? (i := 4) rfl)) (fun _ h9 => h9) rfl dX8_count_76 ?_
          refine lv_bipush (v := 25) hx hb dX8_count_79 (by decide) ?_
          refine kb_iald hx hb hK hH 4 rfl (show ¬ ((25 : Int32) < 0 ∨ 54 ≤ (25 : Int32).toNatClampNeg) by decide) dX8_count_81 ?_
          subst hF
          exact kb_iret hx hb hr hH rfl rfl dX8_count_82 hlocks
        · have hD := hD c4
          rw [if_neg c4] at hF
          by_cases c5 : x0 = (4 : Int32)
          · rw [if_pos c5] at hF
            refine lv_tableIn (tgt := 83) (off := 82) hx hb dX8_count_1 (by rw [c5]; decide) (by rw [c5]; decide) (by rw [c5]; rfl) (by decide) ?_
            refine lv_aload_n hx hb dX8_count_83 rfl (lv_at hl 0 rfl) ?_
            refine kb_get (v := .ref (g 6)) hx hb hts hin8 hown hK hH 0 rfl rfl rfl 5 (by decide) (hts (.fieldLink RX8 19 "CockWarModel" "now" "[I") (List.mem_of_getElem? (i := 4) rfl)) (fun _ h9 => h9) rfl dX8_count_84 ?_
            refine lv_bipush (v := 26) hx hb dX8_count_87 (by decide) ?_
            refine kb_iald hx hb hK hH 4 rfl (show ¬ ((26 : Int32) < 0 ∨ 54 ≤ (26 : Int32).toNatClampNeg) by decide) dX8_count_89 ?_
            subst hF
            exact kb_iret hx hb hr hH rfl rfl dX8_count_90 hlocks
          · have hD := hD c5
            rw [if_neg c5] at hF
            by_cases c6 : x0 = (5 : Int32)
            · have hD := hD.1 c6
              rw [if_pos c6] at hF
              refine lv_tableIn (tgt := 91) (off := 90) hx hb dX8_count_1 (by rw [c6]; decide) (by rw [c6]; decide) (by rw [c6]; rfl) (by decide) ?_
              refine lv_aload_n hx hb dX8_count_91 rfl (lv_at hl 0 rfl) ?_
              refine lv_iconst (v := 0) hx hb dX8_count_92 (by decide) ?_
              refine lv_iconst (v := 0) hx hb dX8_count_93 (by decide) ?_
              refine lv_aload_n hx hb dX8_count_94 rfl (lv_at hl 0 rfl) ?_
              refine kb_get (v := .ref (g 6)) hx hb hts hin8 hown hK hH 0 rfl rfl rfl 5 (by decide) (hts (.fieldLink RX8 19 "CockWarModel" "now" "[I") (List.mem_of_getElem? (i := 4) rfl)) (fun _ h9 => h9) rfl dX8_count_95 ?_
              refine lv_bipush (v := 23) hx hb dX8_count_98 (by decide) ?_
              refine kb_iald hx hb hK hH 4 rfl (show ¬ ((23 : Int32) < 0 ∨ 54 ≤ (23 : Int32).toNatClampNeg) by decide) dX8_count_100 ?_
              have hz7 := hD
              refine kb_ci hH hA [0, 1, 2, 3, 4, 5, 6, 7, 8, 9, 10, 11, 12, 13, 14] (Wc := (w_O8 G g V)) (Wc' := (w_O8 G g V)) (WS' := (w_O8 G g V)) rfl (by decide) rfl rfl (va_runV (As := [.int (0 : Int32), .int (0 : Int32), .int ((V.1 5) (23 : Int32).toNatClampNeg)]) (rest := []) ⟨hx, hb, hml, hown, hts⟩ (c_X8_weightOf l G g V (0 : Int32) (0 : Int32) ((V.1 5) (23 : Int32).toNatClampNeg) hz7 rfl _) (cwV 3 hts gX8_count_X8_weightOf rfl rfl rfl he_X8_weightOf ⟨Nat.le_of_ble_eq_true rfl, Nat.le_of_ble_eq_true rfl⟩) (kb_preV hH hK hN [0, 1, 2, 3, 4, 5, 6, 7, 8, 9, 10, 11, 12, 13, 14] rfl (by decide) 0 rfl rfl rfl rfl) rfl rfl hl.1 rfl (lv_room (Nat.le_of_ble_eq_true rfl)) dX8_count_101 ⟨Nat.le_of_ble_eq_true rfl, Nat.le_of_ble_eq_true rfl⟩) (fun H locs hH => ?_)
              subst hF
              exact kb_iret hx hb hr hH rfl rfl dX8_count_104 hlocks
            · have hD := hD.2 c6
              rw [if_neg c6] at hF
              by_cases c8 : x0 = (6 : Int32)
              · have hD := hD.1 c8
                rw [if_pos c8] at hF
                refine lv_tableIn (tgt := 105) (off := 104) hx hb dX8_count_1 (by rw [c8]; decide) (by rw [c8]; decide) (by rw [c8]; rfl) (by decide) ?_
                refine lv_aload_n hx hb dX8_count_105 rfl (lv_at hl 0 rfl) ?_
                refine lv_iconst (v := 0) hx hb dX8_count_106 (by decide) ?_
                refine lv_iconst (v := 1) hx hb dX8_count_107 (by decide) ?_
                refine lv_aload_n hx hb dX8_count_108 rfl (lv_at hl 0 rfl) ?_
                refine kb_get (v := .ref (g 6)) hx hb hts hin8 hown hK hH 0 rfl rfl rfl 5 (by decide) (hts (.fieldLink RX8 19 "CockWarModel" "now" "[I") (List.mem_of_getElem? (i := 4) rfl)) (fun _ h9 => h9) rfl dX8_count_109 ?_
                refine lv_bipush (v := 23) hx hb dX8_count_112 (by decide) ?_
                refine kb_iald hx hb hK hH 4 rfl (show ¬ ((23 : Int32) < 0 ∨ 54 ≤ (23 : Int32).toNatClampNeg) by decide) dX8_count_114 ?_
                have hz9 := hD
                refine kb_ci hH hA [0, 1, 2, 3, 4, 5, 6, 7, 8, 9, 10, 11, 12, 13, 14] (Wc := (w_O8 G g V)) (Wc' := (w_O8 G g V)) (WS' := (w_O8 G g V)) rfl (by decide) rfl rfl (va_runV (As := [.int (0 : Int32), .int (1 : Int32), .int ((V.1 5) (23 : Int32).toNatClampNeg)]) (rest := []) ⟨hx, hb, hml, hown, hts⟩ (c_X8_weightOf l G g V (0 : Int32) (1 : Int32) ((V.1 5) (23 : Int32).toNatClampNeg) hz9 rfl _) (cwV 3 hts gX8_count_X8_weightOf rfl rfl rfl he_X8_weightOf ⟨Nat.le_of_ble_eq_true rfl, Nat.le_of_ble_eq_true rfl⟩) (kb_preV hH hK hN [0, 1, 2, 3, 4, 5, 6, 7, 8, 9, 10, 11, 12, 13, 14] rfl (by decide) 0 rfl rfl rfl rfl) rfl rfl hl.1 rfl (lv_room (Nat.le_of_ble_eq_true rfl)) dX8_count_115 ⟨Nat.le_of_ble_eq_true rfl, Nat.le_of_ble_eq_true rfl⟩) (fun H locs hH => ?_)
                subst hF
                exact kb_iret hx hb hr hH rfl rfl dX8_count_118 hlocks
              · have hD := hD.2 c8
                rw [if_neg c8] at hF
                by_cases c10 : x0 = (7 : Int32)
                · have hD := hD c10
                  rw [if_pos c10] at hF
                  refine lv_tableIn (tgt := 119) (off := 118) hx hb dX8_count_1 (by rw [c10]; decide) (by rw [c10]; decide) (by rw [c10]; rfl) (by decide) ?_
                  refine lv_aload_n hx hb dX8_count_119 rfl (lv_at hl 0 rfl) ?_
                  have hz11 := hD
                  refine kb_ci hH hA [0, 1, 2, 3, 4, 5, 6, 7, 8, 9, 10, 11, 12, 13, 14] (Wc := (w_O8 G g V)) (Wc' := (w_O8 G g V)) (WS' := (w_O8 G g V)) rfl (by decide) rfl rfl (va_runV (As := []) (rest := []) ⟨hx, hb, hml, hown, hts⟩ (c_X8_treesNow l G g V hz11 rfl _) (cwV 0 hts gX8_count_X8_treesNow rfl rfl rfl he_X8_treesNow ⟨Nat.le_of_ble_eq_true rfl, Nat.le_of_ble_eq_true rfl⟩) (kb_preV hH hK hN [0, 1, 2, 3, 4, 5, 6, 7, 8, 9, 10, 11, 12, 13, 14] rfl (by decide) 0 rfl rfl rfl rfl) rfl rfl hl.1 rfl (lv_room (Nat.le_of_ble_eq_true rfl)) dX8_count_120 ⟨Nat.le_of_ble_eq_true rfl, Nat.le_of_ble_eq_true rfl⟩) (fun H locs hH => ?_)
                  subst hF
                  exact kb_iret hx hb hr hH rfl rfl dX8_count_123 hlocks
                · rw [if_neg c10] at hF
                  by_cases c12 : x0 = (8 : Int32)
                  · rw [if_pos c12] at hF
                    refine lv_tableIn (tgt := 124) (off := 123) hx hb dX8_count_1 (by rw [c12]; decide) (by rw [c12]; decide) (by rw [c12]; rfl) (by decide) ?_
                    refine lv_aload_n hx hb dX8_count_124 rfl (lv_at hl 0 rfl) ?_
                    refine kb_get (v := .ref (g 6)) hx hb hts hin8 hown hK hH 0 rfl rfl rfl 5 (by decide) (hts (.fieldLink RX8 19 "CockWarModel" "now" "[I") (List.mem_of_getElem? (i := 4) rfl)) (fun _ h9 => h9) rfl dX8_count_125 ?_
                    refine lv_bipush (v := 24) hx hb dX8_count_128 (by decide) ?_
                    refine kb_iald hx hb hK hH 4 rfl (show ¬ ((24 : Int32) < 0 ∨ 54 ≤ (24 : Int32).toNatClampNeg) by decide) dX8_count_130 ?_
                    subst hF
                    exact kb_iret hx hb hr hH rfl rfl dX8_count_131 hlocks
                  · rw [if_neg c12] at hF
                    by_cases c13 : x0 = (9 : Int32)
                    · rw [if_pos c13] at hF
                      refine lv_tableIn (tgt := 132) (off := 131) hx hb dX8_count_1 (by rw [c13]; decide) (by rw [c13]; decide) (by rw [c13]; rfl) (by decide) ?_
                      refine lv_aload_n hx hb dX8_count_132 rfl (lv_at hl 0 rfl) ?_
                      refine kb_get (v := .int (V.2.1 18)) hx hb hts hin8 hown hK hH 0 rfl rfl rfl 18 (by decide) (hts (.fieldLink RX8 112 "CockWarModel" "acts" "I") (List.mem_of_getElem? (i := 5) rfl)) (fun _ h9 => h9) rfl dX8_count_133 ?_
                      subst hF
                      exact kb_iret hx hb hr hH rfl rfl dX8_count_136 hlocks
                    · rw [if_neg c13] at hF
                      by_cases c14 : x0 = (10 : Int32)
                      · rw [if_pos c14] at hF
                        refine lv_tableIn (tgt := 137) (off := 136) hx hb dX8_count_1 (by rw [c14]; decide) (by rw [c14]; decide) (by rw [c14]; rfl) (by decide) ?_
                        refine lv_aload_n hx hb dX8_count_137 rfl (lv_at hl 0 rfl) ?_
                        refine kb_get (v := .int (V.2.1 25)) hx hb hts hin8 hown hK hH 0 rfl rfl rfl 25 (by decide) (hts (.fieldLink RX8 189 "CockWarModel" "seen" "I") (List.mem_of_getElem? (i := 6) rfl)) (fun _ h9 => h9) rfl dX8_count_138 ?_
                        subst hF
                        exact kb_iret hx hb hr hH rfl rfl dX8_count_141 hlocks
                      · rw [if_neg c14] at hF
                        refine lv_tableOut (tgt := 142) hx hb dX8_count_1 (by have z0 := lv_neT (a := 0) c1 rfl; have z1 := lv_neT (a := 1) c2 rfl; have z2 := lv_neT (a := 2) c3 rfl; have z3 := lv_neT (a := 3) c4 rfl; have z4 := lv_neT (a := 4) c5 rfl; have z5 := lv_neT (a := 5) c6 rfl; have z6 := lv_neT (a := 6) c8 rfl; have z7 := lv_neT (a := 7) c10 rfl; have z8 := lv_neT (a := 8) c12 rfl; have z9 := lv_neT (a := 9) c13 rfl; have z10 := lv_neT (a := 10) c14 rfl; omega) (by decide) ?_
                        refine lv_bipush (v := -2) hx hb dX8_count_142 (by decide) ?_
                        subst hF
                        exact kb_iret hx hb hr hH rfl rfl dX8_count_144 hlocks
