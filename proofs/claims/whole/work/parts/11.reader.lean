theorem hd_X4_figure : yX4_figure.cls ≠ "java/lang/invoke/MethodHandle" ∧ yX4_figure.cls ≠ "java/lang/invoke/VarHandle" ∧ (parseMethodDescriptor yX4_figure.desc).map (fun d => d.parameters.length) = some 1 := by decide +kernel
theorem he_X4_figure : yX4_figure.cls = RX4 ∧ yX4_figure.cls ≠ "java/lang/invoke/MethodHandle" ∧ yX4_figure.cls ≠ "java/lang/invoke/VarHandle" ∧ (parseMethodDescriptor yX4_figure.desc).map (fun d => d.parameters.length) = some 1 := ⟨rfl, hd_X4_figure⟩
theorem hd_X4_readTree : yX4_readTree.cls ≠ "java/lang/invoke/MethodHandle" ∧ yX4_readTree.cls ≠ "java/lang/invoke/VarHandle" ∧ (parseMethodDescriptor yX4_readTree.desc).map (fun d => d.parameters.length) = some 1 := by decide +kernel
theorem he_X4_readTree : yX4_readTree.cls = RX4 ∧ yX4_readTree.cls ≠ "java/lang/invoke/MethodHandle" ∧ yX4_readTree.cls ≠ "java/lang/invoke/VarHandle" ∧ (parseMethodDescriptor yX4_readTree.desc).map (fun d => d.parameters.length) = some 1 := ⟨rfl, hd_X4_readTree⟩
theorem hd_X4_readCock : yX4_readCock.cls ≠ "java/lang/invoke/MethodHandle" ∧ yX4_readCock.cls ≠ "java/lang/invoke/VarHandle" ∧ (parseMethodDescriptor yX4_readCock.desc).map (fun d => d.parameters.length) = some 0 := by decide +kernel
theorem he_X4_readCock : yX4_readCock.cls = RX4 ∧ yX4_readCock.cls ≠ "java/lang/invoke/MethodHandle" ∧ yX4_readCock.cls ≠ "java/lang/invoke/VarHandle" ∧ (parseMethodDescriptor yX4_readCock.desc).map (fun d => d.parameters.length) = some 0 := ⟨rfl, hd_X4_readCock⟩
theorem hd_X4_readWind : yX4_readWind.cls ≠ "java/lang/invoke/MethodHandle" ∧ yX4_readWind.cls ≠ "java/lang/invoke/VarHandle" ∧ (parseMethodDescriptor yX4_readWind.desc).map (fun d => d.parameters.length) = some 0 := by decide +kernel
theorem he_X4_readWind : yX4_readWind.cls = RX4 ∧ yX4_readWind.cls ≠ "java/lang/invoke/MethodHandle" ∧ yX4_readWind.cls ≠ "java/lang/invoke/VarHandle" ∧ (parseMethodDescriptor yX4_readWind.desc).map (fun d => d.parameters.length) = some 0 := ⟨rfl, hd_X4_readWind⟩
theorem hd_X4_readPart : yX4_readPart.cls ≠ "java/lang/invoke/MethodHandle" ∧ yX4_readPart.cls ≠ "java/lang/invoke/VarHandle" ∧ (parseMethodDescriptor yX4_readPart.desc).map (fun d => d.parameters.length) = some 0 := by decide +kernel
theorem he_X4_readPart : yX4_readPart.cls = RX4 ∧ yX4_readPart.cls ≠ "java/lang/invoke/MethodHandle" ∧ yX4_readPart.cls ≠ "java/lang/invoke/VarHandle" ∧ (parseMethodDescriptor yX4_readPart.desc).map (fun d => d.parameters.length) = some 0 := ⟨rfl, hd_X4_readPart⟩
theorem hd_X4_firstFault : yX4_firstFault.cls ≠ "java/lang/invoke/MethodHandle" ∧ yX4_firstFault.cls ≠ "java/lang/invoke/VarHandle" ∧ (parseMethodDescriptor yX4_firstFault.desc).map (fun d => d.parameters.length) = some 0 := by decide +kernel
theorem he_X4_firstFault : yX4_firstFault.cls = RX4 ∧ yX4_firstFault.cls ≠ "java/lang/invoke/MethodHandle" ∧ yX4_firstFault.cls ≠ "java/lang/invoke/VarHandle" ∧ (parseMethodDescriptor yX4_firstFault.desc).map (fun d => d.parameters.length) = some 0 := ⟨rfl, hd_X4_firstFault⟩
theorem hd_X4_append : yX4_append.cls ≠ "java/lang/invoke/MethodHandle" ∧ yX4_append.cls ≠ "java/lang/invoke/VarHandle" ∧ (parseMethodDescriptor yX4_append.desc).map (fun d => d.parameters.length) = some 1 := by decide +kernel
theorem he_X4_append : yX4_append.cls = RX4 ∧ yX4_append.cls ≠ "java/lang/invoke/MethodHandle" ∧ yX4_append.cls ≠ "java/lang/invoke/VarHandle" ∧ (parseMethodDescriptor yX4_append.desc).map (fun d => d.parameters.length) = some 1 := ⟨rfl, hd_X4_append⟩
def f_X4_figure (V : OV) (x0 : Int32) : (Int32 × OV) := (if (V.2.1 5) = 0 then (if (V.2.1 3) ≤ (V.2.1 4) then ((0 : Int32), (oI V 5 (1 : Int32))) else (if ((f_X7_at 64 (V.1 0) (V.2.1 4)) - (48 : Int32)) < 0 then ((0 : Int32), (oI V 5 (1 : Int32))) else (if (9 : Int32) < ((f_X7_at 64 (V.1 0) (V.2.1 4)) - (48 : Int32)) then ((0 : Int32), (oI V 5 (1 : Int32))) else (if (f_X7_bit x0 ((f_X7_at 64 (V.1 0) (V.2.1 4)) - (48 : Int32))) = 0 then ((0 : Int32), (oI V 5 (1 : Int32))) else (((f_X7_at 64 (V.1 0) (V.2.1 4)) - (48 : Int32)), (oI V 4 ((V.2.1 4) + (1 : Int32)))))))) else ((0 : Int32), (oI V 5 (1 : Int32))))
set_option maxHeartbeats 4000000 in
set_option maxRecDepth 100000 in
theorem c_X4_figure (l : Launch) (G : Ge) (g : Nat → Nat) (a_ground : Nat) (a_air : Nat) (V : OV) (x0 : Int32) {F : (Int32 × OV)} (hF : f_X4_figure V x0 = F) : CI l yX4_figure wsX4_figure { frames := 1, cells := 0, slots := 0, locals := 21 } [.ref (g 0), .int x0] G (w_O4 G g a_ground a_air V) (w_O4 G g a_ground a_air F.2) F.1 := by
  intro sz
  refine Met.ofW (cc := cX4_figure) (maxL := 3) (ret := (some .int)) (by decide) rfl ?_
  intro p e s m args below meth c s₁ B hml hv
  obtain ⟨rfl, hpre⟩ := hv
  obtain ⟨hsz, hH, hK, hN, hA⟩ := kb_start hpre
  subst hsz
  have hx := B.exec
  have hb := B.bytes
  have hr := B.returns
  have hts := atoms_spec (ws := wsX4_figure) B.pre
  have hown : s.vm.findClass RX4 = some m.cls := findClass_of_methodNamed B.named
  have hlocks := B.notSynchronized
  generalize hAe : va_A (List.flatten (w_O4 G g a_ground a_air V)) s.heap.size = A at hH hA ⊢
  have hl := lv_entry ([.ref (g 0), .int x0]) (n := 3) (Nat.le_of_ble_eq_true rfl)
  rw [lg_entry_eq]
  generalize (lg_sl ([.ref (g 0), .int x0]) ++ List.replicate (3 - (lg_sl ([.ref (g 0), .int x0])).length) Slot.unset).toArray = ls at hl ⊢
  have hl : lv_has ls 3 [(0, .ref (g 0)), (1, .int x0)] := hl
  have hH : HP G A s.heap (w_O4 G g a_ground a_air V) s.heap [] := hH
  have hin4 : ∀ w ∈ u_ws RX4 TX4 6, w ∈ wsX4_figure := fun w h => List.mem_cons_of_mem _ (List.mem_append_right _ h)
  have hF : (if (V.2.1 5) = 0 then (if (V.2.1 3) ≤ (V.2.1 4) then ((0 : Int32), (oI V 5 (1 : Int32))) else (if ((f_X7_at 64 (V.1 0) (V.2.1 4)) - (48 : Int32)) < 0 then ((0 : Int32), (oI V 5 (1 : Int32))) else (if (9 : Int32) < ((f_X7_at 64 (V.1 0) (V.2.1 4)) - (48 : Int32)) then ((0 : Int32), (oI V 5 (1 : Int32))) else (if (f_X7_bit x0 ((f_X7_at 64 (V.1 0) (V.2.1 4)) - (48 : Int32))) = 0 then ((0 : Int32), (oI V 5 (1 : Int32))) else (((f_X7_at 64 (V.1 0) (V.2.1 4)) - (48 : Int32)), (oI V 4 ((V.2.1 4) + (1 : Int32)))))))) else ((0 : Int32), (oI V 5 (1 : Int32)))) = F := hF
  refine lv_aload_n hx hb dX4_figure_0 rfl (lv_at hl 0 rfl) ?_
  refine kb_get (v := .ref (g 1)) hx hb hts hin4 hown hK hH 0 rfl rfl rfl 0 (by decide) (hts (.fieldLink RX4 9 "CockWar$Reader" "letters" "[I") (List.mem_of_getElem? (i := 1) rfl)) (fun _ h9 => h9) rfl dX4_figure_1 ?_
  refine lv_aload_n hx hb dX4_figure_4 rfl (lv_at hl 0 rfl) ?_
  refine kb_get (v := .int (V.2.1 4)) hx hb hts hin4 hown hK hH 0 rfl rfl rfl 4 (by decide) (hts (.fieldLink RX4 43 "CockWar$Reader" "place" "I") (List.mem_of_getElem? (i := 2) rfl)) (fun _ h9 => h9) rfl dX4_figure_5 ?_
  refine kb_ci hH hA [1] (Wc := ([b_arr G (g 1) 64 (V.1 0)])) (Wc' := ([b_arr G (g 1) 64 (V.1 0)])) (WS' := (w_O4 G g a_ground a_air V)) rfl (by decide) rfl rfl (va_runSN (As := [.ref (g 1), .int (V.2.1 4)]) (rest := []) ⟨hx, hb, hml, hown, hts⟩ (c_X7_at l G (g 1) 64 (V.1 0) (V.2.1 4) (by decide) rfl _) ⟨va_cnB 2 hts gX4_figure_X7_at_n46 rfl rfl rfl (kb_NM hN 16 rfl) (hts (.initialized RX7) (List.mem_of_getElem? (i := 6) rfl)) hd_X7_at ⟨Nat.le_of_ble_eq_true rfl, Nat.le_of_ble_eq_true rfl⟩, (hts (.static yX7_at) (List.mem_of_getElem? (i := 5) rfl)), trivial⟩ (kb_preS hH hK hN [1] rfl (by decide)) rfl rfl hl.1 rfl (lv_room (Nat.le_of_ble_eq_true rfl)) dX4_figure_8 ⟨Nat.le_of_ble_eq_true rfl, Nat.le_of_ble_eq_true rfl⟩) (fun H locs hH => ?_)
  refine lv_bipush (v := 48) hx hb dX4_figure_11 (by decide) ?_
  refine lv_isub hx hb dX4_figure_13 ?_
  refine lv_istore_n (lv' := [(2, .int ((f_X7_at 64 (V.1 0) (V.2.1 4)) - (48 : Int32))), (0, .ref (g 0)), (1, .int x0)]) hx hb dX4_figure_14 rfl hl (by decide) rfl (fun ls hl => ?_)
  refine lv_aload_n hx hb dX4_figure_15 rfl (lv_at hl 1 rfl) ?_
  refine kb_get (v := .int (V.2.1 5)) hx hb hts hin4 hown hK hH 0 rfl rfl rfl 5 (by decide) (hts (.fieldLink RX4 50 "CockWar$Reader" "broken" "Z") (List.mem_of_getElem? (i := 3) rfl)) (fun _ h9 => h9) rfl dX4_figure_16 ?_
  refine lv_if_ne (tgt := 51) hx hb dX4_figure_19 (by decide) (fun c1 => ?_) (fun c1 => ?_)
  · rw [if_neg c1] at hF
    refine lv_aload_n hx hb dX4_figure_51 rfl (lv_at hl 1 rfl) ?_
    refine lv_iconst (v := 1) hx hb dX4_figure_52 (by decide) ?_
    refine kb_put (ty := .boolean) (v := .int (1 : Int32)) (WS' := (w_O4 G g a_ground a_air (oI V 5 (1 : Int32)))) hx hb hts hin4 tyX4 tyX4_ok nmX4 hown hK hH 0 rfl rfl 5 (by decide) (hts (.fieldLink RX4 50 "CockWar$Reader" "broken" "Z") (List.mem_of_getElem? (i := 3) rfl)) (fun _ h9 => h9) rfl (by decide +kernel) (kb_nar _ (Or.inr rfl)) (kb_fit _ (Or.inr rfl)) (Nat.le_of_ble_eq_true rfl) rfl dX4_figure_53 (fun H locs hH => ?_)
    refine lv_iconst (v := 0) hx hb dX4_figure_56 (by decide) ?_
    subst hF
    exact kb_iret hx hb hr hH rfl rfl dX4_figure_57 hlocks
  · rw [if_pos c1] at hF
    refine lv_aload_n hx hb dX4_figure_22 rfl (lv_at hl 1 rfl) ?_
    refine kb_get (v := .int (V.2.1 4)) hx hb hts hin4 hown hK hH 0 rfl rfl rfl 4 (by decide) (hts (.fieldLink RX4 43 "CockWar$Reader" "place" "I") (List.mem_of_getElem? (i := 2) rfl)) (fun _ h9 => h9) rfl dX4_figure_23 ?_
    refine lv_aload_n hx hb dX4_figure_26 rfl (lv_at hl 1 rfl) ?_
    refine kb_get (v := .int (V.2.1 3)) hx hb hts hin4 hown hK hH 0 rfl rfl rfl 3 (by decide) (hts (.fieldLink RX4 29 "CockWar$Reader" "length" "I") (List.mem_of_getElem? (i := 4) rfl)) (fun _ h9 => h9) rfl dX4_figure_27 ?_
    refine lv_icmp_ge (tgt := 51) hx hb dX4_figure_30 (by decide) (fun c2 => ?_) (fun c2 => ?_)
    · rw [if_pos c2] at hF
      refine lv_aload_n hx hb dX4_figure_51 rfl (lv_at hl 1 rfl) ?_
      refine lv_iconst (v := 1) hx hb dX4_figure_52 (by decide) ?_
      refine kb_put (ty := .boolean) (v := .int (1 : Int32)) (WS' := (w_O4 G g a_ground a_air (oI V 5 (1 : Int32)))) hx hb hts hin4 tyX4 tyX4_ok nmX4 hown hK hH 0 rfl rfl 5 (by decide) (hts (.fieldLink RX4 50 "CockWar$Reader" "broken" "Z") (List.mem_of_getElem? (i := 3) rfl)) (fun _ h9 => h9) rfl (by decide +kernel) (kb_nar _ (Or.inr rfl)) (kb_fit _ (Or.inr rfl)) (Nat.le_of_ble_eq_true rfl) rfl dX4_figure_53 (fun H locs hH => ?_)
      refine lv_iconst (v := 0) hx hb dX4_figure_56 (by decide) ?_
      subst hF
      exact kb_iret hx hb hr hH rfl rfl dX4_figure_57 hlocks
    · rw [if_neg c2] at hF
      refine lv_iload_n hx hb dX4_figure_33 rfl (lv_at hl 0 rfl) ?_
      refine lv_if_lt (tgt := 51) hx hb dX4_figure_34 (by decide) (fun c3 => ?_) (fun c3 => ?_)
      · rw [if_pos c3] at hF
        refine lv_aload_n hx hb dX4_figure_51 rfl (lv_at hl 1 rfl) ?_
        refine lv_iconst (v := 1) hx hb dX4_figure_52 (by decide) ?_
        refine kb_put (ty := .boolean) (v := .int (1 : Int32)) (WS' := (w_O4 G g a_ground a_air (oI V 5 (1 : Int32)))) hx hb hts hin4 tyX4 tyX4_ok nmX4 hown hK hH 0 rfl rfl 5 (by decide) (hts (.fieldLink RX4 50 "CockWar$Reader" "broken" "Z") (List.mem_of_getElem? (i := 3) rfl)) (fun _ h9 => h9) rfl (by decide +kernel) (kb_nar _ (Or.inr rfl)) (kb_fit _ (Or.inr rfl)) (Nat.le_of_ble_eq_true rfl) rfl dX4_figure_53 (fun H locs hH => ?_)
        refine lv_iconst (v := 0) hx hb dX4_figure_56 (by decide) ?_
        subst hF
        exact kb_iret hx hb hr hH rfl rfl dX4_figure_57 hlocks
      · rw [if_neg c3] at hF
        refine lv_iload_n hx hb dX4_figure_37 rfl (lv_at hl 0 rfl) ?_
        refine lv_bipush (v := 9) hx hb dX4_figure_38 (by decide) ?_
        refine lv_icmp_gt (tgt := 51) hx hb dX4_figure_40 (by decide) (fun c4 => ?_) (fun c4 => ?_)
        · rw [if_pos c4] at hF
          refine lv_aload_n hx hb dX4_figure_51 rfl (lv_at hl 1 rfl) ?_
          refine lv_iconst (v := 1) hx hb dX4_figure_52 (by decide) ?_
          refine kb_put (ty := .boolean) (v := .int (1 : Int32)) (WS' := (w_O4 G g a_ground a_air (oI V 5 (1 : Int32)))) hx hb hts hin4 tyX4 tyX4_ok nmX4 hown hK hH 0 rfl rfl 5 (by decide) (hts (.fieldLink RX4 50 "CockWar$Reader" "broken" "Z") (List.mem_of_getElem? (i := 3) rfl)) (fun _ h9 => h9) rfl (by decide +kernel) (kb_nar _ (Or.inr rfl)) (kb_fit _ (Or.inr rfl)) (Nat.le_of_ble_eq_true rfl) rfl dX4_figure_53 (fun H locs hH => ?_)
          refine lv_iconst (v := 0) hx hb dX4_figure_56 (by decide) ?_
          subst hF
          exact kb_iret hx hb hr hH rfl rfl dX4_figure_57 hlocks
        · rw [if_neg c4] at hF
          refine lv_iload_n hx hb dX4_figure_43 rfl (lv_at hl 2 rfl) ?_
          refine lv_iload_n hx hb dX4_figure_44 rfl (lv_at hl 0 rfl) ?_
          refine kb_ci hH hA [] (Wc := ([] : List va_W)) (Wc' := ([] : List va_W)) (WS' := (w_O4 G g a_ground a_air V)) rfl (by decide) rfl rfl (va_runSN (As := [.int x0, .int ((f_X7_at 64 (V.1 0) (V.2.1 4)) - (48 : Int32))]) (rest := []) ⟨hx, hb, hml, hown, hts⟩ (c_X7_bit l G x0 ((f_X7_at 64 (V.1 0) (V.2.1 4)) - (48 : Int32)) rfl _) ⟨va_cnB 2 hts gX4_figure_X7_bit_n92 rfl rfl rfl (kb_NM hN 18 rfl) (hts (.initialized RX7) (List.mem_of_getElem? (i := 6) rfl)) hd_X7_bit ⟨Nat.le_of_ble_eq_true rfl, Nat.le_of_ble_eq_true rfl⟩, (hts (.static yX7_bit) (List.mem_of_getElem? (i := 8) rfl)), trivial⟩ (kb_preS hH hK hN [] rfl (by decide)) rfl rfl hl.1 rfl (lv_room (Nat.le_of_ble_eq_true rfl)) dX4_figure_45 ⟨Nat.le_of_ble_eq_true rfl, Nat.le_of_ble_eq_true rfl⟩) (fun H locs hH => ?_)
          refine lv_if_ne (tgt := 58) hx hb dX4_figure_48 (by decide) (fun c5 => ?_) (fun c5 => ?_)
          · rw [if_neg c5] at hF
            refine lv_aload_n hx hb dX4_figure_58 rfl (lv_at hl 1 rfl) ?_
            refine lv_dup hx hb dX4_figure_59 rfl ?_
            refine kb_get (v := .int (V.2.1 4)) hx hb hts hin4 hown hK hH 0 rfl rfl rfl 4 (by decide) (hts (.fieldLink RX4 43 "CockWar$Reader" "place" "I") (List.mem_of_getElem? (i := 2) rfl)) (fun _ h9 => h9) rfl dX4_figure_60 ?_
            refine lv_iconst (v := 1) hx hb dX4_figure_63 (by decide) ?_
            refine lv_iadd hx hb dX4_figure_64 ?_
            refine kb_put (ty := .int) (v := .int ((V.2.1 4) + (1 : Int32))) (WS' := (w_O4 G g a_ground a_air (oI V 4 ((V.2.1 4) + (1 : Int32))))) hx hb hts hin4 tyX4 tyX4_ok nmX4 hown hK hH 0 rfl rfl 4 (by decide) (hts (.fieldLink RX4 43 "CockWar$Reader" "place" "I") (List.mem_of_getElem? (i := 2) rfl)) (fun _ h9 => h9) rfl (by decide +kernel) rfl rfl (Nat.le_of_ble_eq_true rfl) rfl dX4_figure_65 (fun H locs hH => ?_)
            refine lv_iload_n hx hb dX4_figure_68 rfl (lv_at hl 0 rfl) ?_
            subst hF
            exact kb_iret hx hb hr hH rfl rfl dX4_figure_69 hlocks
          · rw [if_pos c5] at hF
            refine lv_aload_n hx hb dX4_figure_51 rfl (lv_at hl 1 rfl) ?_
            refine lv_iconst (v := 1) hx hb dX4_figure_52 (by decide) ?_
            refine kb_put (ty := .boolean) (v := .int (1 : Int32)) (WS' := (w_O4 G g a_ground a_air (oI V 5 (1 : Int32)))) hx hb hts hin4 tyX4 tyX4_ok nmX4 hown hK hH 0 rfl rfl 5 (by decide) (hts (.fieldLink RX4 50 "CockWar$Reader" "broken" "Z") (List.mem_of_getElem? (i := 3) rfl)) (fun _ h9 => h9) rfl (by decide +kernel) (kb_nar _ (Or.inr rfl)) (kb_fit _ (Or.inr rfl)) (Nat.le_of_ble_eq_true rfl) rfl dX4_figure_53 (fun H locs hH => ?_)
            refine lv_iconst (v := 0) hx hb dX4_figure_56 (by decide) ?_
            subst hF
            exact kb_iret hx hb hr hH rfl rfl dX4_figure_57 hlocks
def f_X4_readTree (V : OV) (V_ground : OV) (x0 : Int32) : (OV × OV) := (kAp (f_X4_figure V x0) (fun q1 => (kAp (f_X4_figure q1.2 (14 : Int32)) (fun q2 => (if (q2.2.2.1 5) = 0 then (kAp (f_X7_put 10 (V_ground.1 0) q1.1 q2.1) (fun q4 => (q2.2, (oA V_ground 0 q4)))) else (q2.2, V_ground))))))
set_option maxHeartbeats 4000000 in
set_option maxRecDepth 100000 in
theorem c_X4_readTree (l : Launch) (G : Ge) (g : Nat → Nat) (a_air : Nat) (V : OV) (g_ground : Nat → Nat) (V_ground : OV) (x0 : Int32) {F : (OV × OV)} (hF : f_X4_readTree V V_ground x0 = F) : CV l yX4_readTree wsX4_readTree { frames := 2, cells := 0, slots := 0, locals := 43 } [.ref (g 0), .int x0] G (w_O4 G g (g_ground 0) a_air V ++ w_O2 G g_ground V_ground) (w_O4 G g (g_ground 0) a_air F.1 ++ w_O2 G g_ground F.2) := by
  intro sz
  refine Met.ofW (cc := cX4_readTree) (maxL := 4) (ret := none) (by decide) rfl ?_
  intro p e s m args below meth c s₁ B hml hv
  obtain ⟨rfl, hpre⟩ := hv
  obtain ⟨hsz, hH, hK, hN, hA⟩ := kb_start hpre
  subst hsz
  have hx := B.exec
  have hb := B.bytes
  have hr := B.returns
  have hts := atoms_spec (ws := wsX4_readTree) B.pre
  have hown : s.vm.findClass RX4 = some m.cls := findClass_of_methodNamed B.named
  have hlocks := B.notSynchronized
  generalize hAe : va_A (List.flatten (w_O4 G g (g_ground 0) a_air V ++ w_O2 G g_ground V_ground)) s.heap.size = A at hH hA ⊢
  have hl := lv_entry ([.ref (g 0), .int x0]) (n := 4) (Nat.le_of_ble_eq_true rfl)
  rw [lg_entry_eq]
  generalize (lg_sl ([.ref (g 0), .int x0]) ++ List.replicate (4 - (lg_sl ([.ref (g 0), .int x0])).length) Slot.unset).toArray = ls at hl ⊢
  have hl : lv_has ls 4 [(0, .ref (g 0)), (1, .int x0)] := hl
  have hH : HP G A s.heap (w_O4 G g (g_ground 0) a_air V ++ w_O2 G g_ground V_ground) s.heap [] := hH
  have hin2 : ∀ w ∈ u_ws RX2 TX2 11, w ∈ wsX4_readTree := fun w h => List.mem_cons_of_mem _ (List.mem_append_right _ h)
  have hin4 : ∀ w ∈ u_ws RX4 TX4 6, w ∈ wsX4_readTree := fun w h => List.mem_cons_of_mem _ (List.mem_append_left _ (List.mem_append_right _ h))
  have hF : (kAp (f_X4_figure V x0) (fun q1 => (kAp (f_X4_figure q1.2 (14 : Int32)) (fun q2 => (if (q2.2.2.1 5) = 0 then (kAp (f_X7_put 10 (V_ground.1 0) q1.1 q2.1) (fun q4 => (q2.2, (oA V_ground 0 q4)))) else (q2.2, V_ground)))))) = F := hF
  refine lv_aload_n hx hb dX4_readTree_0 rfl (lv_at hl 0 rfl) ?_
  refine lv_iload_n hx hb dX4_readTree_1 rfl (lv_at hl 1 rfl) ?_
  obtain ⟨q1, hq1⟩ : ∃ z, z = (f_X4_figure V x0) := ⟨_, rfl⟩
  have hF := kAp_eq hF hq1
  refine kb_ci hH hA [0, 1] (Wc := (w_O4 G g (g_ground 0) a_air V)) (Wc' := (w_O4 G g (g_ground 0) a_air q1.2)) (WS' := (w_O4 G g (g_ground 0) a_air q1.2 ++ w_O2 G g_ground V_ground)) rfl (by decide) rfl rfl (va_runV (As := [.int x0]) (rest := []) ⟨hx, hb, hml, hown, hts⟩ (c_X4_figure l G g (g_ground 0) a_air V x0 hq1.symm _) (cwV 1 hts gX4_readTree_X4_figure rfl rfl rfl he_X4_figure ⟨Nat.le_of_ble_eq_true rfl, Nat.le_of_ble_eq_true rfl⟩) (kb_preV hH hK hN [0, 1] rfl (by decide) 0 rfl rfl rfl rfl) rfl rfl hl.1 rfl (lv_room (Nat.le_of_ble_eq_true rfl)) dX4_readTree_2 ⟨Nat.le_of_ble_eq_true rfl, Nat.le_of_ble_eq_true rfl⟩) (fun H locs hH => ?_)
  refine lv_istore_n (lv' := [(2, .int q1.1), (0, .ref (g 0)), (1, .int x0)]) hx hb dX4_readTree_5 rfl hl (by decide) rfl (fun ls hl => ?_)
  refine lv_aload_n hx hb dX4_readTree_6 rfl (lv_at hl 1 rfl) ?_
  refine lv_bipush (v := 14) hx hb dX4_readTree_7 (by decide) ?_
  obtain ⟨q2, hq2⟩ : ∃ z, z = (f_X4_figure q1.2 (14 : Int32)) := ⟨_, rfl⟩
  have hF := kAp_eq hF hq2
  refine kb_ci hH hA [0, 1] (Wc := (w_O4 G g (g_ground 0) a_air q1.2)) (Wc' := (w_O4 G g (g_ground 0) a_air q2.2)) (WS' := (w_O4 G g (g_ground 0) a_air q2.2 ++ w_O2 G g_ground V_ground)) rfl (by decide) rfl rfl (va_runV (As := [.int (14 : Int32)]) (rest := []) ⟨hx, hb, hml, hown, hts⟩ (c_X4_figure l G g (g_ground 0) a_air q1.2 (14 : Int32) hq2.symm _) (cwV 1 hts gX4_readTree_X4_figure rfl rfl rfl he_X4_figure ⟨Nat.le_of_ble_eq_true rfl, Nat.le_of_ble_eq_true rfl⟩) (kb_preV hH hK hN [0, 1] rfl (by decide) 0 rfl rfl rfl rfl) rfl rfl hl.1 rfl (lv_room (Nat.le_of_ble_eq_true rfl)) dX4_readTree_9 ⟨Nat.le_of_ble_eq_true rfl, Nat.le_of_ble_eq_true rfl⟩) (fun H locs hH => ?_)
  refine lv_istore_n (lv' := [(3, .int q2.1), (2, .int q1.1), (0, .ref (g 0)), (1, .int x0)]) hx hb dX4_readTree_12 rfl hl (by decide) rfl (fun ls hl => ?_)
  refine lv_aload_n hx hb dX4_readTree_13 rfl (lv_at hl 2 rfl) ?_
  refine kb_get (v := .int (q2.2.2.1 5)) hx hb hts hin4 hown hK hH 0 rfl rfl rfl 5 (by decide) (hts (.fieldLink RX4 50 "CockWar$Reader" "broken" "Z") (List.mem_of_getElem? (i := 1) rfl)) (fun _ h9 => h9) rfl dX4_readTree_14 ?_
  refine lv_if_ne (tgt := 32) hx hb dX4_readTree_17 (by decide) (fun c3 => ?_) (fun c3 => ?_)
  · rw [if_neg c3] at hF
    subst hF
    exact kb_vret hx hb hr hH rfl dX4_readTree_32 hlocks
  · rw [if_pos c3] at hF
    refine lv_aload_n hx hb dX4_readTree_20 rfl (lv_at hl 2 rfl) ?_
    refine kb_get (v := .ref (g_ground 0)) hx hb hts hin4 hown hK hH 0 rfl rfl rfl 1 (by decide) (hts (.fieldLink RX4 18 "CockWar$Reader" "ground" "LCockWar$Hill;") (List.mem_of_getElem? (i := 2) rfl)) (fun _ h9 => h9) rfl dX4_readTree_21 ?_
    refine kb_getN (v := .ref (g_ground 1)) hx hb hts hin2 hown hK hH 2 rfl rfl rfl 0 (by decide) (kb_NF hN 1 rfl) (fun _ h9 => h9) rfl dX4_readTree_24 ?_
    refine lv_iload_n hx hb dX4_readTree_27 rfl (lv_at hl 1 rfl) ?_
    refine lv_iload_n hx hb dX4_readTree_28 rfl (lv_at hl 0 rfl) ?_
    obtain ⟨q4, hq4⟩ : ∃ z, z = (f_X7_put 10 (V_ground.1 0) q1.1 q2.1) := ⟨_, rfl⟩
    have hF := kAp_eq hF hq4
    refine kb_cv hH hA [3] (Wc := ([b_arr G (g_ground 1) 10 (V_ground.1 0)])) (Wc' := ([b_arr G (g_ground 1) 10 q4])) (WS' := (w_O4 G g (g_ground 0) a_air q2.2 ++ w_O2 G g_ground (oA V_ground 0 q4))) rfl (by decide) rfl rfl (va_runSN (As := [.ref (g_ground 1), .int q1.1, .int q2.1]) (rest := []) ⟨hx, hb, hml, hown, hts⟩ (c_X7_put l G (g_ground 1) 10 (V_ground.1 0) q1.1 q2.1 (by decide) hq4.symm _) ⟨va_cnB 3 hts gX4_readTree_X7_put_n33 rfl rfl rfl (kb_NM hN 13 rfl) (hts (.initialized RX7) (List.mem_of_getElem? (i := 12) rfl)) hd_X7_put ⟨Nat.le_of_ble_eq_true rfl, Nat.le_of_ble_eq_true rfl⟩, (hts (.static yX7_put) (List.mem_of_getElem? (i := 16) rfl)), trivial⟩ (kb_preS hH hK hN [3] rfl (by decide)) rfl rfl hl.1 rfl (lv_room (Nat.le_of_ble_eq_true rfl)) dX4_readTree_29 ⟨Nat.le_of_ble_eq_true rfl, Nat.le_of_ble_eq_true rfl⟩) (fun H locs hH => ?_)
    subst hF
    exact kb_vret hx hb hr hH rfl dX4_readTree_32 hlocks
def f_X4_readCock (V : OV) (V_ground : OV) : (OV × OV) := (kAp (f_X4_figure V ((1023 : Int32) &&& ((f_X2_takenCells V_ground) ^^^ (-1 : Int32)))) (fun q1 => (kAp (f_X4_figure q1.2 (3 : Int32)) (fun q2 => (kAp (f_X4_figure q2.2 (15 : Int32)) (fun q3 => (kAp (f_X4_figure q3.2 (31 : Int32)) (fun q4 => (kAp (f_X4_figure q4.2 (1022 : Int32)) (fun q5 => (kAp (f_X4_figure q5.2 (3 : Int32)) (fun q6 => (if (q6.2.2.1 5) = 0 then (kAp (f_X2_addCock V_ground q1.1 q2.1 q3.1 q4.1 q5.1 q6.1) (fun q8 => (q6.2, q8))) else (q6.2, V_ground))))))))))))))
set_option maxHeartbeats 4000000 in
set_option maxRecDepth 100000 in
theorem c_X4_readCock (l : Launch) (G : Ge) (g : Nat → Nat) (a_air : Nat) (V : OV) (g_ground : Nat → Nat) (V_ground : OV) {F : (OV × OV)} (hF : f_X4_readCock V V_ground = F) : CV l yX4_readCock wsX4_readCock { frames := 2, cells := 0, slots := 0, locals := 48 } [.ref (g 0)] G (w_O4 G g (g_ground 0) a_air V ++ w_O2 G g_ground V_ground) (w_O4 G g (g_ground 0) a_air F.1 ++ w_O2 G g_ground F.2) := by
  intro sz
  refine Met.ofW (cc := cX4_readCock) (maxL := 7) (ret := none) (by decide) rfl ?_
  intro p e s m args below meth c s₁ B hml hv
  obtain ⟨rfl, hpre⟩ := hv
  obtain ⟨hsz, hH, hK, hN, hA⟩ := kb_start hpre
  subst hsz
  have hx := B.exec
  have hb := B.bytes
  have hr := B.returns
  have hts := atoms_spec (ws := wsX4_readCock) B.pre
  have hown : s.vm.findClass RX4 = some m.cls := findClass_of_methodNamed B.named
  have hlocks := B.notSynchronized
  generalize hAe : va_A (List.flatten (w_O4 G g (g_ground 0) a_air V ++ w_O2 G g_ground V_ground)) s.heap.size = A at hH hA ⊢
  have hl := lv_entry ([.ref (g 0)]) (n := 7) (Nat.le_of_ble_eq_true rfl)
  rw [lg_entry_eq]
  generalize (lg_sl ([.ref (g 0)]) ++ List.replicate (7 - (lg_sl ([.ref (g 0)])).length) Slot.unset).toArray = ls at hl ⊢
  have hl : lv_has ls 7 [(0, .ref (g 0))] := hl
  have hH : HP G A s.heap (w_O4 G g (g_ground 0) a_air V ++ w_O2 G g_ground V_ground) s.heap [] := hH
  have hin4 : ∀ w ∈ u_ws RX4 TX4 6, w ∈ wsX4_readCock := fun w h => List.mem_cons_of_mem _ (List.mem_append_left _ (List.mem_append_right _ h))
  have hF : (kAp (f_X4_figure V ((1023 : Int32) &&& ((f_X2_takenCells V_ground) ^^^ (-1 : Int32)))) (fun q1 => (kAp (f_X4_figure q1.2 (3 : Int32)) (fun q2 => (kAp (f_X4_figure q2.2 (15 : Int32)) (fun q3 => (kAp (f_X4_figure q3.2 (31 : Int32)) (fun q4 => (kAp (f_X4_figure q4.2 (1022 : Int32)) (fun q5 => (kAp (f_X4_figure q5.2 (3 : Int32)) (fun q6 => (if (q6.2.2.1 5) = 0 then (kAp (f_X2_addCock V_ground q1.1 q2.1 q3.1 q4.1 q5.1 q6.1) (fun q8 => (q6.2, q8))) else (q6.2, V_ground)))))))))))))) = F := hF
  refine lv_aload_n hx hb dX4_readCock_0 rfl (lv_at hl 0 rfl) ?_
  refine lv_sipush (v := 1023) hx hb dX4_readCock_1 (by decide) ?_
  refine lv_aload_n hx hb dX4_readCock_4 rfl (lv_at hl 0 rfl) ?_
  refine kb_get (v := .ref (g_ground 0)) hx hb hts hin4 hown hK hH 0 rfl rfl rfl 1 (by decide) (hts (.fieldLink RX4 18 "CockWar$Reader" "ground" "LCockWar$Hill;") (List.mem_of_getElem? (i := 1) rfl)) (fun _ h9 => h9) rfl dX4_readCock_5 ?_
  refine kb_ci hH hA [2, 3, 4, 5, 6, 7] (Wc := (w_O2 G g_ground V_ground)) (Wc' := (w_O2 G g_ground V_ground)) (WS' := (w_O4 G g (g_ground 0) a_air V ++ w_O2 G g_ground V_ground)) rfl (by decide) rfl rfl (va_runVN (C := RX2) (As := []) (rest := [.int (1023 : Int32), .ref (g 0)]) ⟨hx, hb, hml, hown, hts⟩ (c_X2_takenCells l G g_ground V_ground rfl _) ⟨va_cnB 0 hts gX4_readCock_X2_takenCells_n81 rfl rfl rfl (kb_NM hN 19 rfl) (hts (.initialized RX2) (List.mem_of_getElem? (i := 4) rfl)) hd_X2_takenCells ⟨Nat.le_of_ble_eq_true rfl, Nat.le_of_ble_eq_true rfl⟩, (hts (.instanceMethod yX2_takenCells) (List.mem_of_getElem? (i := 3) rfl)), (hts (.selects RX2 yX2_takenCells yX2_takenCells) (List.mem_of_getElem? (i := 5) rfl))⟩ (kb_preV hH hK hN [2, 3, 4, 5, 6, 7] rfl (by decide) 2 rfl rfl rfl rfl) rfl rfl hl.1 rfl (lv_room (Nat.le_of_ble_eq_true rfl)) dX4_readCock_8 ⟨Nat.le_of_ble_eq_true rfl, Nat.le_of_ble_eq_true rfl⟩) (fun H locs hH => ?_)
  refine lv_iconst (v := -1) hx hb dX4_readCock_11 (by decide) ?_
  refine lv_ixor hx hb dX4_readCock_12 ?_
  refine lv_iand hx hb dX4_readCock_13 ?_
  obtain ⟨q1, hq1⟩ : ∃ z, z = (f_X4_figure V ((1023 : Int32) &&& ((f_X2_takenCells V_ground) ^^^ (-1 : Int32)))) := ⟨_, rfl⟩
  have hF := kAp_eq hF hq1
  refine kb_ci hH hA [0, 1] (Wc := (w_O4 G g (g_ground 0) a_air V)) (Wc' := (w_O4 G g (g_ground 0) a_air q1.2)) (WS' := (w_O4 G g (g_ground 0) a_air q1.2 ++ w_O2 G g_ground V_ground)) rfl (by decide) rfl rfl (va_runV (As := [.int ((1023 : Int32) &&& ((f_X2_takenCells V_ground) ^^^ (-1 : Int32)))]) (rest := []) ⟨hx, hb, hml, hown, hts⟩ (c_X4_figure l G g (g_ground 0) a_air V ((1023 : Int32) &&& ((f_X2_takenCells V_ground) ^^^ (-1 : Int32))) hq1.symm _) (cwV 1 hts gX4_readCock_X4_figure rfl rfl rfl he_X4_figure ⟨Nat.le_of_ble_eq_true rfl, Nat.le_of_ble_eq_true rfl⟩) (kb_preV hH hK hN [0, 1] rfl (by decide) 0 rfl rfl rfl rfl) rfl rfl hl.1 rfl (lv_room (Nat.le_of_ble_eq_true rfl)) dX4_readCock_14 ⟨Nat.le_of_ble_eq_true rfl, Nat.le_of_ble_eq_true rfl⟩) (fun H locs hH => ?_)
  refine lv_istore_n (lv' := [(1, .int q1.1), (0, .ref (g 0))]) hx hb dX4_readCock_17 rfl hl (by decide) rfl (fun ls hl => ?_)
  refine lv_aload_n hx hb dX4_readCock_18 rfl (lv_at hl 1 rfl) ?_
  refine lv_iconst (v := 3) hx hb dX4_readCock_19 (by decide) ?_
  obtain ⟨q2, hq2⟩ : ∃ z, z = (f_X4_figure q1.2 (3 : Int32)) := ⟨_, rfl⟩
  have hF := kAp_eq hF hq2
  refine kb_ci hH hA [0, 1] (Wc := (w_O4 G g (g_ground 0) a_air q1.2)) (Wc' := (w_O4 G g (g_ground 0) a_air q2.2)) (WS' := (w_O4 G g (g_ground 0) a_air q2.2 ++ w_O2 G g_ground V_ground)) rfl (by decide) rfl rfl (va_runV (As := [.int (3 : Int32)]) (rest := []) ⟨hx, hb, hml, hown, hts⟩ (c_X4_figure l G g (g_ground 0) a_air q1.2 (3 : Int32) hq2.symm _) (cwV 1 hts gX4_readCock_X4_figure rfl rfl rfl he_X4_figure ⟨Nat.le_of_ble_eq_true rfl, Nat.le_of_ble_eq_true rfl⟩) (kb_preV hH hK hN [0, 1] rfl (by decide) 0 rfl rfl rfl rfl) rfl rfl hl.1 rfl (lv_room (Nat.le_of_ble_eq_true rfl)) dX4_readCock_20 ⟨Nat.le_of_ble_eq_true rfl, Nat.le_of_ble_eq_true rfl⟩) (fun H locs hH => ?_)
  refine lv_istore_n (lv' := [(2, .int q2.1), (1, .int q1.1), (0, .ref (g 0))]) hx hb dX4_readCock_23 rfl hl (by decide) rfl (fun ls hl => ?_)
  refine lv_aload_n hx hb dX4_readCock_24 rfl (lv_at hl 2 rfl) ?_
  refine lv_bipush (v := 15) hx hb dX4_readCock_25 (by decide) ?_
  obtain ⟨q3, hq3⟩ : ∃ z, z = (f_X4_figure q2.2 (15 : Int32)) := ⟨_, rfl⟩
  have hF := kAp_eq hF hq3
  refine kb_ci hH hA [0, 1] (Wc := (w_O4 G g (g_ground 0) a_air q2.2)) (Wc' := (w_O4 G g (g_ground 0) a_air q3.2)) (WS' := (w_O4 G g (g_ground 0) a_air q3.2 ++ w_O2 G g_ground V_ground)) rfl (by decide) rfl rfl (va_runV (As := [.int (15 : Int32)]) (rest := []) ⟨hx, hb, hml, hown, hts⟩ (c_X4_figure l G g (g_ground 0) a_air q2.2 (15 : Int32) hq3.symm _) (cwV 1 hts gX4_readCock_X4_figure rfl rfl rfl he_X4_figure ⟨Nat.le_of_ble_eq_true rfl, Nat.le_of_ble_eq_true rfl⟩) (kb_preV hH hK hN [0, 1] rfl (by decide) 0 rfl rfl rfl rfl) rfl rfl hl.1 rfl (lv_room (Nat.le_of_ble_eq_true rfl)) dX4_readCock_27 ⟨Nat.le_of_ble_eq_true rfl, Nat.le_of_ble_eq_true rfl⟩) (fun H locs hH => ?_)
  refine lv_istore_n (lv' := [(3, .int q3.1), (2, .int q2.1), (1, .int q1.1), (0, .ref (g 0))]) hx hb dX4_readCock_30 rfl hl (by decide) rfl (fun ls hl => ?_)
  refine lv_aload_n hx hb dX4_readCock_31 rfl (lv_at hl 3 rfl) ?_
  refine lv_bipush (v := 31) hx hb dX4_readCock_32 (by decide) ?_
  obtain ⟨q4, hq4⟩ : ∃ z, z = (f_X4_figure q3.2 (31 : Int32)) := ⟨_, rfl⟩
  have hF := kAp_eq hF hq4
  refine kb_ci hH hA [0, 1] (Wc := (w_O4 G g (g_ground 0) a_air q3.2)) (Wc' := (w_O4 G g (g_ground 0) a_air q4.2)) (WS' := (w_O4 G g (g_ground 0) a_air q4.2 ++ w_O2 G g_ground V_ground)) rfl (by decide) rfl rfl (va_runV (As := [.int (31 : Int32)]) (rest := []) ⟨hx, hb, hml, hown, hts⟩ (c_X4_figure l G g (g_ground 0) a_air q3.2 (31 : Int32) hq4.symm _) (cwV 1 hts gX4_readCock_X4_figure rfl rfl rfl he_X4_figure ⟨Nat.le_of_ble_eq_true rfl, Nat.le_of_ble_eq_true rfl⟩) (kb_preV hH hK hN [0, 1] rfl (by decide) 0 rfl rfl rfl rfl) rfl rfl hl.1 rfl (lv_room (Nat.le_of_ble_eq_true rfl)) dX4_readCock_34 ⟨Nat.le_of_ble_eq_true rfl, Nat.le_of_ble_eq_true rfl⟩) (fun H locs hH => ?_)
  refine lv_istore (lv' := [(4, .int q4.1), (3, .int q3.1), (2, .int q2.1), (1, .int q1.1), (0, .ref (g 0))]) hx hb dX4_readCock_37 hl (by decide) rfl (fun ls hl => ?_)
  refine lv_aload_n hx hb dX4_readCock_39 rfl (lv_at hl 4 rfl) ?_
  refine lv_sipush (v := 1022) hx hb dX4_readCock_40 (by decide) ?_
  obtain ⟨q5, hq5⟩ : ∃ z, z = (f_X4_figure q4.2 (1022 : Int32)) := ⟨_, rfl⟩
  have hF := kAp_eq hF hq5
  refine kb_ci hH hA [0, 1] (Wc := (w_O4 G g (g_ground 0) a_air q4.2)) (Wc' := (w_O4 G g (g_ground 0) a_air q5.2)) (WS' := (w_O4 G g (g_ground 0) a_air q5.2 ++ w_O2 G g_ground V_ground)) rfl (by decide) rfl rfl (va_runV (As := [.int (1022 : Int32)]) (rest := []) ⟨hx, hb, hml, hown, hts⟩ (c_X4_figure l G g (g_ground 0) a_air q4.2 (1022 : Int32) hq5.symm _) (cwV 1 hts gX4_readCock_X4_figure rfl rfl rfl he_X4_figure ⟨Nat.le_of_ble_eq_true rfl, Nat.le_of_ble_eq_true rfl⟩) (kb_preV hH hK hN [0, 1] rfl (by decide) 0 rfl rfl rfl rfl) rfl rfl hl.1 rfl (lv_room (Nat.le_of_ble_eq_true rfl)) dX4_readCock_43 ⟨Nat.le_of_ble_eq_true rfl, Nat.le_of_ble_eq_true rfl⟩) (fun H locs hH => ?_)
  refine lv_istore (lv' := [(5, .int q5.1), (4, .int q4.1), (3, .int q3.1), (2, .int q2.1), (1, .int q1.1), (0, .ref (g 0))]) hx hb dX4_readCock_46 hl (by decide) rfl (fun ls hl => ?_)
  refine lv_aload_n hx hb dX4_readCock_48 rfl (lv_at hl 5 rfl) ?_
  refine lv_iconst (v := 3) hx hb dX4_readCock_49 (by decide) ?_
  obtain ⟨q6, hq6⟩ : ∃ z, z = (f_X4_figure q5.2 (3 : Int32)) := ⟨_, rfl⟩
  have hF := kAp_eq hF hq6
  refine kb_ci hH hA [0, 1] (Wc := (w_O4 G g (g_ground 0) a_air q5.2)) (Wc' := (w_O4 G g (g_ground 0) a_air q6.2)) (WS' := (w_O4 G g (g_ground 0) a_air q6.2 ++ w_O2 G g_ground V_ground)) rfl (by decide) rfl rfl (va_runV (As := [.int (3 : Int32)]) (rest := []) ⟨hx, hb, hml, hown, hts⟩ (c_X4_figure l G g (g_ground 0) a_air q5.2 (3 : Int32) hq6.symm _) (cwV 1 hts gX4_readCock_X4_figure rfl rfl rfl he_X4_figure ⟨Nat.le_of_ble_eq_true rfl, Nat.le_of_ble_eq_true rfl⟩) (kb_preV hH hK hN [0, 1] rfl (by decide) 0 rfl rfl rfl rfl) rfl rfl hl.1 rfl (lv_room (Nat.le_of_ble_eq_true rfl)) dX4_readCock_50 ⟨Nat.le_of_ble_eq_true rfl, Nat.le_of_ble_eq_true rfl⟩) (fun H locs hH => ?_)
  refine lv_istore (lv' := [(6, .int q6.1), (5, .int q5.1), (4, .int q4.1), (3, .int q3.1), (2, .int q2.1), (1, .int q1.1), (0, .ref (g 0))]) hx hb dX4_readCock_53 hl (by decide) rfl (fun ls hl => ?_)
  refine lv_aload_n hx hb dX4_readCock_55 rfl (lv_at hl 6 rfl) ?_
  refine kb_get (v := .int (q6.2.2.1 5)) hx hb hts hin4 hown hK hH 0 rfl rfl rfl 5 (by decide) (hts (.fieldLink RX4 50 "CockWar$Reader" "broken" "Z") (List.mem_of_getElem? (i := 2) rfl)) (fun _ h9 => h9) rfl dX4_readCock_56 ?_
  refine lv_if_ne (tgt := 78) hx hb dX4_readCock_59 (by decide) (fun c7 => ?_) (fun c7 => ?_)
  · rw [if_neg c7] at hF
    subst hF
    exact kb_vret hx hb hr hH rfl dX4_readCock_78 hlocks
  · rw [if_pos c7] at hF
    refine lv_aload_n hx hb dX4_readCock_62 rfl (lv_at hl 6 rfl) ?_
    refine kb_get (v := .ref (g_ground 0)) hx hb hts hin4 hown hK hH 0 rfl rfl rfl 1 (by decide) (hts (.fieldLink RX4 18 "CockWar$Reader" "ground" "LCockWar$Hill;") (List.mem_of_getElem? (i := 1) rfl)) (fun _ h9 => h9) rfl dX4_readCock_63 ?_
    refine lv_iload_n hx hb dX4_readCock_66 rfl (lv_at hl 5 rfl) ?_
    refine lv_iload_n hx hb dX4_readCock_67 rfl (lv_at hl 4 rfl) ?_
    refine lv_iload_n hx hb dX4_readCock_68 rfl (lv_at hl 3 rfl) ?_
    refine lv_iload hx hb dX4_readCock_69 (lv_at hl 2 rfl) ?_
    refine lv_iload hx hb dX4_readCock_71 (lv_at hl 1 rfl) ?_
    refine lv_iload hx hb dX4_readCock_73 (lv_at hl 0 rfl) ?_
    obtain ⟨q8, hq8⟩ : ∃ z, z = (f_X2_addCock V_ground q1.1 q2.1 q3.1 q4.1 q5.1 q6.1) := ⟨_, rfl⟩
    have hF := kAp_eq hF hq8
    refine kb_cv hH hA [2, 3, 4, 5, 6, 7] (Wc := (w_O2 G g_ground V_ground)) (Wc' := (w_O2 G g_ground q8)) (WS' := (w_O4 G g (g_ground 0) a_air q6.2 ++ w_O2 G g_ground q8)) rfl (by decide) rfl rfl (va_runVN (C := RX2) (As := [.int q1.1, .int q2.1, .int q3.1, .int q4.1, .int q5.1, .int q6.1]) (rest := []) ⟨hx, hb, hml, hown, hts⟩ (c_X2_addCock l G g_ground V_ground q1.1 q2.1 q3.1 q4.1 q5.1 q6.1 hq8.symm _) ⟨va_cnB 6 hts gX4_readCock_X2_addCock_n84 rfl rfl rfl (kb_NM hN 21 rfl) (hts (.initialized RX2) (List.mem_of_getElem? (i := 4) rfl)) hd_X2_addCock ⟨Nat.le_of_ble_eq_true rfl, Nat.le_of_ble_eq_true rfl⟩, (hts (.instanceMethod yX2_addCock) (List.mem_of_getElem? (i := 22) rfl)), (hts (.selects RX2 yX2_addCock yX2_addCock) (List.mem_of_getElem? (i := 23) rfl))⟩ (kb_preV hH hK hN [2, 3, 4, 5, 6, 7] rfl (by decide) 2 rfl rfl rfl rfl) rfl rfl hl.1 rfl (lv_room (Nat.le_of_ble_eq_true rfl)) dX4_readCock_75 ⟨Nat.le_of_ble_eq_true rfl, Nat.le_of_ble_eq_true rfl⟩) (fun H locs hH => ?_)
    subst hF
    exact kb_vret hx hb hr hH rfl dX4_readCock_78 hlocks
def f_X4_readWind (V : OV) (V_air : OV) : (OV × OV) := (kAp (f_X4_figure V (3 : Int32)) (fun q1 => (kAp (f_X4_figure q1.2 (63 : Int32)) (fun q2 => (kAp (f_X4_figure q2.2 (1022 : Int32)) (fun q3 => (if (q3.2.2.1 5) = 0 then (kAp (f_X1_addWind V_air q1.1 q2.1 q3.1) (fun q5 => (q3.2, q5))) else (q3.2, V_air))))))))
set_option maxHeartbeats 4000000 in
set_option maxRecDepth 100000 in
theorem c_X4_readWind (l : Launch) (G : Ge) (g : Nat → Nat) (a_ground : Nat) (V : OV) (g_air : Nat → Nat) (V_air : OV) {F : (OV × OV)} (hF : f_X4_readWind V V_air = F) : CV l yX4_readWind wsX4_readWind { frames := 2, cells := 0, slots := 0, locals := 45 } [.ref (g 0)] G (w_O4 G g a_ground (g_air 0) V ++ w_O1 G g_air V_air) (w_O4 G g a_ground (g_air 0) F.1 ++ w_O1 G g_air F.2) := by
  intro sz
  refine Met.ofW (cc := cX4_readWind) (maxL := 4) (ret := none) (by decide) rfl ?_
  intro p e s m args below meth c s₁ B hml hv
  obtain ⟨rfl, hpre⟩ := hv
  obtain ⟨hsz, hH, hK, hN, hA⟩ := kb_start hpre
  subst hsz
  have hx := B.exec
  have hb := B.bytes
  have hr := B.returns
  have hts := atoms_spec (ws := wsX4_readWind) B.pre
  have hown : s.vm.findClass RX4 = some m.cls := findClass_of_methodNamed B.named
  have hlocks := B.notSynchronized
  generalize hAe : va_A (List.flatten (w_O4 G g a_ground (g_air 0) V ++ w_O1 G g_air V_air)) s.heap.size = A at hH hA ⊢
  have hl := lv_entry ([.ref (g 0)]) (n := 4) (Nat.le_of_ble_eq_true rfl)
  rw [lg_entry_eq]
  generalize (lg_sl ([.ref (g 0)]) ++ List.replicate (4 - (lg_sl ([.ref (g 0)])).length) Slot.unset).toArray = ls at hl ⊢
  have hl : lv_has ls 4 [(0, .ref (g 0))] := hl
  have hH : HP G A s.heap (w_O4 G g a_ground (g_air 0) V ++ w_O1 G g_air V_air) s.heap [] := hH
  have hin4 : ∀ w ∈ u_ws RX4 TX4 6, w ∈ wsX4_readWind := fun w h => List.mem_cons_of_mem _ (List.mem_append_left _ (List.mem_append_right _ h))
  have hF : (kAp (f_X4_figure V (3 : Int32)) (fun q1 => (kAp (f_X4_figure q1.2 (63 : Int32)) (fun q2 => (kAp (f_X4_figure q2.2 (1022 : Int32)) (fun q3 => (if (q3.2.2.1 5) = 0 then (kAp (f_X1_addWind V_air q1.1 q2.1 q3.1) (fun q5 => (q3.2, q5))) else (q3.2, V_air)))))))) = F := hF
  refine lv_aload_n hx hb dX4_readWind_0 rfl (lv_at hl 0 rfl) ?_
  refine lv_iconst (v := 3) hx hb dX4_readWind_1 (by decide) ?_
  obtain ⟨q1, hq1⟩ : ∃ z, z = (f_X4_figure V (3 : Int32)) := ⟨_, rfl⟩
  have hF := kAp_eq hF hq1
  refine kb_ci hH hA [0, 1] (Wc := (w_O4 G g a_ground (g_air 0) V)) (Wc' := (w_O4 G g a_ground (g_air 0) q1.2)) (WS' := (w_O4 G g a_ground (g_air 0) q1.2 ++ w_O1 G g_air V_air)) rfl (by decide) rfl rfl (va_runV (As := [.int (3 : Int32)]) (rest := []) ⟨hx, hb, hml, hown, hts⟩ (c_X4_figure l G g a_ground (g_air 0) V (3 : Int32) hq1.symm _) (cwV 1 hts gX4_readWind_X4_figure rfl rfl rfl he_X4_figure ⟨Nat.le_of_ble_eq_true rfl, Nat.le_of_ble_eq_true rfl⟩) (kb_preV hH hK hN [0, 1] rfl (by decide) 0 rfl rfl rfl rfl) rfl rfl hl.1 rfl (lv_room (Nat.le_of_ble_eq_true rfl)) dX4_readWind_2 ⟨Nat.le_of_ble_eq_true rfl, Nat.le_of_ble_eq_true rfl⟩) (fun H locs hH => ?_)
  refine lv_istore_n (lv' := [(1, .int q1.1), (0, .ref (g 0))]) hx hb dX4_readWind_5 rfl hl (by decide) rfl (fun ls hl => ?_)
  refine lv_aload_n hx hb dX4_readWind_6 rfl (lv_at hl 1 rfl) ?_
  refine lv_bipush (v := 63) hx hb dX4_readWind_7 (by decide) ?_
  obtain ⟨q2, hq2⟩ : ∃ z, z = (f_X4_figure q1.2 (63 : Int32)) := ⟨_, rfl⟩
  have hF := kAp_eq hF hq2
  refine kb_ci hH hA [0, 1] (Wc := (w_O4 G g a_ground (g_air 0) q1.2)) (Wc' := (w_O4 G g a_ground (g_air 0) q2.2)) (WS' := (w_O4 G g a_ground (g_air 0) q2.2 ++ w_O1 G g_air V_air)) rfl (by decide) rfl rfl (va_runV (As := [.int (63 : Int32)]) (rest := []) ⟨hx, hb, hml, hown, hts⟩ (c_X4_figure l G g a_ground (g_air 0) q1.2 (63 : Int32) hq2.symm _) (cwV 1 hts gX4_readWind_X4_figure rfl rfl rfl he_X4_figure ⟨Nat.le_of_ble_eq_true rfl, Nat.le_of_ble_eq_true rfl⟩) (kb_preV hH hK hN [0, 1] rfl (by decide) 0 rfl rfl rfl rfl) rfl rfl hl.1 rfl (lv_room (Nat.le_of_ble_eq_true rfl)) dX4_readWind_9 ⟨Nat.le_of_ble_eq_true rfl, Nat.le_of_ble_eq_true rfl⟩) (fun H locs hH => ?_)
  refine lv_istore_n (lv' := [(2, .int q2.1), (1, .int q1.1), (0, .ref (g 0))]) hx hb dX4_readWind_12 rfl hl (by decide) rfl (fun ls hl => ?_)
  refine lv_aload_n hx hb dX4_readWind_13 rfl (lv_at hl 2 rfl) ?_
  refine lv_sipush (v := 1022) hx hb dX4_readWind_14 (by decide) ?_
  obtain ⟨q3, hq3⟩ : ∃ z, z = (f_X4_figure q2.2 (1022 : Int32)) := ⟨_, rfl⟩
  have hF := kAp_eq hF hq3
  refine kb_ci hH hA [0, 1] (Wc := (w_O4 G g a_ground (g_air 0) q2.2)) (Wc' := (w_O4 G g a_ground (g_air 0) q3.2)) (WS' := (w_O4 G g a_ground (g_air 0) q3.2 ++ w_O1 G g_air V_air)) rfl (by decide) rfl rfl (va_runV (As := [.int (1022 : Int32)]) (rest := []) ⟨hx, hb, hml, hown, hts⟩ (c_X4_figure l G g a_ground (g_air 0) q2.2 (1022 : Int32) hq3.symm _) (cwV 1 hts gX4_readWind_X4_figure rfl rfl rfl he_X4_figure ⟨Nat.le_of_ble_eq_true rfl, Nat.le_of_ble_eq_true rfl⟩) (kb_preV hH hK hN [0, 1] rfl (by decide) 0 rfl rfl rfl rfl) rfl rfl hl.1 rfl (lv_room (Nat.le_of_ble_eq_true rfl)) dX4_readWind_17 ⟨Nat.le_of_ble_eq_true rfl, Nat.le_of_ble_eq_true rfl⟩) (fun H locs hH => ?_)
  refine lv_istore_n (lv' := [(3, .int q3.1), (2, .int q2.1), (1, .int q1.1), (0, .ref (g 0))]) hx hb dX4_readWind_20 rfl hl (by decide) rfl (fun ls hl => ?_)
  refine lv_aload_n hx hb dX4_readWind_21 rfl (lv_at hl 3 rfl) ?_
  refine kb_get (v := .int (q3.2.2.1 5)) hx hb hts hin4 hown hK hH 0 rfl rfl rfl 5 (by decide) (hts (.fieldLink RX4 50 "CockWar$Reader" "broken" "Z") (List.mem_of_getElem? (i := 1) rfl)) (fun _ h9 => h9) rfl dX4_readWind_22 ?_
  refine lv_if_ne (tgt := 38) hx hb dX4_readWind_25 (by decide) (fun c4 => ?_) (fun c4 => ?_)
  · rw [if_neg c4] at hF
    subst hF
    exact kb_vret hx hb hr hH rfl dX4_readWind_38 hlocks
  · rw [if_pos c4] at hF
    refine lv_aload_n hx hb dX4_readWind_28 rfl (lv_at hl 3 rfl) ?_
    refine kb_get (v := .ref (g_air 0)) hx hb hts hin4 hown hK hH 0 rfl rfl rfl 2 (by decide) (hts (.fieldLink RX4 25 "CockWar$Reader" "air" "LCockWar$Air;") (List.mem_of_getElem? (i := 2) rfl)) (fun _ h9 => h9) rfl dX4_readWind_29 ?_
    refine lv_iload_n hx hb dX4_readWind_32 rfl (lv_at hl 2 rfl) ?_
    refine lv_iload_n hx hb dX4_readWind_33 rfl (lv_at hl 1 rfl) ?_
    refine lv_iload_n hx hb dX4_readWind_34 rfl (lv_at hl 0 rfl) ?_
    obtain ⟨q5, hq5⟩ : ∃ z, z = (f_X1_addWind V_air q1.1 q2.1 q3.1) := ⟨_, rfl⟩
    have hF := kAp_eq hF hq5
    refine kb_cv hH hA [2, 3, 4, 5] (Wc := (w_O1 G g_air V_air)) (Wc' := (w_O1 G g_air q5)) (WS' := (w_O4 G g a_ground (g_air 0) q3.2 ++ w_O1 G g_air q5)) rfl (by decide) rfl rfl (va_runVN (C := RX1) (As := [.int q1.1, .int q2.1, .int q3.1]) (rest := []) ⟨hx, hb, hml, hown, hts⟩ (c_X1_addWind l G g_air V_air q1.1 q2.1 q3.1 hq5.symm _) ⟨va_cnB 3 hts gX4_readWind_X1_addWind_n88 rfl rfl rfl (kb_NM hN 23 rfl) (hts (.initialized RX1) (List.mem_of_getElem? (i := 17) rfl)) hd_X1_addWind ⟨Nat.le_of_ble_eq_true rfl, Nat.le_of_ble_eq_true rfl⟩, (hts (.instanceMethod yX1_addWind) (List.mem_of_getElem? (i := 16) rfl)), (hts (.selects RX1 yX1_addWind yX1_addWind) (List.mem_of_getElem? (i := 18) rfl))⟩ (kb_preV hH hK hN [2, 3, 4, 5] rfl (by decide) 2 rfl rfl rfl rfl) rfl rfl hl.1 rfl (lv_room (Nat.le_of_ble_eq_true rfl)) dX4_readWind_35 ⟨Nat.le_of_ble_eq_true rfl, Nat.le_of_ble_eq_true rfl⟩) (fun H locs hH => ?_)
    subst hF
    exact kb_vret hx hb hr hH rfl dX4_readWind_38 hlocks
def f_X4_readPart (V : OV) (V_ground : OV) (V_air : OV) : (OV × OV × OV) := (if (f_X7_at 64 (V.1 0) (V.2.1 4)) = (84 : Int32) then (if ((1023 : Int32) &&& ((f_X2_treeCells V_ground) ^^^ (-1 : Int32))) = 0 then (if (f_X7_at 64 (V.1 0) (V.2.1 4)) = (67 : Int32) then (if (6 : Int32) ≤ (V_ground.2.1 5) then (if (f_X7_at 64 (V.1 0) (V.2.1 4)) = (87 : Int32) then (if (4 : Int32) ≤ (V_air.2.1 3) then ((oI V 5 (1 : Int32)), V_ground, V_air) else (kAp (f_X4_readWind (oI V 4 ((V.2.1 4) + (1 : Int32))) V_air) (fun q7 => (q7.1, V_ground, q7.2)))) else ((oI V 5 (1 : Int32)), V_ground, V_air)) else (kAp (f_X4_readCock (oI V 4 ((V.2.1 4) + (1 : Int32))) V_ground) (fun q8 => (q8.1, q8.2, V_air)))) else (if (f_X7_at 64 (V.1 0) (V.2.1 4)) = (87 : Int32) then (if (4 : Int32) ≤ (V_air.2.1 3) then ((oI V 5 (1 : Int32)), V_ground, V_air) else (kAp (f_X4_readWind (oI V 4 ((V.2.1 4) + (1 : Int32))) V_air) (fun q11 => (q11.1, V_ground, q11.2)))) else ((oI V 5 (1 : Int32)), V_ground, V_air))) else (kAp (f_X4_readTree (oI V 4 ((V.2.1 4) + (1 : Int32))) V_ground ((1023 : Int32) &&& ((f_X2_treeCells V_ground) ^^^ (-1 : Int32)))) (fun q12 => (q12.1, q12.2, V_air)))) else (if (f_X7_at 64 (V.1 0) (V.2.1 4)) = (67 : Int32) then (if (6 : Int32) ≤ (V_ground.2.1 5) then (if (f_X7_at 64 (V.1 0) (V.2.1 4)) = (87 : Int32) then (if (4 : Int32) ≤ (V_air.2.1 3) then ((oI V 5 (1 : Int32)), V_ground, V_air) else (kAp (f_X4_readWind (oI V 4 ((V.2.1 4) + (1 : Int32))) V_air) (fun q17 => (q17.1, V_ground, q17.2)))) else ((oI V 5 (1 : Int32)), V_ground, V_air)) else (kAp (f_X4_readCock (oI V 4 ((V.2.1 4) + (1 : Int32))) V_ground) (fun q18 => (q18.1, q18.2, V_air)))) else (if (f_X7_at 64 (V.1 0) (V.2.1 4)) = (87 : Int32) then (if (4 : Int32) ≤ (V_air.2.1 3) then ((oI V 5 (1 : Int32)), V_ground, V_air) else (kAp (f_X4_readWind (oI V 4 ((V.2.1 4) + (1 : Int32))) V_air) (fun q21 => (q21.1, V_ground, q21.2)))) else ((oI V 5 (1 : Int32)), V_ground, V_air))))
set_option maxHeartbeats 4000000 in
set_option maxRecDepth 100000 in
theorem c_X4_readPart (l : Launch) (G : Ge) (g : Nat → Nat) (V : OV) (g_ground : Nat → Nat) (V_ground : OV) (g_air : Nat → Nat) (V_air : OV) {F : (OV × OV × OV)} (hF : f_X4_readPart V V_ground V_air = F) : CV l yX4_readPart wsX4_readPart { frames := 3, cells := 0, slots := 0, locals := 74 } [.ref (g 0)] G (w_O4 G g (g_ground 0) (g_air 0) V ++ w_O2 G g_ground V_ground ++ w_O1 G g_air V_air) (w_O4 G g (g_ground 0) (g_air 0) F.1 ++ w_O2 G g_ground F.2.1 ++ w_O1 G g_air F.2.2) := by
  intro sz
  refine Met.ofW (cc := cX4_readPart) (maxL := 3) (ret := none) (by decide) rfl ?_
  intro p e s m args below meth c s₁ B hml hv
  obtain ⟨rfl, hpre⟩ := hv
  obtain ⟨hsz, hH, hK, hN, hA⟩ := kb_start hpre
  subst hsz
  have hx := B.exec
  have hb := B.bytes
  have hr := B.returns
  have hts := atoms_spec (ws := wsX4_readPart) B.pre
  have hown : s.vm.findClass RX4 = some m.cls := findClass_of_methodNamed B.named
  have hlocks := B.notSynchronized
  generalize hAe : va_A (List.flatten (w_O4 G g (g_ground 0) (g_air 0) V ++ w_O2 G g_ground V_ground ++ w_O1 G g_air V_air)) s.heap.size = A at hH hA ⊢
  have hl := lv_entry ([.ref (g 0)]) (n := 3) (Nat.le_of_ble_eq_true rfl)
  rw [lg_entry_eq]
  generalize (lg_sl ([.ref (g 0)]) ++ List.replicate (3 - (lg_sl ([.ref (g 0)])).length) Slot.unset).toArray = ls at hl ⊢
  have hl : lv_has ls 3 [(0, .ref (g 0))] := hl
  have hH : HP G A s.heap (w_O4 G g (g_ground 0) (g_air 0) V ++ w_O2 G g_ground V_ground ++ w_O1 G g_air V_air) s.heap [] := hH
  have hin1 : ∀ w ∈ u_ws RX1 TX1 4, w ∈ wsX4_readPart := fun w h => List.mem_cons_of_mem _ (List.mem_append_right _ h)
  have hin2 : ∀ w ∈ u_ws RX2 TX2 11, w ∈ wsX4_readPart := fun w h => List.mem_cons_of_mem _ (List.mem_append_left _ (List.mem_append_right _ h))
  have hin4 : ∀ w ∈ u_ws RX4 TX4 6, w ∈ wsX4_readPart := fun w h => List.mem_cons_of_mem _ (List.mem_append_left _ (List.mem_append_left _ (List.mem_append_right _ h)))
  have hF : (if (f_X7_at 64 (V.1 0) (V.2.1 4)) = (84 : Int32) then (if ((1023 : Int32) &&& ((f_X2_treeCells V_ground) ^^^ (-1 : Int32))) = 0 then (if (f_X7_at 64 (V.1 0) (V.2.1 4)) = (67 : Int32) then (if (6 : Int32) ≤ (V_ground.2.1 5) then (if (f_X7_at 64 (V.1 0) (V.2.1 4)) = (87 : Int32) then (if (4 : Int32) ≤ (V_air.2.1 3) then ((oI V 5 (1 : Int32)), V_ground, V_air) else (kAp (f_X4_readWind (oI V 4 ((V.2.1 4) + (1 : Int32))) V_air) (fun q7 => (q7.1, V_ground, q7.2)))) else ((oI V 5 (1 : Int32)), V_ground, V_air)) else (kAp (f_X4_readCock (oI V 4 ((V.2.1 4) + (1 : Int32))) V_ground) (fun q8 => (q8.1, q8.2, V_air)))) else (if (f_X7_at 64 (V.1 0) (V.2.1 4)) = (87 : Int32) then (if (4 : Int32) ≤ (V_air.2.1 3) then ((oI V 5 (1 : Int32)), V_ground, V_air) else (kAp (f_X4_readWind (oI V 4 ((V.2.1 4) + (1 : Int32))) V_air) (fun q11 => (q11.1, V_ground, q11.2)))) else ((oI V 5 (1 : Int32)), V_ground, V_air))) else (kAp (f_X4_readTree (oI V 4 ((V.2.1 4) + (1 : Int32))) V_ground ((1023 : Int32) &&& ((f_X2_treeCells V_ground) ^^^ (-1 : Int32)))) (fun q12 => (q12.1, q12.2, V_air)))) else (if (f_X7_at 64 (V.1 0) (V.2.1 4)) = (67 : Int32) then (if (6 : Int32) ≤ (V_ground.2.1 5) then (if (f_X7_at 64 (V.1 0) (V.2.1 4)) = (87 : Int32) then (if (4 : Int32) ≤ (V_air.2.1 3) then ((oI V 5 (1 : Int32)), V_ground, V_air) else (kAp (f_X4_readWind (oI V 4 ((V.2.1 4) + (1 : Int32))) V_air) (fun q17 => (q17.1, V_ground, q17.2)))) else ((oI V 5 (1 : Int32)), V_ground, V_air)) else (kAp (f_X4_readCock (oI V 4 ((V.2.1 4) + (1 : Int32))) V_ground) (fun q18 => (q18.1, q18.2, V_air)))) else (if (f_X7_at 64 (V.1 0) (V.2.1 4)) = (87 : Int32) then (if (4 : Int32) ≤ (V_air.2.1 3) then ((oI V 5 (1 : Int32)), V_ground, V_air) else (kAp (f_X4_readWind (oI V 4 ((V.2.1 4) + (1 : Int32))) V_air) (fun q21 => (q21.1, V_ground, q21.2)))) else ((oI V 5 (1 : Int32)), V_ground, V_air)))) = F := hF
  refine lv_aload_n hx hb dX4_readPart_0 rfl (lv_at hl 0 rfl) ?_
  refine kb_get (v := .ref (g 1)) hx hb hts hin4 hown hK hH 0 rfl rfl rfl 0 (by decide) (hts (.fieldLink RX4 9 "CockWar$Reader" "letters" "[I") (List.mem_of_getElem? (i := 1) rfl)) (fun _ h9 => h9) rfl dX4_readPart_1 ?_
  refine lv_aload_n hx hb dX4_readPart_4 rfl (lv_at hl 0 rfl) ?_
  refine kb_get (v := .int (V.2.1 4)) hx hb hts hin4 hown hK hH 0 rfl rfl rfl 4 (by decide) (hts (.fieldLink RX4 43 "CockWar$Reader" "place" "I") (List.mem_of_getElem? (i := 2) rfl)) (fun _ h9 => h9) rfl dX4_readPart_5 ?_
  refine kb_ci hH hA [1] (Wc := ([b_arr G (g 1) 64 (V.1 0)])) (Wc' := ([b_arr G (g 1) 64 (V.1 0)])) (WS' := (w_O4 G g (g_ground 0) (g_air 0) V ++ w_O2 G g_ground V_ground ++ w_O1 G g_air V_air)) rfl (by decide) rfl rfl (va_runSN (As := [.ref (g 1), .int (V.2.1 4)]) (rest := []) ⟨hx, hb, hml, hown, hts⟩ (c_X7_at l G (g 1) 64 (V.1 0) (V.2.1 4) (by decide) rfl _) ⟨va_cnB 2 hts gX4_readPart_X7_at_n46 rfl rfl rfl (kb_NM hN 16 rfl) (hts (.initialized RX7) (List.mem_of_getElem? (i := 7) rfl)) hd_X7_at ⟨Nat.le_of_ble_eq_true rfl, Nat.le_of_ble_eq_true rfl⟩, (hts (.static yX7_at) (List.mem_of_getElem? (i := 6) rfl)), trivial⟩ (kb_preS hH hK hN [1] rfl (by decide)) rfl rfl hl.1 rfl (lv_room (Nat.le_of_ble_eq_true rfl)) dX4_readPart_8 ⟨Nat.le_of_ble_eq_true rfl, Nat.le_of_ble_eq_true rfl⟩) (fun H locs hH => ?_)
  refine lv_istore_n (lv' := [(1, .int (f_X7_at 64 (V.1 0) (V.2.1 4))), (0, .ref (g 0))]) hx hb dX4_readPart_11 rfl hl (by decide) rfl (fun ls hl => ?_)
  refine lv_sipush (v := 1023) hx hb dX4_readPart_12 (by decide) ?_
  refine lv_aload_n hx hb dX4_readPart_15 rfl (lv_at hl 1 rfl) ?_
  refine kb_get (v := .ref (g_ground 0)) hx hb hts hin4 hown hK hH 0 rfl rfl rfl 1 (by decide) (hts (.fieldLink RX4 18 "CockWar$Reader" "ground" "LCockWar$Hill;") (List.mem_of_getElem? (i := 3) rfl)) (fun _ h9 => h9) rfl dX4_readPart_16 ?_
  refine kb_ci hH hA [2, 3, 4, 5, 6, 7] (Wc := (w_O2 G g_ground V_ground)) (Wc' := (w_O2 G g_ground V_ground)) (WS' := (w_O4 G g (g_ground 0) (g_air 0) V ++ w_O2 G g_ground V_ground ++ w_O1 G g_air V_air)) rfl (by decide) rfl rfl (va_runVN (C := RX2) (As := []) (rest := [.int (1023 : Int32)]) ⟨hx, hb, hml, hown, hts⟩ (c_X2_treeCells l G g_ground V_ground rfl _) ⟨va_cnB 0 hts gX4_readPart_X2_treeCells_n57 rfl rfl rfl (kb_NM hN 17 rfl) (hts (.initialized RX2) (List.mem_of_getElem? (i := 10) rfl)) hd_X2_treeCells ⟨Nat.le_of_ble_eq_true rfl, Nat.le_of_ble_eq_true rfl⟩, (hts (.instanceMethod yX2_treeCells) (List.mem_of_getElem? (i := 9) rfl)), (hts (.selects RX2 yX2_treeCells yX2_treeCells) (List.mem_of_getElem? (i := 11) rfl))⟩ (kb_preV hH hK hN [2, 3, 4, 5, 6, 7] rfl (by decide) 2 rfl rfl rfl rfl) rfl rfl hl.1 rfl (lv_room (Nat.le_of_ble_eq_true rfl)) dX4_readPart_19 ⟨Nat.le_of_ble_eq_true rfl, Nat.le_of_ble_eq_true rfl⟩) (fun H locs hH => ?_)
  refine lv_iconst (v := -1) hx hb dX4_readPart_22 (by decide) ?_
  refine lv_ixor hx hb dX4_readPart_23 ?_
  refine lv_iand hx hb dX4_readPart_24 ?_
  refine lv_istore_n (lv' := [(2, .int ((1023 : Int32) &&& ((f_X2_treeCells V_ground) ^^^ (-1 : Int32)))), (1, .int (f_X7_at 64 (V.1 0) (V.2.1 4))), (0, .ref (g 0))]) hx hb dX4_readPart_25 rfl hl (by decide) rfl (fun ls hl => ?_)
  refine lv_iload_n hx hb dX4_readPart_26 rfl (lv_at hl 1 rfl) ?_
  refine lv_bipush (v := 84) hx hb dX4_readPart_27 (by decide) ?_
  refine lv_icmp_ne (tgt := 54) hx hb dX4_readPart_29 (by decide) (fun c1 => ?_) (fun c1 => ?_)
  · rw [if_neg c1] at hF
    refine lv_iload_n hx hb dX4_readPart_54 rfl (lv_at hl 1 rfl) ?_
    refine lv_bipush (v := 67) hx hb dX4_readPart_55 (by decide) ?_
    refine lv_icmp_ne (tgt := 89) hx hb dX4_readPart_57 (by decide) (fun c13 => ?_) (fun c13 => ?_)
    · rw [if_neg c13] at hF
      refine lv_iload_n hx hb dX4_readPart_89 rfl (lv_at hl 1 rfl) ?_
      refine lv_bipush (v := 87) hx hb dX4_readPart_90 (by decide) ?_
      refine lv_icmp_ne (tgt := 123) hx hb dX4_readPart_92 (by decide) (fun c19 => ?_) (fun c19 => ?_)
      · rw [if_neg c19] at hF
        refine lv_aload_n hx hb dX4_readPart_123 rfl (lv_at hl 2 rfl) ?_
        refine lv_iconst (v := 1) hx hb dX4_readPart_124 (by decide) ?_
        refine kb_put (ty := .boolean) (v := .int (1 : Int32)) (WS' := (w_O4 G g (g_ground 0) (g_air 0) (oI V 5 (1 : Int32)) ++ w_O2 G g_ground V_ground ++ w_O1 G g_air V_air)) hx hb hts hin4 tyX4 tyX4_ok nmX4 hown hK hH 0 rfl rfl 5 (by decide) (hts (.fieldLink RX4 50 "CockWar$Reader" "broken" "Z") (List.mem_of_getElem? (i := 5) rfl)) (fun _ h9 => h9) rfl (by decide +kernel) (kb_nar _ (Or.inr rfl)) (kb_fit _ (Or.inr rfl)) (Nat.le_of_ble_eq_true rfl) rfl dX4_readPart_125 (fun H locs hH => ?_)
        subst hF
        exact kb_vret hx hb hr hH rfl dX4_readPart_128 hlocks
      · rw [if_pos c19] at hF
        refine lv_aload_n hx hb dX4_readPart_95 rfl (lv_at hl 2 rfl) ?_
        refine kb_get (v := .ref (g_air 0)) hx hb hts hin4 hown hK hH 0 rfl rfl rfl 2 (by decide) (hts (.fieldLink RX4 25 "CockWar$Reader" "air" "LCockWar$Air;") (List.mem_of_getElem? (i := 4) rfl)) (fun _ h9 => h9) rfl dX4_readPart_96 ?_
        refine kb_getN (v := .int (V_air.2.1 3)) hx hb hts hin1 hown hK hH 8 rfl rfl rfl 3 (by decide) (kb_NF hN 25 rfl) (fun _ h9 => h9) rfl dX4_readPart_99 ?_
        refine lv_iconst (v := 4) hx hb dX4_readPart_102 (by decide) ?_
        refine lv_icmp_ge (tgt := 123) hx hb dX4_readPart_103 (by decide) (fun c20 => ?_) (fun c20 => ?_)
        · rw [if_pos c20] at hF
          refine lv_aload_n hx hb dX4_readPart_123 rfl (lv_at hl 2 rfl) ?_
          refine lv_iconst (v := 1) hx hb dX4_readPart_124 (by decide) ?_
          refine kb_put (ty := .boolean) (v := .int (1 : Int32)) (WS' := (w_O4 G g (g_ground 0) (g_air 0) (oI V 5 (1 : Int32)) ++ w_O2 G g_ground V_ground ++ w_O1 G g_air V_air)) hx hb hts hin4 tyX4 tyX4_ok nmX4 hown hK hH 0 rfl rfl 5 (by decide) (hts (.fieldLink RX4 50 "CockWar$Reader" "broken" "Z") (List.mem_of_getElem? (i := 5) rfl)) (fun _ h9 => h9) rfl (by decide +kernel) (kb_nar _ (Or.inr rfl)) (kb_fit _ (Or.inr rfl)) (Nat.le_of_ble_eq_true rfl) rfl dX4_readPart_125 (fun H locs hH => ?_)
          subst hF
          exact kb_vret hx hb hr hH rfl dX4_readPart_128 hlocks
        · rw [if_neg c20] at hF
          refine lv_aload_n hx hb dX4_readPart_106 rfl (lv_at hl 2 rfl) ?_
          refine lv_dup hx hb dX4_readPart_107 rfl ?_
          refine kb_get (v := .int (V.2.1 4)) hx hb hts hin4 hown hK hH 0 rfl rfl rfl 4 (by decide) (hts (.fieldLink RX4 43 "CockWar$Reader" "place" "I") (List.mem_of_getElem? (i := 2) rfl)) (fun _ h9 => h9) rfl dX4_readPart_108 ?_
          refine lv_iconst (v := 1) hx hb dX4_readPart_111 (by decide) ?_
          refine lv_iadd hx hb dX4_readPart_112 ?_
          refine kb_put (ty := .int) (v := .int ((V.2.1 4) + (1 : Int32))) (WS' := (w_O4 G g (g_ground 0) (g_air 0) (oI V 4 ((V.2.1 4) + (1 : Int32))) ++ w_O2 G g_ground V_ground ++ w_O1 G g_air V_air)) hx hb hts hin4 tyX4 tyX4_ok nmX4 hown hK hH 0 rfl rfl 4 (by decide) (hts (.fieldLink RX4 43 "CockWar$Reader" "place" "I") (List.mem_of_getElem? (i := 2) rfl)) (fun _ h9 => h9) rfl (by decide +kernel) rfl rfl (Nat.le_of_ble_eq_true rfl) rfl dX4_readPart_113 (fun H locs hH => ?_)
          refine lv_aload_n hx hb dX4_readPart_116 rfl (lv_at hl 2 rfl) ?_
          obtain ⟨q21, hq21⟩ : ∃ z, z = (f_X4_readWind (oI V 4 ((V.2.1 4) + (1 : Int32))) V_air) := ⟨_, rfl⟩
          have hF := kAp_eq hF hq21
          refine kb_cv hH hA [0, 1, 8, 9, 10, 11] (Wc := (w_O4 G g (g_ground 0) (g_air 0) (oI V 4 ((V.2.1 4) + (1 : Int32))) ++ w_O1 G g_air V_air)) (Wc' := (w_O4 G g (g_ground 0) (g_air 0) q21.1 ++ w_O1 G g_air q21.2)) (WS' := (w_O4 G g (g_ground 0) (g_air 0) q21.1 ++ w_O2 G g_ground V_ground ++ w_O1 G g_air q21.2)) rfl (by decide) rfl rfl (va_runV (As := []) (rest := []) ⟨hx, hb, hml, hown, hts⟩ (c_X4_readWind l G g (g_ground 0) (oI V 4 ((V.2.1 4) + (1 : Int32))) g_air V_air hq21.symm _) (cwV 0 hts gX4_readPart_X4_readWind rfl rfl rfl he_X4_readWind ⟨Nat.le_of_ble_eq_true rfl, Nat.le_of_ble_eq_true rfl⟩) (kb_preV hH hK hN [0, 1, 8, 9, 10, 11] rfl (by decide) 0 rfl rfl rfl rfl) rfl rfl hl.1 rfl (lv_room (Nat.le_of_ble_eq_true rfl)) dX4_readPart_117 ⟨Nat.le_of_ble_eq_true rfl, Nat.le_of_ble_eq_true rfl⟩) (fun H locs hH => ?_)
          refine lv_goto (tgt := 128) hx hb dX4_readPart_120 (by decide) ?_
          subst hF
          exact kb_vret hx hb hr hH rfl dX4_readPart_128 hlocks
    · rw [if_pos c13] at hF
      refine lv_aload_n hx hb dX4_readPart_60 rfl (lv_at hl 2 rfl) ?_
      refine kb_get (v := .ref (g_ground 0)) hx hb hts hin4 hown hK hH 0 rfl rfl rfl 1 (by decide) (hts (.fieldLink RX4 18 "CockWar$Reader" "ground" "LCockWar$Hill;") (List.mem_of_getElem? (i := 3) rfl)) (fun _ h9 => h9) rfl dX4_readPart_61 ?_
      refine kb_getN (v := .int (V_ground.2.1 5)) hx hb hts hin2 hown hK hH 2 rfl rfl rfl 5 (by decide) (kb_NF hN 9 rfl) (fun _ h9 => h9) rfl dX4_readPart_64 ?_
      refine lv_bipush (v := 6) hx hb dX4_readPart_67 (by decide) ?_
      refine lv_icmp_ge (tgt := 89) hx hb dX4_readPart_69 (by decide) (fun c14 => ?_) (fun c14 => ?_)
      · rw [if_pos c14] at hF
        refine lv_iload_n hx hb dX4_readPart_89 rfl (lv_at hl 1 rfl) ?_
        refine lv_bipush (v := 87) hx hb dX4_readPart_90 (by decide) ?_
        refine lv_icmp_ne (tgt := 123) hx hb dX4_readPart_92 (by decide) (fun c15 => ?_) (fun c15 => ?_)
        · rw [if_neg c15] at hF
          refine lv_aload_n hx hb dX4_readPart_123 rfl (lv_at hl 2 rfl) ?_
          refine lv_iconst (v := 1) hx hb dX4_readPart_124 (by decide) ?_
          refine kb_put (ty := .boolean) (v := .int (1 : Int32)) (WS' := (w_O4 G g (g_ground 0) (g_air 0) (oI V 5 (1 : Int32)) ++ w_O2 G g_ground V_ground ++ w_O1 G g_air V_air)) hx hb hts hin4 tyX4 tyX4_ok nmX4 hown hK hH 0 rfl rfl 5 (by decide) (hts (.fieldLink RX4 50 "CockWar$Reader" "broken" "Z") (List.mem_of_getElem? (i := 5) rfl)) (fun _ h9 => h9) rfl (by decide +kernel) (kb_nar _ (Or.inr rfl)) (kb_fit _ (Or.inr rfl)) (Nat.le_of_ble_eq_true rfl) rfl dX4_readPart_125 (fun H locs hH => ?_)
          subst hF
          exact kb_vret hx hb hr hH rfl dX4_readPart_128 hlocks
        · rw [if_pos c15] at hF
          refine lv_aload_n hx hb dX4_readPart_95 rfl (lv_at hl 2 rfl) ?_
          refine kb_get (v := .ref (g_air 0)) hx hb hts hin4 hown hK hH 0 rfl rfl rfl 2 (by decide) (hts (.fieldLink RX4 25 "CockWar$Reader" "air" "LCockWar$Air;") (List.mem_of_getElem? (i := 4) rfl)) (fun _ h9 => h9) rfl dX4_readPart_96 ?_
          refine kb_getN (v := .int (V_air.2.1 3)) hx hb hts hin1 hown hK hH 8 rfl rfl rfl 3 (by decide) (kb_NF hN 25 rfl) (fun _ h9 => h9) rfl dX4_readPart_99 ?_
          refine lv_iconst (v := 4) hx hb dX4_readPart_102 (by decide) ?_
          refine lv_icmp_ge (tgt := 123) hx hb dX4_readPart_103 (by decide) (fun c16 => ?_) (fun c16 => ?_)
          · rw [if_pos c16] at hF
            refine lv_aload_n hx hb dX4_readPart_123 rfl (lv_at hl 2 rfl) ?_
            refine lv_iconst (v := 1) hx hb dX4_readPart_124 (by decide) ?_
            refine kb_put (ty := .boolean) (v := .int (1 : Int32)) (WS' := (w_O4 G g (g_ground 0) (g_air 0) (oI V 5 (1 : Int32)) ++ w_O2 G g_ground V_ground ++ w_O1 G g_air V_air)) hx hb hts hin4 tyX4 tyX4_ok nmX4 hown hK hH 0 rfl rfl 5 (by decide) (hts (.fieldLink RX4 50 "CockWar$Reader" "broken" "Z") (List.mem_of_getElem? (i := 5) rfl)) (fun _ h9 => h9) rfl (by decide +kernel) (kb_nar _ (Or.inr rfl)) (kb_fit _ (Or.inr rfl)) (Nat.le_of_ble_eq_true rfl) rfl dX4_readPart_125 (fun H locs hH => ?_)
            subst hF
            exact kb_vret hx hb hr hH rfl dX4_readPart_128 hlocks
          · rw [if_neg c16] at hF
            refine lv_aload_n hx hb dX4_readPart_106 rfl (lv_at hl 2 rfl) ?_
            refine lv_dup hx hb dX4_readPart_107 rfl ?_
            refine kb_get (v := .int (V.2.1 4)) hx hb hts hin4 hown hK hH 0 rfl rfl rfl 4 (by decide) (hts (.fieldLink RX4 43 "CockWar$Reader" "place" "I") (List.mem_of_getElem? (i := 2) rfl)) (fun _ h9 => h9) rfl dX4_readPart_108 ?_
            refine lv_iconst (v := 1) hx hb dX4_readPart_111 (by decide) ?_
            refine lv_iadd hx hb dX4_readPart_112 ?_
            refine kb_put (ty := .int) (v := .int ((V.2.1 4) + (1 : Int32))) (WS' := (w_O4 G g (g_ground 0) (g_air 0) (oI V 4 ((V.2.1 4) + (1 : Int32))) ++ w_O2 G g_ground V_ground ++ w_O1 G g_air V_air)) hx hb hts hin4 tyX4 tyX4_ok nmX4 hown hK hH 0 rfl rfl 4 (by decide) (hts (.fieldLink RX4 43 "CockWar$Reader" "place" "I") (List.mem_of_getElem? (i := 2) rfl)) (fun _ h9 => h9) rfl (by decide +kernel) rfl rfl (Nat.le_of_ble_eq_true rfl) rfl dX4_readPart_113 (fun H locs hH => ?_)
            refine lv_aload_n hx hb dX4_readPart_116 rfl (lv_at hl 2 rfl) ?_
            obtain ⟨q17, hq17⟩ : ∃ z, z = (f_X4_readWind (oI V 4 ((V.2.1 4) + (1 : Int32))) V_air) := ⟨_, rfl⟩
            have hF := kAp_eq hF hq17
            refine kb_cv hH hA [0, 1, 8, 9, 10, 11] (Wc := (w_O4 G g (g_ground 0) (g_air 0) (oI V 4 ((V.2.1 4) + (1 : Int32))) ++ w_O1 G g_air V_air)) (Wc' := (w_O4 G g (g_ground 0) (g_air 0) q17.1 ++ w_O1 G g_air q17.2)) (WS' := (w_O4 G g (g_ground 0) (g_air 0) q17.1 ++ w_O2 G g_ground V_ground ++ w_O1 G g_air q17.2)) rfl (by decide) rfl rfl (va_runV (As := []) (rest := []) ⟨hx, hb, hml, hown, hts⟩ (c_X4_readWind l G g (g_ground 0) (oI V 4 ((V.2.1 4) + (1 : Int32))) g_air V_air hq17.symm _) (cwV 0 hts gX4_readPart_X4_readWind rfl rfl rfl he_X4_readWind ⟨Nat.le_of_ble_eq_true rfl, Nat.le_of_ble_eq_true rfl⟩) (kb_preV hH hK hN [0, 1, 8, 9, 10, 11] rfl (by decide) 0 rfl rfl rfl rfl) rfl rfl hl.1 rfl (lv_room (Nat.le_of_ble_eq_true rfl)) dX4_readPart_117 ⟨Nat.le_of_ble_eq_true rfl, Nat.le_of_ble_eq_true rfl⟩) (fun H locs hH => ?_)
            refine lv_goto (tgt := 128) hx hb dX4_readPart_120 (by decide) ?_
            subst hF
            exact kb_vret hx hb hr hH rfl dX4_readPart_128 hlocks
      · rw [if_neg c14] at hF
        refine lv_aload_n hx hb dX4_readPart_72 rfl (lv_at hl 2 rfl) ?_
        refine lv_dup hx hb dX4_readPart_73 rfl ?_
        refine kb_get (v := .int (V.2.1 4)) hx hb hts hin4 hown hK hH 0 rfl rfl rfl 4 (by decide) (hts (.fieldLink RX4 43 "CockWar$Reader" "place" "I") (List.mem_of_getElem? (i := 2) rfl)) (fun _ h9 => h9) rfl dX4_readPart_74 ?_
        refine lv_iconst (v := 1) hx hb dX4_readPart_77 (by decide) ?_
        refine lv_iadd hx hb dX4_readPart_78 ?_
        refine kb_put (ty := .int) (v := .int ((V.2.1 4) + (1 : Int32))) (WS' := (w_O4 G g (g_ground 0) (g_air 0) (oI V 4 ((V.2.1 4) + (1 : Int32))) ++ w_O2 G g_ground V_ground ++ w_O1 G g_air V_air)) hx hb hts hin4 tyX4 tyX4_ok nmX4 hown hK hH 0 rfl rfl 4 (by decide) (hts (.fieldLink RX4 43 "CockWar$Reader" "place" "I") (List.mem_of_getElem? (i := 2) rfl)) (fun _ h9 => h9) rfl (by decide +kernel) rfl rfl (Nat.le_of_ble_eq_true rfl) rfl dX4_readPart_79 (fun H locs hH => ?_)
        refine lv_aload_n hx hb dX4_readPart_82 rfl (lv_at hl 2 rfl) ?_
        obtain ⟨q18, hq18⟩ : ∃ z, z = (f_X4_readCock (oI V 4 ((V.2.1 4) + (1 : Int32))) V_ground) := ⟨_, rfl⟩
        have hF := kAp_eq hF hq18
        refine kb_cv hH hA [0, 1, 2, 3, 4, 5, 6, 7] (Wc := (w_O4 G g (g_ground 0) (g_air 0) (oI V 4 ((V.2.1 4) + (1 : Int32))) ++ w_O2 G g_ground V_ground)) (Wc' := (w_O4 G g (g_ground 0) (g_air 0) q18.1 ++ w_O2 G g_ground q18.2)) (WS' := (w_O4 G g (g_ground 0) (g_air 0) q18.1 ++ w_O2 G g_ground q18.2 ++ w_O1 G g_air V_air)) rfl (by decide) rfl rfl (va_runV (As := []) (rest := []) ⟨hx, hb, hml, hown, hts⟩ (c_X4_readCock l G g (g_air 0) (oI V 4 ((V.2.1 4) + (1 : Int32))) g_ground V_ground hq18.symm _) (cwV 0 hts gX4_readPart_X4_readCock rfl rfl rfl he_X4_readCock ⟨Nat.le_of_ble_eq_true rfl, Nat.le_of_ble_eq_true rfl⟩) (kb_preV hH hK hN [0, 1, 2, 3, 4, 5, 6, 7] rfl (by decide) 0 rfl rfl rfl rfl) rfl rfl hl.1 rfl (lv_room (Nat.le_of_ble_eq_true rfl)) dX4_readPart_83 ⟨Nat.le_of_ble_eq_true rfl, Nat.le_of_ble_eq_true rfl⟩) (fun H locs hH => ?_)
        refine lv_goto (tgt := 128) hx hb dX4_readPart_86 (by decide) ?_
        subst hF
        exact kb_vret hx hb hr hH rfl dX4_readPart_128 hlocks
  · rw [if_pos c1] at hF
    refine lv_iload_n hx hb dX4_readPart_32 rfl (lv_at hl 0 rfl) ?_
    refine lv_if_eq (tgt := 54) hx hb dX4_readPart_33 (by decide) (fun c2 => ?_) (fun c2 => ?_)
    · rw [if_pos c2] at hF
      refine lv_iload_n hx hb dX4_readPart_54 rfl (lv_at hl 1 rfl) ?_
      refine lv_bipush (v := 67) hx hb dX4_readPart_55 (by decide) ?_
      refine lv_icmp_ne (tgt := 89) hx hb dX4_readPart_57 (by decide) (fun c3 => ?_) (fun c3 => ?_)
      · rw [if_neg c3] at hF
        refine lv_iload_n hx hb dX4_readPart_89 rfl (lv_at hl 1 rfl) ?_
        refine lv_bipush (v := 87) hx hb dX4_readPart_90 (by decide) ?_
        refine lv_icmp_ne (tgt := 123) hx hb dX4_readPart_92 (by decide) (fun c9 => ?_) (fun c9 => ?_)
        · rw [if_neg c9] at hF
          refine lv_aload_n hx hb dX4_readPart_123 rfl (lv_at hl 2 rfl) ?_
          refine lv_iconst (v := 1) hx hb dX4_readPart_124 (by decide) ?_
          refine kb_put (ty := .boolean) (v := .int (1 : Int32)) (WS' := (w_O4 G g (g_ground 0) (g_air 0) (oI V 5 (1 : Int32)) ++ w_O2 G g_ground V_ground ++ w_O1 G g_air V_air)) hx hb hts hin4 tyX4 tyX4_ok nmX4 hown hK hH 0 rfl rfl 5 (by decide) (hts (.fieldLink RX4 50 "CockWar$Reader" "broken" "Z") (List.mem_of_getElem? (i := 5) rfl)) (fun _ h9 => h9) rfl (by decide +kernel) (kb_nar _ (Or.inr rfl)) (kb_fit _ (Or.inr rfl)) (Nat.le_of_ble_eq_true rfl) rfl dX4_readPart_125 (fun H locs hH => ?_)
          subst hF
          exact kb_vret hx hb hr hH rfl dX4_readPart_128 hlocks
        · rw [if_pos c9] at hF
          refine lv_aload_n hx hb dX4_readPart_95 rfl (lv_at hl 2 rfl) ?_
          refine kb_get (v := .ref (g_air 0)) hx hb hts hin4 hown hK hH 0 rfl rfl rfl 2 (by decide) (hts (.fieldLink RX4 25 "CockWar$Reader" "air" "LCockWar$Air;") (List.mem_of_getElem? (i := 4) rfl)) (fun _ h9 => h9) rfl dX4_readPart_96 ?_
          refine kb_getN (v := .int (V_air.2.1 3)) hx hb hts hin1 hown hK hH 8 rfl rfl rfl 3 (by decide) (kb_NF hN 25 rfl) (fun _ h9 => h9) rfl dX4_readPart_99 ?_
          refine lv_iconst (v := 4) hx hb dX4_readPart_102 (by decide) ?_
          refine lv_icmp_ge (tgt := 123) hx hb dX4_readPart_103 (by decide) (fun c10 => ?_) (fun c10 => ?_)
          · rw [if_pos c10] at hF
            refine lv_aload_n hx hb dX4_readPart_123 rfl (lv_at hl 2 rfl) ?_
            refine lv_iconst (v := 1) hx hb dX4_readPart_124 (by decide) ?_
            refine kb_put (ty := .boolean) (v := .int (1 : Int32)) (WS' := (w_O4 G g (g_ground 0) (g_air 0) (oI V 5 (1 : Int32)) ++ w_O2 G g_ground V_ground ++ w_O1 G g_air V_air)) hx hb hts hin4 tyX4 tyX4_ok nmX4 hown hK hH 0 rfl rfl 5 (by decide) (hts (.fieldLink RX4 50 "CockWar$Reader" "broken" "Z") (List.mem_of_getElem? (i := 5) rfl)) (fun _ h9 => h9) rfl (by decide +kernel) (kb_nar _ (Or.inr rfl)) (kb_fit _ (Or.inr rfl)) (Nat.le_of_ble_eq_true rfl) rfl dX4_readPart_125 (fun H locs hH => ?_)
            subst hF
            exact kb_vret hx hb hr hH rfl dX4_readPart_128 hlocks
          · rw [if_neg c10] at hF
            refine lv_aload_n hx hb dX4_readPart_106 rfl (lv_at hl 2 rfl) ?_
            refine lv_dup hx hb dX4_readPart_107 rfl ?_
            refine kb_get (v := .int (V.2.1 4)) hx hb hts hin4 hown hK hH 0 rfl rfl rfl 4 (by decide) (hts (.fieldLink RX4 43 "CockWar$Reader" "place" "I") (List.mem_of_getElem? (i := 2) rfl)) (fun _ h9 => h9) rfl dX4_readPart_108 ?_
            refine lv_iconst (v := 1) hx hb dX4_readPart_111 (by decide) ?_
            refine lv_iadd hx hb dX4_readPart_112 ?_
            refine kb_put (ty := .int) (v := .int ((V.2.1 4) + (1 : Int32))) (WS' := (w_O4 G g (g_ground 0) (g_air 0) (oI V 4 ((V.2.1 4) + (1 : Int32))) ++ w_O2 G g_ground V_ground ++ w_O1 G g_air V_air)) hx hb hts hin4 tyX4 tyX4_ok nmX4 hown hK hH 0 rfl rfl 4 (by decide) (hts (.fieldLink RX4 43 "CockWar$Reader" "place" "I") (List.mem_of_getElem? (i := 2) rfl)) (fun _ h9 => h9) rfl (by decide +kernel) rfl rfl (Nat.le_of_ble_eq_true rfl) rfl dX4_readPart_113 (fun H locs hH => ?_)
            refine lv_aload_n hx hb dX4_readPart_116 rfl (lv_at hl 2 rfl) ?_
            obtain ⟨q11, hq11⟩ : ∃ z, z = (f_X4_readWind (oI V 4 ((V.2.1 4) + (1 : Int32))) V_air) := ⟨_, rfl⟩
            have hF := kAp_eq hF hq11
            refine kb_cv hH hA [0, 1, 8, 9, 10, 11] (Wc := (w_O4 G g (g_ground 0) (g_air 0) (oI V 4 ((V.2.1 4) + (1 : Int32))) ++ w_O1 G g_air V_air)) (Wc' := (w_O4 G g (g_ground 0) (g_air 0) q11.1 ++ w_O1 G g_air q11.2)) (WS' := (w_O4 G g (g_ground 0) (g_air 0) q11.1 ++ w_O2 G g_ground V_ground ++ w_O1 G g_air q11.2)) rfl (by decide) rfl rfl (va_runV (As := []) (rest := []) ⟨hx, hb, hml, hown, hts⟩ (c_X4_readWind l G g (g_ground 0) (oI V 4 ((V.2.1 4) + (1 : Int32))) g_air V_air hq11.symm _) (cwV 0 hts gX4_readPart_X4_readWind rfl rfl rfl he_X4_readWind ⟨Nat.le_of_ble_eq_true rfl, Nat.le_of_ble_eq_true rfl⟩) (kb_preV hH hK hN [0, 1, 8, 9, 10, 11] rfl (by decide) 0 rfl rfl rfl rfl) rfl rfl hl.1 rfl (lv_room (Nat.le_of_ble_eq_true rfl)) dX4_readPart_117 ⟨Nat.le_of_ble_eq_true rfl, Nat.le_of_ble_eq_true rfl⟩) (fun H locs hH => ?_)
            refine lv_goto (tgt := 128) hx hb dX4_readPart_120 (by decide) ?_
            subst hF
            exact kb_vret hx hb hr hH rfl dX4_readPart_128 hlocks
      · rw [if_pos c3] at hF
        refine lv_aload_n hx hb dX4_readPart_60 rfl (lv_at hl 2 rfl) ?_
        refine kb_get (v := .ref (g_ground 0)) hx hb hts hin4 hown hK hH 0 rfl rfl rfl 1 (by decide) (hts (.fieldLink RX4 18 "CockWar$Reader" "ground" "LCockWar$Hill;") (List.mem_of_getElem? (i := 3) rfl)) (fun _ h9 => h9) rfl dX4_readPart_61 ?_
        refine kb_getN (v := .int (V_ground.2.1 5)) hx hb hts hin2 hown hK hH 2 rfl rfl rfl 5 (by decide) (kb_NF hN 9 rfl) (fun _ h9 => h9) rfl dX4_readPart_64 ?_
        refine lv_bipush (v := 6) hx hb dX4_readPart_67 (by decide) ?_
        refine lv_icmp_ge (tgt := 89) hx hb dX4_readPart_69 (by decide) (fun c4 => ?_) (fun c4 => ?_)
        · rw [if_pos c4] at hF
          refine lv_iload_n hx hb dX4_readPart_89 rfl (lv_at hl 1 rfl) ?_
          refine lv_bipush (v := 87) hx hb dX4_readPart_90 (by decide) ?_
          refine lv_icmp_ne (tgt := 123) hx hb dX4_readPart_92 (by decide) (fun c5 => ?_) (fun c5 => ?_)
          · rw [if_neg c5] at hF
            refine lv_aload_n hx hb dX4_readPart_123 rfl (lv_at hl 2 rfl) ?_
            refine lv_iconst (v := 1) hx hb dX4_readPart_124 (by decide) ?_
            refine kb_put (ty := .boolean) (v := .int (1 : Int32)) (WS' := (w_O4 G g (g_ground 0) (g_air 0) (oI V 5 (1 : Int32)) ++ w_O2 G g_ground V_ground ++ w_O1 G g_air V_air)) hx hb hts hin4 tyX4 tyX4_ok nmX4 hown hK hH 0 rfl rfl 5 (by decide) (hts (.fieldLink RX4 50 "CockWar$Reader" "broken" "Z") (List.mem_of_getElem? (i := 5) rfl)) (fun _ h9 => h9) rfl (by decide +kernel) (kb_nar _ (Or.inr rfl)) (kb_fit _ (Or.inr rfl)) (Nat.le_of_ble_eq_true rfl) rfl dX4_readPart_125 (fun H locs hH => ?_)
            subst hF
            exact kb_vret hx hb hr hH rfl dX4_readPart_128 hlocks
          · rw [if_pos c5] at hF
            refine lv_aload_n hx hb dX4_readPart_95 rfl (lv_at hl 2 rfl) ?_
            refine kb_get (v := .ref (g_air 0)) hx hb hts hin4 hown hK hH 0 rfl rfl rfl 2 (by decide) (hts (.fieldLink RX4 25 "CockWar$Reader" "air" "LCockWar$Air;") (List.mem_of_getElem? (i := 4) rfl)) (fun _ h9 => h9) rfl dX4_readPart_96 ?_
            refine kb_getN (v := .int (V_air.2.1 3)) hx hb hts hin1 hown hK hH 8 rfl rfl rfl 3 (by decide) (kb_NF hN 25 rfl) (fun _ h9 => h9) rfl dX4_readPart_99 ?_
            refine lv_iconst (v := 4) hx hb dX4_readPart_102 (by decide) ?_
            refine lv_icmp_ge (tgt := 123) hx hb dX4_readPart_103 (by decide) (fun c6 => ?_) (fun c6 => ?_)
            · rw [if_pos c6] at hF
              refine lv_aload_n hx hb dX4_readPart_123 rfl (lv_at hl 2 rfl) ?_
              refine lv_iconst (v := 1) hx hb dX4_readPart_124 (by decide) ?_
              refine kb_put (ty := .boolean) (v := .int (1 : Int32)) (WS' := (w_O4 G g (g_ground 0) (g_air 0) (oI V 5 (1 : Int32)) ++ w_O2 G g_ground V_ground ++ w_O1 G g_air V_air)) hx hb hts hin4 tyX4 tyX4_ok nmX4 hown hK hH 0 rfl rfl 5 (by decide) (hts (.fieldLink RX4 50 "CockWar$Reader" "broken" "Z") (List.mem_of_getElem? (i := 5) rfl)) (fun _ h9 => h9) rfl (by decide +kernel) (kb_nar _ (Or.inr rfl)) (kb_fit _ (Or.inr rfl)) (Nat.le_of_ble_eq_true rfl) rfl dX4_readPart_125 (fun H locs hH => ?_)
              subst hF
              exact kb_vret hx hb hr hH rfl dX4_readPart_128 hlocks
            · rw [if_neg c6] at hF
              refine lv_aload_n hx hb dX4_readPart_106 rfl (lv_at hl 2 rfl) ?_
              refine lv_dup hx hb dX4_readPart_107 rfl ?_
              refine kb_get (v := .int (V.2.1 4)) hx hb hts hin4 hown hK hH 0 rfl rfl rfl 4 (by decide) (hts (.fieldLink RX4 43 "CockWar$Reader" "place" "I") (List.mem_of_getElem? (i := 2) rfl)) (fun _ h9 => h9) rfl dX4_readPart_108 ?_
              refine lv_iconst (v := 1) hx hb dX4_readPart_111 (by decide) ?_
              refine lv_iadd hx hb dX4_readPart_112 ?_
              refine kb_put (ty := .int) (v := .int ((V.2.1 4) + (1 : Int32))) (WS' := (w_O4 G g (g_ground 0) (g_air 0) (oI V 4 ((V.2.1 4) + (1 : Int32))) ++ w_O2 G g_ground V_ground ++ w_O1 G g_air V_air)) hx hb hts hin4 tyX4 tyX4_ok nmX4 hown hK hH 0 rfl rfl 4 (by decide) (hts (.fieldLink RX4 43 "CockWar$Reader" "place" "I") (List.mem_of_getElem? (i := 2) rfl)) (fun _ h9 => h9) rfl (by decide +kernel) rfl rfl (Nat.le_of_ble_eq_true rfl) rfl dX4_readPart_113 (fun H locs hH => ?_)
              refine lv_aload_n hx hb dX4_readPart_116 rfl (lv_at hl 2 rfl) ?_
              obtain ⟨q7, hq7⟩ : ∃ z, z = (f_X4_readWind (oI V 4 ((V.2.1 4) + (1 : Int32))) V_air) := ⟨_, rfl⟩
              have hF := kAp_eq hF hq7
              refine kb_cv hH hA [0, 1, 8, 9, 10, 11] (Wc := (w_O4 G g (g_ground 0) (g_air 0) (oI V 4 ((V.2.1 4) + (1 : Int32))) ++ w_O1 G g_air V_air)) (Wc' := (w_O4 G g (g_ground 0) (g_air 0) q7.1 ++ w_O1 G g_air q7.2)) (WS' := (w_O4 G g (g_ground 0) (g_air 0) q7.1 ++ w_O2 G g_ground V_ground ++ w_O1 G g_air q7.2)) rfl (by decide) rfl rfl (va_runV (As := []) (rest := []) ⟨hx, hb, hml, hown, hts⟩ (c_X4_readWind l G g (g_ground 0) (oI V 4 ((V.2.1 4) + (1 : Int32))) g_air V_air hq7.symm _) (cwV 0 hts gX4_readPart_X4_readWind rfl rfl rfl he_X4_readWind ⟨Nat.le_of_ble_eq_true rfl, Nat.le_of_ble_eq_true rfl⟩) (kb_preV hH hK hN [0, 1, 8, 9, 10, 11] rfl (by decide) 0 rfl rfl rfl rfl) rfl rfl hl.1 rfl (lv_room (Nat.le_of_ble_eq_true rfl)) dX4_readPart_117 ⟨Nat.le_of_ble_eq_true rfl, Nat.le_of_ble_eq_true rfl⟩) (fun H locs hH => ?_)
              refine lv_goto (tgt := 128) hx hb dX4_readPart_120 (by decide) ?_
              subst hF
              exact kb_vret hx hb hr hH rfl dX4_readPart_128 hlocks
        · rw [if_neg c4] at hF
          refine lv_aload_n hx hb dX4_readPart_72 rfl (lv_at hl 2 rfl) ?_
          refine lv_dup hx hb dX4_readPart_73 rfl ?_
          refine kb_get (v := .int (V.2.1 4)) hx hb hts hin4 hown hK hH 0 rfl rfl rfl 4 (by decide) (hts (.fieldLink RX4 43 "CockWar$Reader" "place" "I") (List.mem_of_getElem? (i := 2) rfl)) (fun _ h9 => h9) rfl dX4_readPart_74 ?_
          refine lv_iconst (v := 1) hx hb dX4_readPart_77 (by decide) ?_
          refine lv_iadd hx hb dX4_readPart_78 ?_
          refine kb_put (ty := .int) (v := .int ((V.2.1 4) + (1 : Int32))) (WS' := (w_O4 G g (g_ground 0) (g_air 0) (oI V 4 ((V.2.1 4) + (1 : Int32))) ++ w_O2 G g_ground V_ground ++ w_O1 G g_air V_air)) hx hb hts hin4 tyX4 tyX4_ok nmX4 hown hK hH 0 rfl rfl 4 (by decide) (hts (.fieldLink RX4 43 "CockWar$Reader" "place" "I") (List.mem_of_getElem? (i := 2) rfl)) (fun _ h9 => h9) rfl (by decide +kernel) rfl rfl (Nat.le_of_ble_eq_true rfl) rfl dX4_readPart_79 (fun H locs hH => ?_)
          refine lv_aload_n hx hb dX4_readPart_82 rfl (lv_at hl 2 rfl) ?_
          obtain ⟨q8, hq8⟩ : ∃ z, z = (f_X4_readCock (oI V 4 ((V.2.1 4) + (1 : Int32))) V_ground) := ⟨_, rfl⟩
          have hF := kAp_eq hF hq8
          refine kb_cv hH hA [0, 1, 2, 3, 4, 5, 6, 7] (Wc := (w_O4 G g (g_ground 0) (g_air 0) (oI V 4 ((V.2.1 4) + (1 : Int32))) ++ w_O2 G g_ground V_ground)) (Wc' := (w_O4 G g (g_ground 0) (g_air 0) q8.1 ++ w_O2 G g_ground q8.2)) (WS' := (w_O4 G g (g_ground 0) (g_air 0) q8.1 ++ w_O2 G g_ground q8.2 ++ w_O1 G g_air V_air)) rfl (by decide) rfl rfl (va_runV (As := []) (rest := []) ⟨hx, hb, hml, hown, hts⟩ (c_X4_readCock l G g (g_air 0) (oI V 4 ((V.2.1 4) + (1 : Int32))) g_ground V_ground hq8.symm _) (cwV 0 hts gX4_readPart_X4_readCock rfl rfl rfl he_X4_readCock ⟨Nat.le_of_ble_eq_true rfl, Nat.le_of_ble_eq_true rfl⟩) (kb_preV hH hK hN [0, 1, 2, 3, 4, 5, 6, 7] rfl (by decide) 0 rfl rfl rfl rfl) rfl rfl hl.1 rfl (lv_room (Nat.le_of_ble_eq_true rfl)) dX4_readPart_83 ⟨Nat.le_of_ble_eq_true rfl, Nat.le_of_ble_eq_true rfl⟩) (fun H locs hH => ?_)
          refine lv_goto (tgt := 128) hx hb dX4_readPart_86 (by decide) ?_
          subst hF
          exact kb_vret hx hb hr hH rfl dX4_readPart_128 hlocks
    · rw [if_neg c2] at hF
      refine lv_aload_n hx hb dX4_readPart_36 rfl (lv_at hl 2 rfl) ?_
      refine lv_dup hx hb dX4_readPart_37 rfl ?_
      refine kb_get (v := .int (V.2.1 4)) hx hb hts hin4 hown hK hH 0 rfl rfl rfl 4 (by decide) (hts (.fieldLink RX4 43 "CockWar$Reader" "place" "I") (List.mem_of_getElem? (i := 2) rfl)) (fun _ h9 => h9) rfl dX4_readPart_38 ?_
      refine lv_iconst (v := 1) hx hb dX4_readPart_41 (by decide) ?_
      refine lv_iadd hx hb dX4_readPart_42 ?_
      refine kb_put (ty := .int) (v := .int ((V.2.1 4) + (1 : Int32))) (WS' := (w_O4 G g (g_ground 0) (g_air 0) (oI V 4 ((V.2.1 4) + (1 : Int32))) ++ w_O2 G g_ground V_ground ++ w_O1 G g_air V_air)) hx hb hts hin4 tyX4 tyX4_ok nmX4 hown hK hH 0 rfl rfl 4 (by decide) (hts (.fieldLink RX4 43 "CockWar$Reader" "place" "I") (List.mem_of_getElem? (i := 2) rfl)) (fun _ h9 => h9) rfl (by decide +kernel) rfl rfl (Nat.le_of_ble_eq_true rfl) rfl dX4_readPart_43 (fun H locs hH => ?_)
      refine lv_aload_n hx hb dX4_readPart_46 rfl (lv_at hl 2 rfl) ?_
      refine lv_iload_n hx hb dX4_readPart_47 rfl (lv_at hl 0 rfl) ?_
      obtain ⟨q12, hq12⟩ : ∃ z, z = (f_X4_readTree (oI V 4 ((V.2.1 4) + (1 : Int32))) V_ground ((1023 : Int32) &&& ((f_X2_treeCells V_ground) ^^^ (-1 : Int32)))) := ⟨_, rfl⟩
      have hF := kAp_eq hF hq12
      refine kb_cv hH hA [0, 1, 2, 3, 4, 5, 6, 7] (Wc := (w_O4 G g (g_ground 0) (g_air 0) (oI V 4 ((V.2.1 4) + (1 : Int32))) ++ w_O2 G g_ground V_ground)) (Wc' := (w_O4 G g (g_ground 0) (g_air 0) q12.1 ++ w_O2 G g_ground q12.2)) (WS' := (w_O4 G g (g_ground 0) (g_air 0) q12.1 ++ w_O2 G g_ground q12.2 ++ w_O1 G g_air V_air)) rfl (by decide) rfl rfl (va_runV (As := [.int ((1023 : Int32) &&& ((f_X2_treeCells V_ground) ^^^ (-1 : Int32)))]) (rest := []) ⟨hx, hb, hml, hown, hts⟩ (c_X4_readTree l G g (g_air 0) (oI V 4 ((V.2.1 4) + (1 : Int32))) g_ground V_ground ((1023 : Int32) &&& ((f_X2_treeCells V_ground) ^^^ (-1 : Int32))) hq12.symm _) (cwV 1 hts gX4_readPart_X4_readTree rfl rfl rfl he_X4_readTree ⟨Nat.le_of_ble_eq_true rfl, Nat.le_of_ble_eq_true rfl⟩) (kb_preV hH hK hN [0, 1, 2, 3, 4, 5, 6, 7] rfl (by decide) 0 rfl rfl rfl rfl) rfl rfl hl.1 rfl (lv_room (Nat.le_of_ble_eq_true rfl)) dX4_readPart_48 ⟨Nat.le_of_ble_eq_true rfl, Nat.le_of_ble_eq_true rfl⟩) (fun H locs hH => ?_)
      refine lv_goto (tgt := 128) hx hb dX4_readPart_51 (by decide) ?_
      subst hF
      exact kb_vret hx hb hr hH rfl dX4_readPart_128 hlocks
def f_X4_firstFault_L11 (iL11 : Nat) (s : (OV × OV × OV)) : (OV × OV × OV) ⊕ (OV × OV × OV) := (if (s.1.2.1 5) = 0 then (if (s.1.2.1 3) ≤ (s.1.2.1 4) then (Sum.inr (s.1, s.2.1, s.2.2)) else (kAp (f_X4_readPart s.1 s.2.2 s.2.1) (fun q15 => (Sum.inl (q15.1, q15.2.2, q15.2.1))))) else (Sum.inr (s.1, s.2.1, s.2.2)))
def f_X4_firstFault (V : OV) (V_ground : OV) (V_air : OV) : (Int32 × OV × OV × OV) := (kAp (f_X2_clear V_ground) (fun q1 => (kAp ((if (V.2.1 3) = 0 then (1 : Int32) else (if (f_X7_at 64 (V.1 0) (0 : Int32)) = (72 : Int32) then (0 : Int32) else (1 : Int32))) : Int32) (fun v4 => (kAp ((if v4 = 0 then (oI (oI V 4 ((0 : Int32) + (1 : Int32))) 5 v4) else (oI (oI V 4 (0 : Int32)) 5 v4)) : OV) (fun v9 => (kAp (lpb (f_X4_firstFault_L11) (cN (64 : Int32)) 0 (v9, (oI V_air 3 (0 : Int32)), q1)) (fun z16 => (if (z16.1.2.1 5) = 0 then ((-9 : Int32), z16.1, z16.2.2, z16.2.1) else ((z16.1.2.1 4), z16.1, z16.2.2, z16.2.1))))))))))
set_option maxHeartbeats 4000000 in
set_option maxRecDepth 100000 in
theorem c_X4_firstFault (l : Launch) (G : Ge) (g : Nat → Nat) (V : OV) (g_ground : Nat → Nat) (V_ground : OV) (g_air : Nat → Nat) (V_air : OV) {F : (Int32 × OV × OV × OV)} (hF : f_X4_firstFault V V_ground V_air = F) : CI l yX4_firstFault wsX4_firstFault { frames := 4, cells := 0, slots := 0, locals := 96 } [.ref (g 0)] G (w_O4 G g (g_ground 0) (g_air 0) V ++ w_O2 G g_ground V_ground ++ w_O1 G g_air V_air) (w_O4 G g (g_ground 0) (g_air 0) F.2.1 ++ w_O2 G g_ground F.2.2.1 ++ w_O1 G g_air F.2.2.2) F.1 := by
  intro sz
  refine Met.ofW (cc := cX4_firstFault) (maxL := 2) (ret := (some .int)) (by decide) rfl ?_
  intro p e s m args below meth c s₁ B hml hv
  obtain ⟨rfl, hpre⟩ := hv
  obtain ⟨hsz, hH, hK, hN, hA⟩ := kb_start hpre
  subst hsz
  have hx := B.exec
  have hb := B.bytes
  have hr := B.returns
  have hts := atoms_spec (ws := wsX4_firstFault) B.pre
  have hown : s.vm.findClass RX4 = some m.cls := findClass_of_methodNamed B.named
  have hlocks := B.notSynchronized
  generalize hAe : va_A (List.flatten (w_O4 G g (g_ground 0) (g_air 0) V ++ w_O2 G g_ground V_ground ++ w_O1 G g_air V_air)) s.heap.size = A at hH hA ⊢
  have hl := lv_entry ([.ref (g 0)]) (n := 2) (Nat.le_of_ble_eq_true rfl)
  rw [lg_entry_eq]
  generalize (lg_sl ([.ref (g 0)]) ++ List.replicate (2 - (lg_sl ([.ref (g 0)])).length) Slot.unset).toArray = ls at hl ⊢
  have hl : lv_has ls 2 [(0, .ref (g 0))] := hl
  have hH : HP G A s.heap (w_O4 G g (g_ground 0) (g_air 0) V ++ w_O2 G g_ground V_ground ++ w_O1 G g_air V_air) s.heap [] := hH
  have hin1 : ∀ w ∈ u_ws RX1 TX1 4, w ∈ wsX4_firstFault := fun w h => List.mem_cons_of_mem _ (List.mem_append_left _ (List.mem_append_right _ h))
  have hin4 : ∀ w ∈ u_ws RX4 TX4 6, w ∈ wsX4_firstFault := fun w h => List.mem_cons_of_mem _ (List.mem_append_left _ (List.mem_append_left _ (List.mem_append_right _ h)))
  have hF : (kAp (f_X2_clear V_ground) (fun q1 => (kAp ((if (V.2.1 3) = 0 then (1 : Int32) else (if (f_X7_at 64 (V.1 0) (0 : Int32)) = (72 : Int32) then (0 : Int32) else (1 : Int32))) : Int32) (fun v4 => (kAp ((if v4 = 0 then (oI (oI V 4 ((0 : Int32) + (1 : Int32))) 5 v4) else (oI (oI V 4 (0 : Int32)) 5 v4)) : OV) (fun v9 => (kAp (lpb (f_X4_firstFault_L11) (cN (64 : Int32)) 0 (v9, (oI V_air 3 (0 : Int32)), q1)) (fun z16 => (if (z16.1.2.1 5) = 0 then ((-9 : Int32), z16.1, z16.2.2, z16.2.1) else ((z16.1.2.1 4), z16.1, z16.2.2, z16.2.1)))))))))) = F := hF
  refine lv_aload_n hx hb dX4_firstFault_0 rfl (lv_at hl 0 rfl) ?_
  refine kb_get (v := .ref (g_ground 0)) hx hb hts hin4 hown hK hH 0 rfl rfl rfl 1 (by decide) (hts (.fieldLink RX4 18 "CockWar$Reader" "ground" "LCockWar$Hill;") (List.mem_of_getElem? (i := 1) rfl)) (fun _ h9 => h9) rfl dX4_firstFault_1 ?_
  obtain ⟨q1, hq1⟩ : ∃ z, z = (f_X2_clear V_ground) := ⟨_, rfl⟩
  have hF := kAp_eq hF hq1
  refine kb_cv hH hA [2, 3, 4, 5, 6, 7] (Wc := (w_O2 G g_ground V_ground)) (Wc' := (w_O2 G g_ground q1)) (WS' := (w_O4 G g (g_ground 0) (g_air 0) V ++ w_O2 G g_ground q1 ++ w_O1 G g_air V_air)) rfl (by decide) rfl rfl (va_runVN (C := RX2) (As := []) (rest := []) ⟨hx, hb, hml, hown, hts⟩ (c_X2_clear l G g_ground V_ground hq1.symm _) ⟨va_cnB 0 hts gX4_firstFault_X2_clear_n37 rfl rfl rfl (kb_NM hN 15 rfl) (hts (.initialized RX2) (List.mem_of_getElem? (i := 8) rfl)) hd_X2_clear ⟨Nat.le_of_ble_eq_true rfl, Nat.le_of_ble_eq_true rfl⟩, (hts (.instanceMethod yX2_clear) (List.mem_of_getElem? (i := 7) rfl)), (hts (.selects RX2 yX2_clear yX2_clear) (List.mem_of_getElem? (i := 9) rfl))⟩ (kb_preV hH hK hN [2, 3, 4, 5, 6, 7] rfl (by decide) 2 rfl rfl rfl rfl) rfl rfl hl.1 rfl (lv_room (Nat.le_of_ble_eq_true rfl)) dX4_firstFault_4 ⟨Nat.le_of_ble_eq_true rfl, Nat.le_of_ble_eq_true rfl⟩) (fun H locs hH => ?_)
  refine lv_aload_n hx hb dX4_firstFault_7 rfl (lv_at hl 0 rfl) ?_
  refine kb_get (v := .ref (g_air 0)) hx hb hts hin4 hown hK hH 0 rfl rfl rfl 2 (by decide) (hts (.fieldLink RX4 25 "CockWar$Reader" "air" "LCockWar$Air;") (List.mem_of_getElem? (i := 2) rfl)) (fun _ h9 => h9) rfl dX4_firstFault_8 ?_
  refine lv_iconst (v := 0) hx hb dX4_firstFault_11 (by decide) ?_
  refine kb_putN (ty := .int) (v := .int (0 : Int32)) (WS' := (w_O4 G g (g_ground 0) (g_air 0) V ++ w_O2 G g_ground q1 ++ w_O1 G g_air (oI V_air 3 (0 : Int32)))) hx hb hts hin1 tyX1 tyX1_ok nmX1 hown hK hH 8 rfl rfl 3 (by decide) (kb_NF hN 25 rfl) (fun _ h9 => h9) rfl (by decide +kernel) rfl rfl (Nat.le_of_ble_eq_true rfl) rfl dX4_firstFault_12 (fun H locs hH => ?_)
  refine lv_aload_n hx hb dX4_firstFault_15 rfl (lv_at hl 0 rfl) ?_
  refine lv_iconst (v := 0) hx hb dX4_firstFault_16 (by decide) ?_
  refine kb_put (ty := .int) (v := .int (0 : Int32)) (WS' := (w_O4 G g (g_ground 0) (g_air 0) (oI V 4 (0 : Int32)) ++ w_O2 G g_ground q1 ++ w_O1 G g_air (oI V_air 3 (0 : Int32)))) hx hb hts hin4 tyX4 tyX4_ok nmX4 hown hK hH 0 rfl rfl 4 (by decide) (hts (.fieldLink RX4 43 "CockWar$Reader" "place" "I") (List.mem_of_getElem? (i := 3) rfl)) (fun _ h9 => h9) rfl (by decide +kernel) rfl rfl (Nat.le_of_ble_eq_true rfl) rfl dX4_firstFault_17 (fun H locs hH => ?_)
  refine lv_aload_n hx hb dX4_firstFault_20 rfl (lv_at hl 0 rfl) ?_
  refine lv_aload_n hx hb dX4_firstFault_21 rfl (lv_at hl 0 rfl) ?_
  refine kb_get (v := .int (V.2.1 3)) hx hb hts hin4 hown hK hH 0 rfl rfl rfl 3 (by decide) (hts (.fieldLink RX4 29 "CockWar$Reader" "length" "I") (List.mem_of_getElem? (i := 4) rfl)) (fun _ h9 => h9) rfl dX4_firstFault_22 ?_
  obtain ⟨v4, ev4⟩ : ∃ z : Int32, (if (V.2.1 3) = 0 then (1 : Int32) else (if (f_X7_at 64 (V.1 0) (0 : Int32)) = (72 : Int32) then (0 : Int32) else (1 : Int32))) = z := ⟨_, rfl⟩
  have hF := kAp_eq hF ev4.symm
  refine kb_cut (fun H locs ls => HP G A s.heap (w_O4 G g (g_ground 0) (g_air 0) (oI V 4 (0 : Int32)) ++ w_O2 G g_ground q1 ++ w_O1 G g_air (oI V_air 3 (0 : Int32))) H locs ∧ lv_has ls 2 [(0, .ref (g 0))]) 46 [.int v4, .ref (g 0)] (fun u2 => ?_) (fun H locs ls hX => ?_)
  · refine lv_if_eq (tgt := 41) hx hb dX4_firstFault_25 (by decide) (fun c5 => ?_) (fun c5 => ?_)
    · rw [if_pos c5] at ev4
      refine lv_iconst (v := 1) hx hb dX4_firstFault_41 (by decide) ?_
      refine lv_goto (tgt := 46) hx hb dX4_firstFault_42 (by decide) ?_
      subst ev4
      exact u2 _ _ _ ⟨hH, lv_sub hl [0] rfl⟩
    · rw [if_neg c5] at ev4
      refine lv_aload_n hx hb dX4_firstFault_28 rfl (lv_at hl 0 rfl) ?_
      refine kb_get (v := .ref (g 1)) hx hb hts hin4 hown hK hH 0 rfl rfl rfl 0 (by decide) (hts (.fieldLink RX4 9 "CockWar$Reader" "letters" "[I") (List.mem_of_getElem? (i := 5) rfl)) (fun _ h9 => h9) rfl dX4_firstFault_29 ?_
      refine lv_iconst (v := 0) hx hb dX4_firstFault_32 (by decide) ?_
      refine kb_ci hH hA [1] (Wc := ([b_arr G (g 1) 64 (V.1 0)])) (Wc' := ([b_arr G (g 1) 64 (V.1 0)])) (WS' := (w_O4 G g (g_ground 0) (g_air 0) (oI V 4 (0 : Int32)) ++ w_O2 G g_ground q1 ++ w_O1 G g_air (oI V_air 3 (0 : Int32)))) rfl (by decide) rfl rfl (va_runSN (As := [.ref (g 1), .int (0 : Int32)]) (rest := [.ref (g 0)]) ⟨hx, hb, hml, hown, hts⟩ (c_X7_at l G (g 1) 64 (V.1 0) (0 : Int32) (by decide) rfl _) ⟨va_cnB 2 hts gX4_firstFault_X7_at_n46 rfl rfl rfl (kb_NM hN 16 rfl) (hts (.initialized RX7) (List.mem_of_getElem? (i := 19) rfl)) hd_X7_at ⟨Nat.le_of_ble_eq_true rfl, Nat.le_of_ble_eq_true rfl⟩, (hts (.static yX7_at) (List.mem_of_getElem? (i := 18) rfl)), trivial⟩ (kb_preS hH hK hN [1] rfl (by decide)) rfl rfl hl.1 rfl (lv_room (Nat.le_of_ble_eq_true rfl)) dX4_firstFault_33 ⟨Nat.le_of_ble_eq_true rfl, Nat.le_of_ble_eq_true rfl⟩) (fun H locs hH => ?_)
      refine lv_bipush (v := 72) hx hb dX4_firstFault_36 (by decide) ?_
      refine lv_icmp_eq (tgt := 45) hx hb dX4_firstFault_38 (by decide) (fun c6 => ?_) (fun c6 => ?_)
      · rw [if_pos c6] at ev4
        refine lv_iconst (v := 0) hx hb dX4_firstFault_45 (by decide) ?_
        subst ev4
        exact u2 _ _ _ ⟨hH, lv_sub hl [0] rfl⟩
      · rw [if_neg c6] at ev4
        refine lv_iconst (v := 1) hx hb dX4_firstFault_41 (by decide) ?_
        refine lv_goto (tgt := 46) hx hb dX4_firstFault_42 (by decide) ?_
        subst ev4
        exact u2 _ _ _ ⟨hH, lv_sub hl [0] rfl⟩
  · obtain ⟨hH, hl⟩ := hX
    refine kb_put (ty := .boolean) (v := .int v4) (WS' := (w_O4 G g (g_ground 0) (g_air 0) (oI (oI V 4 (0 : Int32)) 5 v4) ++ w_O2 G g_ground q1 ++ w_O1 G g_air (oI V_air 3 (0 : Int32)))) hx hb hts hin4 tyX4 tyX4_ok nmX4 hown hK hH 0 rfl rfl 5 (by decide) (hts (.fieldLink RX4 50 "CockWar$Reader" "broken" "Z") (List.mem_of_getElem? (i := 6) rfl)) (fun _ h9 => h9) rfl (by decide +kernel) (kb_nar _ (by rw [← ev4]; (repeat' split) <;> simp)) (kb_fit _ (by rw [← ev4]; (repeat' split) <;> simp)) (Nat.le_of_ble_eq_true rfl) rfl dX4_firstFault_46 (fun H locs hH => ?_)
    refine lv_aload_n hx hb dX4_firstFault_49 rfl (lv_at hl 0 rfl) ?_
    refine kb_get (v := .int v4) hx hb hts hin4 hown hK hH 0 rfl rfl rfl 5 (by decide) (hts (.fieldLink RX4 50 "CockWar$Reader" "broken" "Z") (List.mem_of_getElem? (i := 6) rfl)) (fun _ h9 => h9) rfl dX4_firstFault_50 ?_
    obtain ⟨v9, ev9⟩ : ∃ z : OV, (if v4 = 0 then (oI (oI V 4 ((0 : Int32) + (1 : Int32))) 5 v4) else (oI (oI V 4 (0 : Int32)) 5 v4)) = z := ⟨_, rfl⟩
    have hF := kAp_eq hF ev9.symm
    refine kb_cut (fun H locs ls => HP G A s.heap (w_O4 G g (g_ground 0) (g_air 0) v9 ++ w_O2 G g_ground q1 ++ w_O1 G g_air (oI V_air 3 (0 : Int32))) H locs ∧ lv_has ls 2 [(0, .ref (g 0))]) 66 [] (fun u7 => ?_) (fun H locs ls hX => ?_)
    · refine lv_if_ne (tgt := 66) hx hb dX4_firstFault_53 (by decide) (fun c10 => ?_) (fun c10 => ?_)
      · rw [if_neg c10] at ev9
        subst ev9
        exact u7 _ _ _ ⟨hH, lv_sub hl [0] rfl⟩
      · rw [if_pos c10] at ev9
        refine lv_aload_n hx hb dX4_firstFault_56 rfl (lv_at hl 0 rfl) ?_
        refine lv_dup hx hb dX4_firstFault_57 rfl ?_
        refine kb_get (v := .int (0 : Int32)) hx hb hts hin4 hown hK hH 0 rfl rfl rfl 4 (by decide) (hts (.fieldLink RX4 43 "CockWar$Reader" "place" "I") (List.mem_of_getElem? (i := 3) rfl)) (fun _ h9 => h9) rfl dX4_firstFault_58 ?_
        refine lv_iconst (v := 1) hx hb dX4_firstFault_61 (by decide) ?_
        refine lv_iadd hx hb dX4_firstFault_62 ?_
        refine kb_put (ty := .int) (v := .int ((0 : Int32) + (1 : Int32))) (WS' := (w_O4 G g (g_ground 0) (g_air 0) (oI (oI V 4 ((0 : Int32) + (1 : Int32))) 5 v4) ++ w_O2 G g_ground q1 ++ w_O1 G g_air (oI V_air 3 (0 : Int32)))) hx hb hts hin4 tyX4 tyX4_ok nmX4 hown hK hH 0 rfl rfl 4 (by decide) (hts (.fieldLink RX4 43 "CockWar$Reader" "place" "I") (List.mem_of_getElem? (i := 3) rfl)) (fun _ h9 => h9) rfl (by decide +kernel) rfl rfl (Nat.le_of_ble_eq_true rfl) rfl dX4_firstFault_63 (fun H locs hH => ?_)
        subst ev9
        exact u7 _ _ _ ⟨hH, lv_sub hl [0] rfl⟩
    · obtain ⟨hH, hl⟩ := hX
      refine lv_iconst (v := 0) hx hb dX4_firstFault_66 (by decide) ?_
      refine lv_istore_n (lv' := [(1, .int (0 : Int32)), (0, .ref (g 0))]) hx hb dX4_firstFault_67 rfl hl (by decide) rfl (fun ls hl => ?_)
      obtain ⟨SFL11, hSFL11⟩ : ∃ z, z = (lpb (f_X4_firstFault_L11) (cN (64 : Int32)) 0 (v9, (oI V_air 3 (0 : Int32)), q1)) := ⟨_, rfl⟩
      have hF := kAp_eq hF hSFL11
      refine kb_cut (fun H locs ls => HP G A s.heap (w_O4 G g (g_ground 0) (g_air 0) SFL11.1 ++ w_O2 G g_ground SFL11.2.2 ++ w_O1 G g_air SFL11.2.1) H locs ∧ lv_has ls 2 [(0, .ref (g 0))]) 102 [] (fun EXL11 => ?_) (fun H locs ls hX => ?_)
      · refine kb_loop (σ := (OV × OV × OV)) (fun n i x => n + i = (cN (64 : Int32)) ∧ lpb (f_X4_firstFault_L11) n i x = SFL11) (fun iL11 x H locs ls => HP G A s.heap (w_O4 G g (g_ground 0) (g_air 0) x.1 ++ w_O2 G g_ground x.2.2 ++ w_O1 G g_air x.2.1) H locs ∧ lv_has ls 2 [(1, .int (nI iL11)), (0, .ref (g 0))]) (fun iL11 x H locs ls hI hX => ?_) (fun n iL11 x hI ihL11 H locs ls hX => ?_) (cN (64 : Int32)) 0 (v9, (oI V_air 3 (0 : Int32)), q1) _ _ _ ⟨Nat.add_zero _, hSFL11.symm⟩ ⟨hH, lv_sub hl [0, 1] rfl⟩
        · obtain ⟨L11a, L11b, L11c⟩ := x
          have hH : HP G A s.heap (w_O4 G g (g_ground 0) (g_air 0) L11a ++ w_O2 G g_ground L11c ++ w_O1 G g_air L11b) H locs := hX.1
          have hl : lv_has ls 2 [(1, .int (nI iL11)), (0, .ref (g 0))] := hX.2
          obtain ⟨hiL11, hs⟩ := hI
          have hiL11 : iL11 = (cN (64 : Int32)) := by omega
          refine lv_iload_n hx hb dX4_firstFault_68 rfl (lv_at hl 0 rfl) ?_
          refine lv_bipush (v := 64) hx hb dX4_firstFault_69 (by decide) ?_
          refine lv_icmp_ge (tgt := 102) hx hb dX4_firstFault_71 (by decide) (fun _ => ?_) (fun c => absurd (cN_end hiL11) c)
          exact EXL11 _ _ _ ⟨by subst hs; exact hH, by subst hs; exact lv_sub hl [1] rfl⟩
        · obtain ⟨L11a, L11b, L11c⟩ := x
          have hH : HP G A s.heap (w_O4 G g (g_ground 0) (g_air 0) L11a ++ w_O2 G g_ground L11c ++ w_O1 G g_air L11b) H locs := hX.1
          have hl : lv_has ls 2 [(1, .int (nI iL11)), (0, .ref (g 0))] := hX.2
          obtain ⟨hiL11, hs⟩ := hI
          have hltL11 : iL11 < (cN (64 : Int32)) := by omega
          obtain ⟨BVL11, hBd⟩ : ∃ z, (f_X4_firstFault_L11) iL11 (L11a, L11b, L11c) = z := ⟨_, rfl⟩
          have hBL11 : (if (L11a.2.1 5) = 0 then (if (L11a.2.1 3) ≤ (L11a.2.1 4) then (Sum.inr (L11a, L11b, L11c)) else (kAp (f_X4_readPart L11a L11c L11b) (fun q15 => (Sum.inl (q15.1, q15.2.2, q15.2.1))))) else (Sum.inr (L11a, L11b, L11c))) = BVL11 := hBd
          refine lv_iload_n hx hb dX4_firstFault_68 rfl (lv_at hl 0 rfl) ?_
          refine lv_bipush (v := 64) hx hb dX4_firstFault_69 (by decide) ?_
          refine lv_icmp_ge (tgt := 102) hx hb dX4_firstFault_71 (by decide) (fun c => absurd c (cN_ge hltL11)) (fun c12 => ?_)
          refine lv_aload_n hx hb dX4_firstFault_74 rfl (lv_at hl 1 rfl) ?_
          refine kb_get (v := .int (L11a.2.1 5)) hx hb hts hin4 hown hK hH 0 rfl rfl rfl 5 (by decide) (hts (.fieldLink RX4 50 "CockWar$Reader" "broken" "Z") (List.mem_of_getElem? (i := 6) rfl)) (fun _ h9 => h9) rfl dX4_firstFault_75 ?_
          refine lv_if_ne (tgt := 102) hx hb dX4_firstFault_78 (by decide) (fun c13 => ?_) (fun c13 => ?_)
          · rw [if_neg c13] at hBL11
            have hs := lpb_r hs (hBd.trans hBL11.symm)
            exact EXL11 _ _ _ ⟨by subst hs; exact hH, by subst hs; exact lv_sub hl [1] rfl⟩
          · rw [if_pos c13] at hBL11
            refine lv_aload_n hx hb dX4_firstFault_81 rfl (lv_at hl 1 rfl) ?_
            refine kb_get (v := .int (L11a.2.1 4)) hx hb hts hin4 hown hK hH 0 rfl rfl rfl 4 (by decide) (hts (.fieldLink RX4 43 "CockWar$Reader" "place" "I") (List.mem_of_getElem? (i := 3) rfl)) (fun _ h9 => h9) rfl dX4_firstFault_82 ?_
            refine lv_aload_n hx hb dX4_firstFault_85 rfl (lv_at hl 1 rfl) ?_
            refine kb_get (v := .int (L11a.2.1 3)) hx hb hts hin4 hown hK hH 0 rfl rfl rfl 3 (by decide) (hts (.fieldLink RX4 29 "CockWar$Reader" "length" "I") (List.mem_of_getElem? (i := 4) rfl)) (fun _ h9 => h9) rfl dX4_firstFault_86 ?_
            refine lv_icmp_ge (tgt := 102) hx hb dX4_firstFault_89 (by decide) (fun c14 => ?_) (fun c14 => ?_)
            · rw [if_pos c14] at hBL11
              have hs := lpb_r hs (hBd.trans hBL11.symm)
              exact EXL11 _ _ _ ⟨by subst hs; exact hH, by subst hs; exact lv_sub hl [1] rfl⟩
            · rw [if_neg c14] at hBL11
              refine lv_aload_n hx hb dX4_firstFault_92 rfl (lv_at hl 1 rfl) ?_
              obtain ⟨q15, hq15⟩ : ∃ z, z = (f_X4_readPart L11a L11c L11b) := ⟨_, rfl⟩
              have hBL11 := kAp_eq hBL11 hq15
              refine kb_cv hH hA [0, 1, 2, 3, 4, 5, 6, 7, 8, 9, 10, 11] (Wc := (w_O4 G g (g_ground 0) (g_air 0) L11a ++ w_O2 G g_ground L11c ++ w_O1 G g_air L11b)) (Wc' := (w_O4 G g (g_ground 0) (g_air 0) q15.1 ++ w_O2 G g_ground q15.2.1 ++ w_O1 G g_air q15.2.2)) (WS' := (w_O4 G g (g_ground 0) (g_air 0) q15.1 ++ w_O2 G g_ground q15.2.1 ++ w_O1 G g_air q15.2.2)) rfl (by decide) rfl rfl (va_runV (As := []) (rest := []) ⟨hx, hb, hml, hown, hts⟩ (c_X4_readPart l G g L11a g_ground L11c g_air L11b hq15.symm _) (cwV 0 hts gX4_firstFault_X4_readPart rfl rfl rfl he_X4_readPart ⟨Nat.le_of_ble_eq_true rfl, Nat.le_of_ble_eq_true rfl⟩) (kb_preV hH hK hN [0, 1, 2, 3, 4, 5, 6, 7, 8, 9, 10, 11] rfl (by decide) 0 rfl rfl rfl rfl) rfl rfl hl.1 rfl (lv_room (Nat.le_of_ble_eq_true rfl)) dX4_firstFault_93 ⟨Nat.le_of_ble_eq_true rfl, Nat.le_of_ble_eq_true rfl⟩) (fun H locs hH => ?_)
              refine lv_iinc (v := (nI (iL11 + 1))) (lv' := [(1, .int (nI (iL11 + 1))), (0, .ref (g 0))]) hx hb dX4_firstFault_96 hl (k := 0) rfl (nI_1 _) (by decide) rfl (fun ls hl => ?_)
              refine lv_goto (tgt := 68) hx hb dX4_firstFault_99 (by decide) ?_
              have hs := lpb_l hs (hBd.trans hBL11.symm)
              exact ihL11 _ _ _ _ ⟨by omega, hs⟩ ⟨hH, lv_sub hl [0, 1] rfl⟩
      · obtain ⟨hH, hl⟩ := hX
        refine lv_aload_n hx hb dX4_firstFault_102 rfl (lv_at hl 0 rfl) ?_
        refine kb_get (v := .int (SFL11.1.2.1 5)) hx hb hts hin4 hown hK hH 0 rfl rfl rfl 5 (by decide) (hts (.fieldLink RX4 50 "CockWar$Reader" "broken" "Z") (List.mem_of_getElem? (i := 6) rfl)) (fun _ h9 => h9) rfl dX4_firstFault_103 ?_
        refine lv_if_eq (tgt := 116) hx hb dX4_firstFault_106 (by decide) (fun c17 => ?_) (fun c17 => ?_)
        · rw [if_pos c17] at hF
          refine lv_bipush (v := -9) hx hb dX4_firstFault_116 (by decide) ?_
          subst hF
          exact kb_iret hx hb hr hH rfl rfl dX4_firstFault_118 hlocks
        · rw [if_neg c17] at hF
          refine lv_aload_n hx hb dX4_firstFault_109 rfl (lv_at hl 0 rfl) ?_
          refine kb_get (v := .int (SFL11.1.2.1 4)) hx hb hts hin4 hown hK hH 0 rfl rfl rfl 4 (by decide) (hts (.fieldLink RX4 43 "CockWar$Reader" "place" "I") (List.mem_of_getElem? (i := 3) rfl)) (fun _ h9 => h9) rfl dX4_firstFault_110 ?_
          refine lv_goto (tgt := 118) hx hb dX4_firstFault_113 (by decide) ?_
          subst hF
          exact kb_iret hx hb hr hH rfl rfl dX4_firstFault_118 hlocks
def f_X4_append (V : OV) (x0 : Int32) : (Int32 × OV) := (if (V.2.1 3) < (64 : Int32) then (kAp (f_X7_put 64 (V.1 0) (V.2.1 3) x0) (fun q2 => (((V.2.1 3) + (1 : Int32)), (oI (oA V 0 q2) 3 ((V.2.1 3) + (1 : Int32)))))) else ((-4 : Int32), V))
set_option maxHeartbeats 4000000 in
set_option maxRecDepth 100000 in
theorem c_X4_append (l : Launch) (G : Ge) (g : Nat → Nat) (a_ground : Nat) (a_air : Nat) (V : OV) (x0 : Int32) {F : (Int32 × OV)} (hF : f_X4_append V x0 = F) : CI l yX4_append wsX4_append { frames := 1, cells := 0, slots := 0, locals := 22 } [.ref (g 0), .int x0] G (w_O4 G g a_ground a_air V) (w_O4 G g a_ground a_air F.2) F.1 := by
  intro sz
  refine Met.ofW (cc := cX4_append) (maxL := 2) (ret := (some .int)) (by decide) rfl ?_
  intro p e s m args below meth c s₁ B hml hv
  obtain ⟨rfl, hpre⟩ := hv
  obtain ⟨hsz, hH, hK, hN, hA⟩ := kb_start hpre
  subst hsz
  have hx := B.exec
  have hb := B.bytes
  have hr := B.returns
  have hts := atoms_spec (ws := wsX4_append) B.pre
  have hown : s.vm.findClass RX4 = some m.cls := findClass_of_methodNamed B.named
  have hlocks := B.notSynchronized
  generalize hAe : va_A (List.flatten (w_O4 G g a_ground a_air V)) s.heap.size = A at hH hA ⊢
  have hl := lv_entry ([.ref (g 0), .int x0]) (n := 2) (Nat.le_of_ble_eq_true rfl)
  rw [lg_entry_eq]
  generalize (lg_sl ([.ref (g 0), .int x0]) ++ List.replicate (2 - (lg_sl ([.ref (g 0), .int x0])).length) Slot.unset).toArray = ls at hl ⊢
  have hl : lv_has ls 2 [(0, .ref (g 0)), (1, .int x0)] := hl
  have hH : HP G A s.heap (w_O4 G g a_ground a_air V) s.heap [] := hH
  have hin4 : ∀ w ∈ u_ws RX4 TX4 6, w ∈ wsX4_append := fun w h => List.mem_cons_of_mem _ (List.mem_append_right _ h)
  have hF : (if (V.2.1 3) < (64 : Int32) then (kAp (f_X7_put 64 (V.1 0) (V.2.1 3) x0) (fun q2 => (((V.2.1 3) + (1 : Int32)), (oI (oA V 0 q2) 3 ((V.2.1 3) + (1 : Int32)))))) else ((-4 : Int32), V)) = F := hF
  refine lv_aload_n hx hb dX4_append_0 rfl (lv_at hl 0 rfl) ?_
  refine kb_get (v := .int (V.2.1 3)) hx hb hts hin4 hown hK hH 0 rfl rfl rfl 3 (by decide) (hts (.fieldLink RX4 29 "CockWar$Reader" "length" "I") (List.mem_of_getElem? (i := 1) rfl)) (fun _ h9 => h9) rfl dX4_append_1 ?_
  refine lv_bipush (v := 64) hx hb dX4_append_4 (by decide) ?_
  refine lv_icmp_lt (tgt := 12) hx hb dX4_append_6 (by decide) (fun c1 => ?_) (fun c1 => ?_)
  · rw [if_pos c1] at hF
    refine lv_aload_n hx hb dX4_append_12 rfl (lv_at hl 0 rfl) ?_
    refine kb_get (v := .ref (g 1)) hx hb hts hin4 hown hK hH 0 rfl rfl rfl 0 (by decide) (hts (.fieldLink RX4 9 "CockWar$Reader" "letters" "[I") (List.mem_of_getElem? (i := 2) rfl)) (fun _ h9 => h9) rfl dX4_append_13 ?_
    refine lv_aload_n hx hb dX4_append_16 rfl (lv_at hl 0 rfl) ?_
    refine kb_get (v := .int (V.2.1 3)) hx hb hts hin4 hown hK hH 0 rfl rfl rfl 3 (by decide) (hts (.fieldLink RX4 29 "CockWar$Reader" "length" "I") (List.mem_of_getElem? (i := 1) rfl)) (fun _ h9 => h9) rfl dX4_append_17 ?_
    refine lv_iload_n hx hb dX4_append_20 rfl (lv_at hl 1 rfl) ?_
    obtain ⟨q2, hq2⟩ : ∃ z, z = (f_X7_put 64 (V.1 0) (V.2.1 3) x0) := ⟨_, rfl⟩
    have hF := kAp_eq hF hq2
    refine kb_cv hH hA [1] (Wc := ([b_arr G (g 1) 64 (V.1 0)])) (Wc' := ([b_arr G (g 1) 64 q2])) (WS' := (w_O4 G g a_ground a_air (oA V 0 q2))) rfl (by decide) rfl rfl (va_runSN (As := [.ref (g 1), .int (V.2.1 3), .int x0]) (rest := []) ⟨hx, hb, hml, hown, hts⟩ (c_X7_put l G (g 1) 64 (V.1 0) (V.2.1 3) x0 (by decide) hq2.symm _) ⟨va_cnB 3 hts gX4_append_X7_put_n33 rfl rfl rfl (kb_NM hN 13 rfl) (hts (.initialized RX7) (List.mem_of_getElem? (i := 4) rfl)) hd_X7_put ⟨Nat.le_of_ble_eq_true rfl, Nat.le_of_ble_eq_true rfl⟩, (hts (.static yX7_put) (List.mem_of_getElem? (i := 3) rfl)), trivial⟩ (kb_preS hH hK hN [1] rfl (by decide)) rfl rfl hl.1 rfl (lv_room (Nat.le_of_ble_eq_true rfl)) dX4_append_21 ⟨Nat.le_of_ble_eq_true rfl, Nat.le_of_ble_eq_true rfl⟩) (fun H locs hH => ?_)
    refine lv_aload_n hx hb dX4_append_24 rfl (lv_at hl 0 rfl) ?_
    refine lv_dup hx hb dX4_append_25 rfl ?_
    refine kb_get (v := .int (V.2.1 3)) hx hb hts hin4 hown hK hH 0 rfl rfl rfl 3 (by decide) (hts (.fieldLink RX4 29 "CockWar$Reader" "length" "I") (List.mem_of_getElem? (i := 1) rfl)) (fun _ h9 => h9) rfl dX4_append_26 ?_
    refine lv_iconst (v := 1) hx hb dX4_append_29 (by decide) ?_
    refine lv_iadd hx hb dX4_append_30 ?_
    refine kb_put (ty := .int) (v := .int ((V.2.1 3) + (1 : Int32))) (WS' := (w_O4 G g a_ground a_air (oI (oA V 0 q2) 3 ((V.2.1 3) + (1 : Int32))))) hx hb hts hin4 tyX4 tyX4_ok nmX4 hown hK hH 0 rfl rfl 3 (by decide) (hts (.fieldLink RX4 29 "CockWar$Reader" "length" "I") (List.mem_of_getElem? (i := 1) rfl)) (fun _ h9 => h9) rfl (by decide +kernel) rfl rfl (Nat.le_of_ble_eq_true rfl) rfl dX4_append_31 (fun H locs hH => ?_)
    refine lv_aload_n hx hb dX4_append_34 rfl (lv_at hl 0 rfl) ?_
    refine kb_get (v := .int ((V.2.1 3) + (1 : Int32))) hx hb hts hin4 hown hK hH 0 rfl rfl rfl 3 (by decide) (hts (.fieldLink RX4 29 "CockWar$Reader" "length" "I") (List.mem_of_getElem? (i := 1) rfl)) (fun _ h9 => h9) rfl dX4_append_35 ?_
    subst hF
    exact kb_iret hx hb hr hH rfl rfl dX4_append_38 hlocks
  · rw [if_neg c1] at hF
    refine lv_bipush (v := -4) hx hb dX4_append_9 (by decide) ?_
    subst hF
    exact kb_iret hx hb hr hH rfl rfl dX4_append_11 hlocks
