theorem kb_z1 {x : Int32} (h : ¬ x < 0) : 0 ≤ x := by rw [Int32.lt_iff_toInt_lt] at h; rw [Int32.le_iff_toInt_le]; omega
theorem kb_z2 {x : Int32} (h : x < 0) : ¬ 0 ≤ x := by rw [Int32.lt_iff_toInt_lt] at h; rw [Int32.le_iff_toInt_le]; omega
theorem kb_z3 {x : Int32} (h : 0 ≤ x) : ¬ x < 0 := by rw [Int32.le_iff_toInt_le] at h; rw [Int32.lt_iff_toInt_lt]; omega
theorem kb_z4 {x : Int32} (h : ¬ 0 ≤ x) : x < 0 := by rw [Int32.le_iff_toInt_le] at h; rw [Int32.lt_iff_toInt_lt]; omega
theorem hd_X8_tryTrees : yX8_tryTrees.cls ≠ "java/lang/invoke/MethodHandle" ∧ yX8_tryTrees.cls ≠ "java/lang/invoke/VarHandle" ∧ (parseMethodDescriptor yX8_tryTrees.desc).map (fun d => d.parameters.length) = some 3 := by decide +kernel
theorem he_X8_tryTrees : yX8_tryTrees.cls = RX8 ∧ yX8_tryTrees.cls ≠ "java/lang/invoke/MethodHandle" ∧ yX8_tryTrees.cls ≠ "java/lang/invoke/VarHandle" ∧ (parseMethodDescriptor yX8_tryTrees.desc).map (fun d => d.parameters.length) = some 3 := ⟨rfl, hd_X8_tryTrees⟩
theorem hd_X8_placing : yX8_placing.cls ≠ "java/lang/invoke/MethodHandle" ∧ yX8_placing.cls ≠ "java/lang/invoke/VarHandle" ∧ (parseMethodDescriptor yX8_placing.desc).map (fun d => d.parameters.length) = some 2 := by decide +kernel
theorem he_X8_placing : yX8_placing.cls = RX8 ∧ yX8_placing.cls ≠ "java/lang/invoke/MethodHandle" ∧ yX8_placing.cls ≠ "java/lang/invoke/VarHandle" ∧ (parseMethodDescriptor yX8_placing.desc).map (fun d => d.parameters.length) = some 2 := ⟨rfl, hd_X8_placing⟩
theorem hd_X8_layTrial : yX8_layTrial.cls ≠ "java/lang/invoke/MethodHandle" ∧ yX8_layTrial.cls ≠ "java/lang/invoke/VarHandle" ∧ (parseMethodDescriptor yX8_layTrial.desc).map (fun d => d.parameters.length) = some 0 := by decide +kernel
theorem he_X8_layTrial : yX8_layTrial.cls = RX8 ∧ yX8_layTrial.cls ≠ "java/lang/invoke/MethodHandle" ∧ yX8_layTrial.cls ≠ "java/lang/invoke/VarHandle" ∧ (parseMethodDescriptor yX8_layTrial.desc).map (fun d => d.parameters.length) = some 0 := ⟨rfl, hd_X8_layTrial⟩
theorem hd_X8_treesNow : yX8_treesNow.cls ≠ "java/lang/invoke/MethodHandle" ∧ yX8_treesNow.cls ≠ "java/lang/invoke/VarHandle" ∧ (parseMethodDescriptor yX8_treesNow.desc).map (fun d => d.parameters.length) = some 0 := by decide +kernel
theorem he_X8_treesNow : yX8_treesNow.cls = RX8 ∧ yX8_treesNow.cls ≠ "java/lang/invoke/MethodHandle" ∧ yX8_treesNow.cls ≠ "java/lang/invoke/VarHandle" ∧ (parseMethodDescriptor yX8_treesNow.desc).map (fun d => d.parameters.length) = some 0 := ⟨rfl, hd_X8_treesNow⟩
theorem hd_X8_trees : yX8_trees.cls ≠ "java/lang/invoke/MethodHandle" ∧ yX8_trees.cls ≠ "java/lang/invoke/VarHandle" ∧ (parseMethodDescriptor yX8_trees.desc).map (fun d => d.parameters.length) = some 2 := by decide +kernel
theorem he_X8_trees : yX8_trees.cls = RX8 ∧ yX8_trees.cls ≠ "java/lang/invoke/MethodHandle" ∧ yX8_trees.cls ≠ "java/lang/invoke/VarHandle" ∧ (parseMethodDescriptor yX8_trees.desc).map (fun d => d.parameters.length) = some 2 := ⟨rfl, hd_X8_trees⟩
theorem hd_X8_decides : yX8_decides.cls ≠ "java/lang/invoke/MethodHandle" ∧ yX8_decides.cls ≠ "java/lang/invoke/VarHandle" ∧ (parseMethodDescriptor yX8_decides.desc).map (fun d => d.parameters.length) = some 1 := by decide +kernel
theorem he_X8_decides : yX8_decides.cls = RX8 ∧ yX8_decides.cls ≠ "java/lang/invoke/MethodHandle" ∧ yX8_decides.cls ≠ "java/lang/invoke/VarHandle" ∧ (parseMethodDescriptor yX8_decides.desc).map (fun d => d.parameters.length) = some 1 := ⟨rfl, hd_X8_decides⟩
theorem hd_X8_power : yX8_power.cls ≠ "java/lang/invoke/MethodHandle" ∧ yX8_power.cls ≠ "java/lang/invoke/VarHandle" ∧ (parseMethodDescriptor yX8_power.desc).map (fun d => d.parameters.length) = some 1 := by decide +kernel
theorem he_X8_power : yX8_power.cls = RX8 ∧ yX8_power.cls ≠ "java/lang/invoke/MethodHandle" ∧ yX8_power.cls ≠ "java/lang/invoke/VarHandle" ∧ (parseMethodDescriptor yX8_power.desc).map (fun d => d.parameters.length) = some 1 := ⟨rfl, hd_X8_power⟩
theorem hd_X8_tenTo : yX8_tenTo.cls ≠ "java/lang/invoke/MethodHandle" ∧ yX8_tenTo.cls ≠ "java/lang/invoke/VarHandle" ∧ (parseMethodDescriptor yX8_tenTo.desc).map (fun d => d.parameters.length) = some 1 := by decide +kernel
theorem he_X8_tenTo : yX8_tenTo.cls = RX8 ∧ yX8_tenTo.cls ≠ "java/lang/invoke/MethodHandle" ∧ yX8_tenTo.cls ≠ "java/lang/invoke/VarHandle" ∧ (parseMethodDescriptor yX8_tenTo.desc).map (fun d => d.parameters.length) = some 1 := ⟨rfl, hd_X8_tenTo⟩
theorem hd_X8_judge : yX8_judge.cls ≠ "java/lang/invoke/MethodHandle" ∧ yX8_judge.cls ≠ "java/lang/invoke/VarHandle" ∧ (parseMethodDescriptor yX8_judge.desc).map (fun d => d.parameters.length) = some 2 := by decide +kernel
theorem he_X8_judge : yX8_judge.cls = RX8 ∧ yX8_judge.cls ≠ "java/lang/invoke/MethodHandle" ∧ yX8_judge.cls ≠ "java/lang/invoke/VarHandle" ∧ (parseMethodDescriptor yX8_judge.desc).map (fun d => d.parameters.length) = some 2 := ⟨rfl, hd_X8_judge⟩
theorem hd_X8_see : yX8_see.cls ≠ "java/lang/invoke/MethodHandle" ∧ yX8_see.cls ≠ "java/lang/invoke/VarHandle" ∧ (parseMethodDescriptor yX8_see.desc).map (fun d => d.parameters.length) = some 2 := by decide +kernel
theorem he_X8_see : yX8_see.cls = RX8 ∧ yX8_see.cls ≠ "java/lang/invoke/MethodHandle" ∧ yX8_see.cls ≠ "java/lang/invoke/VarHandle" ∧ (parseMethodDescriptor yX8_see.desc).map (fun d => d.parameters.length) = some 2 := ⟨rfl, hd_X8_see⟩
theorem hd_X8_unsee : yX8_unsee.cls ≠ "java/lang/invoke/MethodHandle" ∧ yX8_unsee.cls ≠ "java/lang/invoke/VarHandle" ∧ (parseMethodDescriptor yX8_unsee.desc).map (fun d => d.parameters.length) = some 0 := by decide +kernel
theorem he_X8_unsee : yX8_unsee.cls = RX8 ∧ yX8_unsee.cls ≠ "java/lang/invoke/MethodHandle" ∧ yX8_unsee.cls ≠ "java/lang/invoke/VarHandle" ∧ (parseMethodDescriptor yX8_unsee.desc).map (fun d => d.parameters.length) = some 0 := ⟨rfl, hd_X8_unsee⟩
def f_X8_tryTrees_L1 (x0 : Int32) (x1 : Int32) (x2 : Int32) (s : (Int32 × OV)) : (Int32 × OV) ⊕ (Int32 × OV) := (if (10 : Int32) ≤ s.1 then (Sum.inr (s.1, s.2)) else (kAp ((if 0 ≤ s.1 then ((s.2.1 5) ((12 : Int32) + s.1).toNatClampNeg) else (0 : Int32)) : Int32) (fun v5 => (if s.1 < 0 then (if (f_X8_yearOf (oA s.2 5 (upd (s.2.1 5) ((12 : Int32) + (0 : Int32)).toNatClampNeg ((s.2.1 5) ((12 : Int32) + (0 : Int32)).toNatClampNeg))) x0) ≤ (s.2.2.1 21) then (Sum.inl ((s.1 + (1 : Int32)), (oA s.2 5 (upd (upd (s.2.1 5) ((12 : Int32) + (0 : Int32)).toNatClampNeg ((s.2.1 5) ((12 : Int32) + (0 : Int32)).toNatClampNeg)) ((12 : Int32) + (0 : Int32)).toNatClampNeg ((s.2.1 5) ((12 : Int32) + (0 : Int32)).toNatClampNeg))))) else (Sum.inl ((s.1 + (1 : Int32)), (oI (oI (oI (oI (oA s.2 5 (upd (upd (s.2.1 5) ((12 : Int32) + (0 : Int32)).toNatClampNeg ((s.2.1 5) ((12 : Int32) + (0 : Int32)).toNatClampNeg)) ((12 : Int32) + (0 : Int32)).toNatClampNeg ((s.2.1 5) ((12 : Int32) + (0 : Int32)).toNatClampNeg))) 21 (f_X8_yearOf (oA s.2 5 (upd (s.2.1 5) ((12 : Int32) + (0 : Int32)).toNatClampNeg ((s.2.1 5) ((12 : Int32) + (0 : Int32)).toNatClampNeg))) x0)) 22 x1) 23 x2) 24 (-9 : Int32))))) else (if v5 ≤ 0 then (Sum.inl ((s.1 + (1 : Int32)), s.2)) else (if (f_X8_yearOf (oA s.2 5 (upd (s.2.1 5) ((12 : Int32) + s.1).toNatClampNeg (0 : Int32))) x0) ≤ (s.2.2.1 21) then (Sum.inl ((s.1 + (1 : Int32)), (oA s.2 5 (upd (upd (s.2.1 5) ((12 : Int32) + s.1).toNatClampNeg (0 : Int32)) ((12 : Int32) + s.1).toNatClampNeg ((s.2.1 5) ((12 : Int32) + s.1).toNatClampNeg))))) else (Sum.inl ((s.1 + (1 : Int32)), (oI (oI (oI (oI (oA s.2 5 (upd (upd (s.2.1 5) ((12 : Int32) + s.1).toNatClampNeg (0 : Int32)) ((12 : Int32) + s.1).toNatClampNeg ((s.2.1 5) ((12 : Int32) + s.1).toNatClampNeg))) 21 (f_X8_yearOf (oA s.2 5 (upd (s.2.1 5) ((12 : Int32) + s.1).toNatClampNeg (0 : Int32))) x0)) 22 x1) 23 x2) 24 s.1)))))))))
def d_X8_tryTrees_L1 (x0 : Int32) (x1 : Int32) (x2 : Int32) (s : (Int32 × OV)) : Prop := (¬ ((10 : Int32) ≤ s.1) → ((0 ≤ s.1 → vp_in ((12 : Int32) + s.1) 54) ∧ (kAp ((if 0 ≤ s.1 then ((s.2.1 5) ((12 : Int32) + s.1).toNatClampNeg) else (0 : Int32)) : Int32) (fun v5 => ((s.1 < 0 → (vp_in ((12 : Int32) + (0 : Int32)) 54 ∧ (vp_in ((12 : Int32) + (0 : Int32)) 54 ∧ ((d_X8_yearOf (oA s.2 5 (upd (s.2.1 5) ((12 : Int32) + (0 : Int32)).toNatClampNeg ((s.2.1 5) ((12 : Int32) + (0 : Int32)).toNatClampNeg))) x0) ∧ vp_in ((12 : Int32) + (0 : Int32)) 54)))) ∧ (¬ (s.1 < 0) → (¬ (v5 ≤ 0) → (vp_in ((12 : Int32) + s.1) 54 ∧ (vp_in ((12 : Int32) + s.1) 54 ∧ ((d_X8_yearOf (oA s.2 5 (upd (s.2.1 5) ((12 : Int32) + s.1).toNatClampNeg (0 : Int32))) x0) ∧ vp_in ((12 : Int32) + s.1) 54))))))))))
def f_X8_tryTrees (V : OV) (x0 : Int32) (x1 : Int32) (x2 : Int32) : (OV) := (kAp (lpw (f_X8_tryTrees_L1 x0 x1 x2) 70 ((-1 : Int32), V)) (fun z20 => z20.2))
def d_X8_tryTrees (V : OV) (x0 : Int32) (x1 : Int32) (x2 : Int32) : Prop := (lpwD (f_X8_tryTrees_L1 x0 x1 x2) (d_X8_tryTrees_L1 x0 x1 x2) 70 ((-1 : Int32), V))
set_option maxHeartbeats 4000000 in
set_option maxRecDepth 100000 in
theorem c_X8_tryTrees (l : Launch) (G : Ge) (g : Nat → Nat) (V : OV) (x0 : Int32) (x1 : Int32) (x2 : Int32) (hD : d_X8_tryTrees V x0 x1 x2) {F : (OV)} (hF : f_X8_tryTrees V x0 x1 x2 = F) : CV l yX8_tryTrees wsX8_tryTrees { frames := 5, cells := 0, slots := 0, locals := 121 } [.ref (g 0), .int x0, .int x1, .int x2] G (w_O8 G g V) (w_O8 G g F) := by
  intro sz
  refine Met.ofW (cc := cX8_tryTrees) (maxL := 9) (ret := none) (by decide) rfl ?_
  intro p e s m args below meth c s₁ B hml hv
  obtain ⟨rfl, hpre⟩ := hv
  obtain ⟨hsz, hH, hK, hN, hA⟩ := kb_start hpre
  subst hsz
  have hx := B.exec
  have hb := B.bytes
  have hr := B.returns
  have hts := atoms_spec (ws := wsX8_tryTrees) B.pre
  have hown : s.vm.findClass RX8 = some m.cls := findClass_of_methodNamed B.named
  have hlocks := B.notSynchronized
  generalize hAe : va_A (List.flatten (w_O8 G g V)) s.heap.size = A at hH hA ⊢
  have hl := lv_entry ([.ref (g 0), .int x0, .int x1, .int x2]) (n := 9) (Nat.le_of_ble_eq_true rfl)
  rw [lg_entry_eq]
  generalize (lg_sl ([.ref (g 0), .int x0, .int x1, .int x2]) ++ List.replicate (9 - (lg_sl ([.ref (g 0), .int x0, .int x1, .int x2])).length) Slot.unset).toArray = ls at hl ⊢
  have hl : lv_has ls 9 [(0, .ref (g 0)), (1, .int x0), (2, .int x1), (3, .int x2)] := hl
  have hH : HP G A s.heap (w_O8 G g V) s.heap [] := hH
  have hin8 : ∀ w ∈ u_ws RX8 TX8 31, w ∈ wsX8_tryTrees := fun w h => List.mem_cons_of_mem _ (List.mem_append_right _ h)
  have hF : (kAp (lpw (f_X8_tryTrees_L1 x0 x1 x2) 70 ((-1 : Int32), V)) (fun z20 => z20.2)) = F := hF
  have hD : (lpwD (f_X8_tryTrees_L1 x0 x1 x2) (d_X8_tryTrees_L1 x0 x1 x2) 70 ((-1 : Int32), V)) := hD
  refine lv_iconst (v := -1) hx hb dX8_tryTrees_0 (by decide) ?_
  refine lv_istore (lv' := [(4, .int (-1 : Int32)), (0, .ref (g 0)), (1, .int x0), (2, .int x1), (3, .int x2)]) hx hb dX8_tryTrees_1 hl (by decide) rfl (fun ls hl => ?_)
  have hDlL1 := hD
  obtain ⟨SFL1, hSFL1⟩ : ∃ z, z = (lpw (f_X8_tryTrees_L1 x0 x1 x2) 70 ((-1 : Int32), V)) := ⟨_, rfl⟩
  have hF := kAp_eq hF hSFL1
  refine kb_cut (fun H locs ls => HP G A s.heap (w_O8 G g SFL1.2) H locs ∧ lv_has ls 9 []) 147 [] (fun EXL1 => ?_) (fun H locs ls hX => ?_)
  · refine kb_loop (σ := (Int32 × OV)) (fun n i x => True ∧ lpw (f_X8_tryTrees_L1 x0 x1 x2) n x = SFL1 ∧ lpwD (f_X8_tryTrees_L1 x0 x1 x2) (d_X8_tryTrees_L1 x0 x1 x2) n x) (fun iL1 x H locs ls => HP G A s.heap (w_O8 G g x.2) H locs ∧ lv_has ls 9 [(4, .int x.1), (0, .ref (g 0)), (1, .int x0), (2, .int x1), (3, .int x2)]) (fun iL1 x H locs ls hI hX => ?_) (fun n iL1 x hI ihL1 H locs ls hX => ?_) 70 0 ((-1 : Int32), V) _ _ _ ⟨trivial, hSFL1.symm, hDlL1⟩ ⟨hH, lv_sub hl [0, 1, 2, 3, 4] rfl⟩
    · obtain ⟨L1a, L1b⟩ := x
      have hH : HP G A s.heap (w_O8 G g L1b) H locs := hX.1
      have hl : lv_has ls 9 [(4, .int L1a), (0, .ref (g 0)), (1, .int x0), (2, .int x1), (3, .int x2)] := hX.2
      exact absurd hI.2.2 (by simp [lpwD])
    · obtain ⟨L1a, L1b⟩ := x
      have hH : HP G A s.heap (w_O8 G g L1b) H locs := hX.1
      have hl : lv_has ls 9 [(4, .int L1a), (0, .ref (g 0)), (1, .int x0), (2, .int x1), (3, .int x2)] := hX.2
      obtain ⟨hiL1, hs, hDi⟩ := hI
      obtain ⟨hD, hDn⟩ := hDi
      have hD : (¬ ((10 : Int32) ≤ L1a) → ((0 ≤ L1a → vp_in ((12 : Int32) + L1a) 54) ∧ (kAp ((if 0 ≤ L1a then ((L1b.1 5) ((12 : Int32) + L1a).toNatClampNeg) else (0 : Int32)) : Int32) (fun v5 => ((L1a < 0 → (vp_in ((12 : Int32) + (0 : Int32)) 54 ∧ (vp_in ((12 : Int32) + (0 : Int32)) 54 ∧ ((d_X8_yearOf (oA L1b 5 (upd (L1b.1 5) ((12 : Int32) + (0 : Int32)).toNatClampNeg ((L1b.1 5) ((12 : Int32) + (0 : Int32)).toNatClampNeg))) x0) ∧ vp_in ((12 : Int32) + (0 : Int32)) 54)))) ∧ (¬ (L1a < 0) → (¬ (v5 ≤ 0) → (vp_in ((12 : Int32) + L1a) 54 ∧ (vp_in ((12 : Int32) + L1a) 54 ∧ ((d_X8_yearOf (oA L1b 5 (upd (L1b.1 5) ((12 : Int32) + L1a).toNatClampNeg (0 : Int32))) x0) ∧ vp_in ((12 : Int32) + L1a) 54)))))))))) := hD
      obtain ⟨BVL1, hBd⟩ : ∃ z, (f_X8_tryTrees_L1 x0 x1 x2) (L1a, L1b) = z := ⟨_, rfl⟩
      have hBL1 : (if (10 : Int32) ≤ L1a then (Sum.inr (L1a, L1b)) else (kAp ((if 0 ≤ L1a then ((L1b.1 5) ((12 : Int32) + L1a).toNatClampNeg) else (0 : Int32)) : Int32) (fun v5 => (if L1a < 0 then (if (f_X8_yearOf (oA L1b 5 (upd (L1b.1 5) ((12 : Int32) + (0 : Int32)).toNatClampNeg ((L1b.1 5) ((12 : Int32) + (0 : Int32)).toNatClampNeg))) x0) ≤ (L1b.2.1 21) then (Sum.inl ((L1a + (1 : Int32)), (oA L1b 5 (upd (upd (L1b.1 5) ((12 : Int32) + (0 : Int32)).toNatClampNeg ((L1b.1 5) ((12 : Int32) + (0 : Int32)).toNatClampNeg)) ((12 : Int32) + (0 : Int32)).toNatClampNeg ((L1b.1 5) ((12 : Int32) + (0 : Int32)).toNatClampNeg))))) else (Sum.inl ((L1a + (1 : Int32)), (oI (oI (oI (oI (oA L1b 5 (upd (upd (L1b.1 5) ((12 : Int32) + (0 : Int32)).toNatClampNeg ((L1b.1 5) ((12 : Int32) + (0 : Int32)).toNatClampNeg)) ((12 : Int32) + (0 : Int32)).toNatClampNeg ((L1b.1 5) ((12 : Int32) + (0 : Int32)).toNatClampNeg))) 21 (f_X8_yearOf (oA L1b 5 (upd (L1b.1 5) ((12 : Int32) + (0 : Int32)).toNatClampNeg ((L1b.1 5) ((12 : Int32) + (0 : Int32)).toNatClampNeg))) x0)) 22 x1) 23 x2) 24 (-9 : Int32))))) else (if v5 ≤ 0 then (Sum.inl ((L1a + (1 : Int32)), L1b)) else (if (f_X8_yearOf (oA L1b 5 (upd (L1b.1 5) ((12 : Int32) + L1a).toNatClampNeg (0 : Int32))) x0) ≤ (L1b.2.1 21) then (Sum.inl ((L1a + (1 : Int32)), (oA L1b 5 (upd (upd (L1b.1 5) ((12 : Int32) + L1a).toNatClampNeg (0 : Int32)) ((12 : Int32) + L1a).toNatClampNeg ((L1b.1 5) ((12 : Int32) + L1a).toNatClampNeg))))) else (Sum.inl ((L1a + (1 : Int32)), (oI (oI (oI (oI (oA L1b 5 (upd (upd (L1b.1 5) ((12 : Int32) + L1a).toNatClampNeg (0 : Int32)) ((12 : Int32) + L1a).toNatClampNeg ((L1b.1 5) ((12 : Int32) + L1a).toNatClampNeg))) 21 (f_X8_yearOf (oA L1b 5 (upd (L1b.1 5) ((12 : Int32) + L1a).toNatClampNeg (0 : Int32))) x0)) 22 x1) 23 x2) 24 L1a))))))))) = BVL1 := hBd
      refine lv_iload hx hb dX8_tryTrees_3 (lv_at hl 0 rfl) ?_
      refine lv_bipush (v := 10) hx hb dX8_tryTrees_5 (by decide) ?_
      refine lv_icmp_ge (tgt := 147) hx hb dX8_tryTrees_7 (by decide) (fun c2 => ?_) (fun c2 => ?_)
      · rw [if_pos c2] at hBL1
        have hs := lpw_r hs (hBd.trans hBL1.symm)
        exact EXL1 _ _ _ ⟨by subst hs; exact hH, by subst hs; exact lv_sub hl [] rfl⟩
      · have hD := hD c2
        rw [if_neg c2] at hBL1
        refine lv_iload hx hb dX8_tryTrees_10 (lv_at hl 0 rfl) ?_
        obtain ⟨v5, ev5⟩ : ∃ z : Int32, (if 0 ≤ L1a then ((L1b.1 5) ((12 : Int32) + L1a).toNatClampNeg) else (0 : Int32)) = z := ⟨_, rfl⟩
        have hBL1 := kAp_eq hBL1 ev5.symm
        obtain ⟨hDr, hD⟩ := hD
        have hD := kAp_D hD ev5.symm
        refine kb_cut (fun H locs ls => HP G A s.heap (w_O8 G g L1b) H locs ∧ lv_has ls 9 [(4, .int L1a), (0, .ref (g 0)), (1, .int x0), (2, .int x1), (3, .int x2)]) 29 [.int v5] (fun u3 => ?_) (fun H locs ls hX => ?_)
        · have hD := hDr
          refine lv_if_ge (tgt := 19) hx hb dX8_tryTrees_12 (by decide) (fun c6 => ?_) (fun c6 => ?_)
          · have hD := hD c6
            rw [if_pos c6] at ev5
            refine lv_aload_n hx hb dX8_tryTrees_19 rfl (lv_at hl 1 rfl) ?_
            refine kb_get (v := .ref (g 6)) hx hb hts hin8 hown hK hH 0 rfl rfl rfl 5 (by decide) (hts (.fieldLink RX8 19 "CockWarModel" "now" "[I") (List.mem_of_getElem? (i := 1) rfl)) (fun _ h9 => h9) rfl dX8_tryTrees_20 ?_
            refine lv_bipush (v := 12) hx hb dX8_tryTrees_23 (by decide) ?_
            refine lv_iload hx hb dX8_tryTrees_25 (lv_at hl 0 rfl) ?_
            refine lv_iadd hx hb dX8_tryTrees_27 ?_
            have hz7 := hD
            refine kb_iald hx hb hK hH 4 rfl hz7 dX8_tryTrees_28 ?_
            subst ev5
            exact u3 _ _ _ ⟨hH, lv_sub hl [0, 1, 2, 3, 4] rfl⟩
          · rw [if_neg c6] at ev5
            refine lv_iconst (v := 0) hx hb dX8_tryTrees_15 (by decide) ?_
            refine lv_goto (tgt := 29) hx hb dX8_tryTrees_16 (by decide) ?_
            subst ev5
            exact u3 _ _ _ ⟨hH, lv_sub hl [0, 1, 2, 3, 4] rfl⟩
        · obtain ⟨hH, hl⟩ := hX
          refine lv_istore (lv' := [(5, .int v5), (4, .int L1a), (0, .ref (g 0)), (1, .int x0), (2, .int x1), (3, .int x2)]) hx hb dX8_tryTrees_29 hl (by decide) rfl (fun ls hl => ?_)
          refine lv_iload hx hb dX8_tryTrees_31 (lv_at hl 1 rfl) ?_
          refine lv_if_lt (tgt := 41) hx hb dX8_tryTrees_33 (by decide) (fun c8 => ?_) (fun c8 => ?_)
          · have hD := hD.1 c8
            rw [if_pos c8] at hBL1
            refine lv_bipush (v := 12) hx hb dX8_tryTrees_41 (by decide) ?_
            refine lv_iload hx hb dX8_tryTrees_43 (lv_at hl 1 rfl) ?_
            refine lv_if_ge (tgt := 52) hx hb dX8_tryTrees_45 (by decide) (fun c => absurd c (kb_z2 c8)) (fun _ => ?_)
            refine lv_iconst (v := 0) hx hb dX8_tryTrees_48 (by decide) ?_
            refine lv_goto (tgt := 54) hx hb dX8_tryTrees_49 (by decide) ?_
            refine lv_iadd hx hb dX8_tryTrees_54 ?_
            refine lv_istore (lv' := [(6, .int ((12 : Int32) + (0 : Int32))), (5, .int v5), (4, .int L1a), (0, .ref (g 0)), (1, .int x0), (2, .int x1), (3, .int x2)]) hx hb dX8_tryTrees_55 hl (by decide) rfl (fun ls hl => ?_)
            refine lv_aload_n hx hb dX8_tryTrees_57 rfl (lv_at hl 3 rfl) ?_
            refine kb_get (v := .ref (g 6)) hx hb hts hin8 hown hK hH 0 rfl rfl rfl 5 (by decide) (hts (.fieldLink RX8 19 "CockWarModel" "now" "[I") (List.mem_of_getElem? (i := 1) rfl)) (fun _ h9 => h9) rfl dX8_tryTrees_58 ?_
            refine lv_iload hx hb dX8_tryTrees_61 (lv_at hl 0 rfl) ?_
            obtain ⟨hz9, hD⟩ := hD
            refine kb_iald hx hb hK hH 4 rfl hz9 dX8_tryTrees_63 ?_
            refine lv_istore (lv' := [(7, .int ((L1b.1 5) ((12 : Int32) + (0 : Int32)).toNatClampNeg)), (6, .int ((12 : Int32) + (0 : Int32))), (5, .int v5), (4, .int L1a), (0, .ref (g 0)), (1, .int x0), (2, .int x1), (3, .int x2)]) hx hb dX8_tryTrees_64 hl (by decide) rfl (fun ls hl => ?_)
            refine lv_aload_n hx hb dX8_tryTrees_66 rfl (lv_at hl 4 rfl) ?_
            refine kb_get (v := .ref (g 6)) hx hb hts hin8 hown hK hH 0 rfl rfl rfl 5 (by decide) (hts (.fieldLink RX8 19 "CockWarModel" "now" "[I") (List.mem_of_getElem? (i := 1) rfl)) (fun _ h9 => h9) rfl dX8_tryTrees_67 ?_
            refine lv_iload hx hb dX8_tryTrees_70 (lv_at hl 1 rfl) ?_
            refine lv_iload hx hb dX8_tryTrees_72 (lv_at hl 3 rfl) ?_
            refine lv_if_ge (tgt := 82) hx hb dX8_tryTrees_74 (by decide) (fun c => absurd c (kb_z2 c8)) (fun _ => ?_)
            refine lv_iload hx hb dX8_tryTrees_77 (lv_at hl 0 rfl) ?_
            refine lv_goto (tgt := 83) hx hb dX8_tryTrees_79 (by decide) ?_
            obtain ⟨hz10, hD⟩ := hD
            refine kb_iast (WS' := (w_O8 G g (oA L1b 5 (upd (L1b.1 5) ((12 : Int32) + (0 : Int32)).toNatClampNeg ((L1b.1 5) ((12 : Int32) + (0 : Int32)).toNatClampNeg))))) hx hb hK hH 4 rfl hz10 rfl dX8_tryTrees_83 (fun H locs hH => ?_)
            refine lv_aload_n hx hb dX8_tryTrees_84 rfl (lv_at hl 4 rfl) ?_
            refine lv_iload_n hx hb dX8_tryTrees_85 rfl (lv_at hl 5 rfl) ?_
            obtain ⟨hz11, hD⟩ := hD
            refine kb_ci hH hA [0, 1, 2, 3, 4, 5, 6, 7, 8, 9, 10, 11, 12, 13, 14] (Wc := (w_O8 G g (oA L1b 5 (upd (L1b.1 5) ((12 : Int32) + (0 : Int32)).toNatClampNeg ((L1b.1 5) ((12 : Int32) + (0 : Int32)).toNatClampNeg))))) (Wc' := (w_O8 G g (oA L1b 5 (upd (L1b.1 5) ((12 : Int32) + (0 : Int32)).toNatClampNeg ((L1b.1 5) ((12 : Int32) + (0 : Int32)).toNatClampNeg))))) (WS' := (w_O8 G g (oA L1b 5 (upd (L1b.1 5) ((12 : Int32) + (0 : Int32)).toNatClampNeg ((L1b.1 5) ((12 : Int32) + (0 : Int32)).toNatClampNeg))))) rfl (by decide) rfl rfl (va_runV (As := [.int x0]) (rest := []) ⟨hx, hb, hml, hown, hts⟩ (c_X8_yearOf l G g (oA L1b 5 (upd (L1b.1 5) ((12 : Int32) + (0 : Int32)).toNatClampNeg ((L1b.1 5) ((12 : Int32) + (0 : Int32)).toNatClampNeg))) x0 hz11 rfl _) (cwV 1 hts gX8_tryTrees_X8_yearOf rfl rfl rfl he_X8_yearOf ⟨Nat.le_of_ble_eq_true rfl, Nat.le_of_ble_eq_true rfl⟩) (kb_preV hH hK hN [0, 1, 2, 3, 4, 5, 6, 7, 8, 9, 10, 11, 12, 13, 14] rfl (by decide) 0 rfl rfl rfl rfl) rfl rfl hl.1 rfl (lv_room (Nat.le_of_ble_eq_true rfl)) dX8_tryTrees_86 ⟨Nat.le_of_ble_eq_true rfl, Nat.le_of_ble_eq_true rfl⟩) (fun H locs hH => ?_)
            refine lv_istore (lv' := [(8, .int (f_X8_yearOf (oA L1b 5 (upd (L1b.1 5) ((12 : Int32) + (0 : Int32)).toNatClampNeg ((L1b.1 5) ((12 : Int32) + (0 : Int32)).toNatClampNeg))) x0)), (7, .int ((L1b.1 5) ((12 : Int32) + (0 : Int32)).toNatClampNeg)), (6, .int ((12 : Int32) + (0 : Int32))), (5, .int v5), (4, .int L1a), (0, .ref (g 0)), (1, .int x0), (2, .int x1), (3, .int x2)]) hx hb dX8_tryTrees_89 hl (by decide) rfl (fun ls hl => ?_)
            refine lv_aload_n hx hb dX8_tryTrees_91 rfl (lv_at hl 5 rfl) ?_
            refine kb_get (v := .ref (g 6)) hx hb hts hin8 hown hK hH 0 rfl rfl rfl 5 (by decide) (hts (.fieldLink RX8 19 "CockWarModel" "now" "[I") (List.mem_of_getElem? (i := 1) rfl)) (fun _ h9 => h9) rfl dX8_tryTrees_92 ?_
            refine lv_iload hx hb dX8_tryTrees_95 (lv_at hl 2 rfl) ?_
            refine lv_iload hx hb dX8_tryTrees_97 (lv_at hl 1 rfl) ?_
            have hz12 := hD
            refine kb_iast (WS' := (w_O8 G g (oA L1b 5 (upd (upd (L1b.1 5) ((12 : Int32) + (0 : Int32)).toNatClampNeg ((L1b.1 5) ((12 : Int32) + (0 : Int32)).toNatClampNeg)) ((12 : Int32) + (0 : Int32)).toNatClampNeg ((L1b.1 5) ((12 : Int32) + (0 : Int32)).toNatClampNeg))))) hx hb hK hH 4 rfl hz12 rfl dX8_tryTrees_99 (fun H locs hH => ?_)
            refine lv_iload hx hb dX8_tryTrees_100 (lv_at hl 0 rfl) ?_
            refine lv_aload_n hx hb dX8_tryTrees_102 rfl (lv_at hl 5 rfl) ?_
            refine kb_get (v := .int (L1b.2.1 21)) hx hb hts hin8 hown hK hH 0 rfl rfl rfl 21 (by decide) (hts (.fieldLink RX8 157 "CockWarModel" "bestYear" "I") (List.mem_of_getElem? (i := 2) rfl)) (fun _ h9 => h9) rfl dX8_tryTrees_103 ?_
            refine lv_icmp_le (tgt := 141) hx hb dX8_tryTrees_106 (by decide) (fun c13 => ?_) (fun c13 => ?_)
            · rw [if_pos c13] at hBL1
              refine lv_iinc (v := (L1a + (1 : Int32))) (lv' := [(4, .int (L1a + (1 : Int32))), (8, .int (f_X8_yearOf (oA L1b 5 (upd (L1b.1 5) ((12 : Int32) + (0 : Int32)).toNatClampNeg ((L1b.1 5) ((12 : Int32) + (0 : Int32)).toNatClampNeg))) x0)), (7, .int ((L1b.1 5) ((12 : Int32) + (0 : Int32)).toNatClampNeg)), (6, .int ((12 : Int32) + (0 : Int32))), (5, .int v5), (0, .ref (g 0)), (1, .int x0), (2, .int x1), (3, .int x2)]) hx hb dX8_tryTrees_141 hl (k := 4) rfl rfl (by decide) rfl (fun ls hl => ?_)
              refine lv_goto (tgt := 3) hx hb dX8_tryTrees_144 (by decide) ?_
              have hs := lpw_l hs (hBd.trans hBL1.symm)
              have hDn := hDn _ (hBd.trans hBL1.symm)
              exact ihL1 _ _ _ _ ⟨trivial, hs, hDn⟩ ⟨hH, lv_sub hl [0, 5, 6, 7, 8] rfl⟩
            · rw [if_neg c13] at hBL1
              refine lv_aload_n hx hb dX8_tryTrees_109 rfl (lv_at hl 5 rfl) ?_
              refine lv_iload hx hb dX8_tryTrees_110 (lv_at hl 0 rfl) ?_
              refine kb_put (ty := .int) (v := .int (f_X8_yearOf (oA L1b 5 (upd (L1b.1 5) ((12 : Int32) + (0 : Int32)).toNatClampNeg ((L1b.1 5) ((12 : Int32) + (0 : Int32)).toNatClampNeg))) x0)) (WS' := (w_O8 G g (oI (oA L1b 5 (upd (upd (L1b.1 5) ((12 : Int32) + (0 : Int32)).toNatClampNeg ((L1b.1 5) ((12 : Int32) + (0 : Int32)).toNatClampNeg)) ((12 : Int32) + (0 : Int32)).toNatClampNeg ((L1b.1 5) ((12 : Int32) + (0 : Int32)).toNatClampNeg))) 21 (f_X8_yearOf (oA L1b 5 (upd (L1b.1 5) ((12 : Int32) + (0 : Int32)).toNatClampNeg ((L1b.1 5) ((12 : Int32) + (0 : Int32)).toNatClampNeg))) x0)))) hx hb hts hin8 tyX8 tyX8_ok nmX8 hown hK hH 0 rfl rfl 21 (by decide) (hts (.fieldLink RX8 157 "CockWarModel" "bestYear" "I") (List.mem_of_getElem? (i := 2) rfl)) (fun _ h9 => h9) rfl (by decide +kernel) rfl rfl (Nat.le_of_ble_eq_true rfl) rfl dX8_tryTrees_112 (fun H locs hH => ?_)
              refine lv_aload_n hx hb dX8_tryTrees_115 rfl (lv_at hl 5 rfl) ?_
              refine lv_iload_n hx hb dX8_tryTrees_116 rfl (lv_at hl 7 rfl) ?_
              refine kb_put (ty := .int) (v := .int x1) (WS' := (w_O8 G g (oI (oI (oA L1b 5 (upd (upd (L1b.1 5) ((12 : Int32) + (0 : Int32)).toNatClampNeg ((L1b.1 5) ((12 : Int32) + (0 : Int32)).toNatClampNeg)) ((12 : Int32) + (0 : Int32)).toNatClampNeg ((L1b.1 5) ((12 : Int32) + (0 : Int32)).toNatClampNeg))) 21 (f_X8_yearOf (oA L1b 5 (upd (L1b.1 5) ((12 : Int32) + (0 : Int32)).toNatClampNeg ((L1b.1 5) ((12 : Int32) + (0 : Int32)).toNatClampNeg))) x0)) 22 x1))) hx hb hts hin8 tyX8 tyX8_ok nmX8 hown hK hH 0 rfl rfl 22 (by decide) (hts (.fieldLink RX8 160 "CockWarModel" "bestCock" "I") (List.mem_of_getElem? (i := 3) rfl)) (fun _ h9 => h9) rfl (by decide +kernel) rfl rfl (Nat.le_of_ble_eq_true rfl) rfl dX8_tryTrees_117 (fun H locs hH => ?_)
              refine lv_aload_n hx hb dX8_tryTrees_120 rfl (lv_at hl 5 rfl) ?_
              refine lv_iload_n hx hb dX8_tryTrees_121 rfl (lv_at hl 8 rfl) ?_
              refine kb_put (ty := .int) (v := .int x2) (WS' := (w_O8 G g (oI (oI (oI (oA L1b 5 (upd (upd (L1b.1 5) ((12 : Int32) + (0 : Int32)).toNatClampNeg ((L1b.1 5) ((12 : Int32) + (0 : Int32)).toNatClampNeg)) ((12 : Int32) + (0 : Int32)).toNatClampNeg ((L1b.1 5) ((12 : Int32) + (0 : Int32)).toNatClampNeg))) 21 (f_X8_yearOf (oA L1b 5 (upd (L1b.1 5) ((12 : Int32) + (0 : Int32)).toNatClampNeg ((L1b.1 5) ((12 : Int32) + (0 : Int32)).toNatClampNeg))) x0)) 22 x1) 23 x2))) hx hb hts hin8 tyX8 tyX8_ok nmX8 hown hK hH 0 rfl rfl 23 (by decide) (hts (.fieldLink RX8 163 "CockWarModel" "bestCell" "I") (List.mem_of_getElem? (i := 4) rfl)) (fun _ h9 => h9) rfl (by decide +kernel) rfl rfl (Nat.le_of_ble_eq_true rfl) rfl dX8_tryTrees_122 (fun H locs hH => ?_)
              refine lv_aload_n hx hb dX8_tryTrees_125 rfl (lv_at hl 5 rfl) ?_
              refine lv_iload hx hb dX8_tryTrees_126 (lv_at hl 4 rfl) ?_
              refine lv_if_ge (tgt := 136) hx hb dX8_tryTrees_128 (by decide) (fun c => absurd c (kb_z2 c8)) (fun _ => ?_)
              refine lv_bipush (v := -9) hx hb dX8_tryTrees_131 (by decide) ?_
              refine lv_goto (tgt := 138) hx hb dX8_tryTrees_133 (by decide) ?_
              refine kb_put (ty := .int) (v := .int (-9 : Int32)) (WS' := (w_O8 G g (oI (oI (oI (oI (oA L1b 5 (upd (upd (L1b.1 5) ((12 : Int32) + (0 : Int32)).toNatClampNeg ((L1b.1 5) ((12 : Int32) + (0 : Int32)).toNatClampNeg)) ((12 : Int32) + (0 : Int32)).toNatClampNeg ((L1b.1 5) ((12 : Int32) + (0 : Int32)).toNatClampNeg))) 21 (f_X8_yearOf (oA L1b 5 (upd (L1b.1 5) ((12 : Int32) + (0 : Int32)).toNatClampNeg ((L1b.1 5) ((12 : Int32) + (0 : Int32)).toNatClampNeg))) x0)) 22 x1) 23 x2) 24 (-9 : Int32)))) hx hb hts hin8 tyX8 tyX8_ok nmX8 hown hK hH 0 rfl rfl 24 (by decide) (hts (.fieldLink RX8 166 "CockWarModel" "bestTree" "I") (List.mem_of_getElem? (i := 5) rfl)) (fun _ h9 => h9) rfl (by decide +kernel) rfl rfl (Nat.le_of_ble_eq_true rfl) rfl dX8_tryTrees_138 (fun H locs hH => ?_)
              refine lv_iinc (v := (L1a + (1 : Int32))) (lv' := [(4, .int (L1a + (1 : Int32))), (8, .int (f_X8_yearOf (oA L1b 5 (upd (L1b.1 5) ((12 : Int32) + (0 : Int32)).toNatClampNeg ((L1b.1 5) ((12 : Int32) + (0 : Int32)).toNatClampNeg))) x0)), (7, .int ((L1b.1 5) ((12 : Int32) + (0 : Int32)).toNatClampNeg)), (6, .int ((12 : Int32) + (0 : Int32))), (5, .int v5), (0, .ref (g 0)), (1, .int x0), (2, .int x1), (3, .int x2)]) hx hb dX8_tryTrees_141 hl (k := 4) rfl rfl (by decide) rfl (fun ls hl => ?_)
              refine lv_goto (tgt := 3) hx hb dX8_tryTrees_144 (by decide) ?_
              have hs := lpw_l hs (hBd.trans hBL1.symm)
              have hDn := hDn _ (hBd.trans hBL1.symm)
              exact ihL1 _ _ _ _ ⟨trivial, hs, hDn⟩ ⟨hH, lv_sub hl [0, 5, 6, 7, 8] rfl⟩
          · have hD := hD.2 c8
            rw [if_neg c8] at hBL1
            refine lv_iload hx hb dX8_tryTrees_36 (lv_at hl 0 rfl) ?_
            refine lv_if_le (tgt := 141) hx hb dX8_tryTrees_38 (by decide) (fun c14 => ?_) (fun c14 => ?_)
            · rw [if_pos c14] at hBL1
              refine lv_iinc (v := (L1a + (1 : Int32))) (lv' := [(4, .int (L1a + (1 : Int32))), (5, .int v5), (0, .ref (g 0)), (1, .int x0), (2, .int x1), (3, .int x2)]) hx hb dX8_tryTrees_141 hl (k := 1) rfl rfl (by decide) rfl (fun ls hl => ?_)
              refine lv_goto (tgt := 3) hx hb dX8_tryTrees_144 (by decide) ?_
              have hs := lpw_l hs (hBd.trans hBL1.symm)
              have hDn := hDn _ (hBd.trans hBL1.symm)
              exact ihL1 _ _ _ _ ⟨trivial, hs, hDn⟩ ⟨hH, lv_sub hl [0, 2, 3, 4, 5] rfl⟩
            · have hD := hD c14
              rw [if_neg c14] at hBL1
              refine lv_bipush (v := 12) hx hb dX8_tryTrees_41 (by decide) ?_
              refine lv_iload hx hb dX8_tryTrees_43 (lv_at hl 1 rfl) ?_
              refine lv_if_ge (tgt := 52) hx hb dX8_tryTrees_45 (by decide) (fun _ => ?_) (fun c => absurd (kb_z1 c8) c)
              refine lv_iload hx hb dX8_tryTrees_52 (lv_at hl 1 rfl) ?_
              refine lv_iadd hx hb dX8_tryTrees_54 ?_
              refine lv_istore (lv' := [(6, .int ((12 : Int32) + L1a)), (5, .int v5), (4, .int L1a), (0, .ref (g 0)), (1, .int x0), (2, .int x1), (3, .int x2)]) hx hb dX8_tryTrees_55 hl (by decide) rfl (fun ls hl => ?_)
              refine lv_aload_n hx hb dX8_tryTrees_57 rfl (lv_at hl 3 rfl) ?_
              refine kb_get (v := .ref (g 6)) hx hb hts hin8 hown hK hH 0 rfl rfl rfl 5 (by decide) (hts (.fieldLink RX8 19 "CockWarModel" "now" "[I") (List.mem_of_getElem? (i := 1) rfl)) (fun _ h9 => h9) rfl dX8_tryTrees_58 ?_
              refine lv_iload hx hb dX8_tryTrees_61 (lv_at hl 0 rfl) ?_
              obtain ⟨hz15, hD⟩ := hD
              refine kb_iald hx hb hK hH 4 rfl hz15 dX8_tryTrees_63 ?_
              refine lv_istore (lv' := [(7, .int ((L1b.1 5) ((12 : Int32) + L1a).toNatClampNeg)), (6, .int ((12 : Int32) + L1a)), (5, .int v5), (4, .int L1a), (0, .ref (g 0)), (1, .int x0), (2, .int x1), (3, .int x2)]) hx hb dX8_tryTrees_64 hl (by decide) rfl (fun ls hl => ?_)
              refine lv_aload_n hx hb dX8_tryTrees_66 rfl (lv_at hl 4 rfl) ?_
              refine kb_get (v := .ref (g 6)) hx hb hts hin8 hown hK hH 0 rfl rfl rfl 5 (by decide) (hts (.fieldLink RX8 19 "CockWarModel" "now" "[I") (List.mem_of_getElem? (i := 1) rfl)) (fun _ h9 => h9) rfl dX8_tryTrees_67 ?_
              refine lv_iload hx hb dX8_tryTrees_70 (lv_at hl 1 rfl) ?_
              refine lv_iload hx hb dX8_tryTrees_72 (lv_at hl 3 rfl) ?_
              refine lv_if_ge (tgt := 82) hx hb dX8_tryTrees_74 (by decide) (fun _ => ?_) (fun c => absurd (kb_z1 c8) c)
              refine lv_iconst (v := 0) hx hb dX8_tryTrees_82 (by decide) ?_
              obtain ⟨hz16, hD⟩ := hD
              refine kb_iast (WS' := (w_O8 G g (oA L1b 5 (upd (L1b.1 5) ((12 : Int32) + L1a).toNatClampNeg (0 : Int32))))) hx hb hK hH 4 rfl hz16 rfl dX8_tryTrees_83 (fun H locs hH => ?_)
              refine lv_aload_n hx hb dX8_tryTrees_84 rfl (lv_at hl 4 rfl) ?_
              refine lv_iload_n hx hb dX8_tryTrees_85 rfl (lv_at hl 5 rfl) ?_
              obtain ⟨hz17, hD⟩ := hD
              refine kb_ci hH hA [0, 1, 2, 3, 4, 5, 6, 7, 8, 9, 10, 11, 12, 13, 14] (Wc := (w_O8 G g (oA L1b 5 (upd (L1b.1 5) ((12 : Int32) + L1a).toNatClampNeg (0 : Int32))))) (Wc' := (w_O8 G g (oA L1b 5 (upd (L1b.1 5) ((12 : Int32) + L1a).toNatClampNeg (0 : Int32))))) (WS' := (w_O8 G g (oA L1b 5 (upd (L1b.1 5) ((12 : Int32) + L1a).toNatClampNeg (0 : Int32))))) rfl (by decide) rfl rfl (va_runV (As := [.int x0]) (rest := []) ⟨hx, hb, hml, hown, hts⟩ (c_X8_yearOf l G g (oA L1b 5 (upd (L1b.1 5) ((12 : Int32) + L1a).toNatClampNeg (0 : Int32))) x0 hz17 rfl _) (cwV 1 hts gX8_tryTrees_X8_yearOf rfl rfl rfl he_X8_yearOf ⟨Nat.le_of_ble_eq_true rfl, Nat.le_of_ble_eq_true rfl⟩) (kb_preV hH hK hN [0, 1, 2, 3, 4, 5, 6, 7, 8, 9, 10, 11, 12, 13, 14] rfl (by decide) 0 rfl rfl rfl rfl) rfl rfl hl.1 rfl (lv_room (Nat.le_of_ble_eq_true rfl)) dX8_tryTrees_86 ⟨Nat.le_of_ble_eq_true rfl, Nat.le_of_ble_eq_true rfl⟩) (fun H locs hH => ?_)
              refine lv_istore (lv' := [(8, .int (f_X8_yearOf (oA L1b 5 (upd (L1b.1 5) ((12 : Int32) + L1a).toNatClampNeg (0 : Int32))) x0)), (7, .int ((L1b.1 5) ((12 : Int32) + L1a).toNatClampNeg)), (6, .int ((12 : Int32) + L1a)), (5, .int v5), (4, .int L1a), (0, .ref (g 0)), (1, .int x0), (2, .int x1), (3, .int x2)]) hx hb dX8_tryTrees_89 hl (by decide) rfl (fun ls hl => ?_)
              refine lv_aload_n hx hb dX8_tryTrees_91 rfl (lv_at hl 5 rfl) ?_
              refine kb_get (v := .ref (g 6)) hx hb hts hin8 hown hK hH 0 rfl rfl rfl 5 (by decide) (hts (.fieldLink RX8 19 "CockWarModel" "now" "[I") (List.mem_of_getElem? (i := 1) rfl)) (fun _ h9 => h9) rfl dX8_tryTrees_92 ?_
              refine lv_iload hx hb dX8_tryTrees_95 (lv_at hl 2 rfl) ?_
              refine lv_iload hx hb dX8_tryTrees_97 (lv_at hl 1 rfl) ?_
              have hz18 := hD
              refine kb_iast (WS' := (w_O8 G g (oA L1b 5 (upd (upd (L1b.1 5) ((12 : Int32) + L1a).toNatClampNeg (0 : Int32)) ((12 : Int32) + L1a).toNatClampNeg ((L1b.1 5) ((12 : Int32) + L1a).toNatClampNeg))))) hx hb hK hH 4 rfl hz18 rfl dX8_tryTrees_99 (fun H locs hH => ?_)
              refine lv_iload hx hb dX8_tryTrees_100 (lv_at hl 0 rfl) ?_
              refine lv_aload_n hx hb dX8_tryTrees_102 rfl (lv_at hl 5 rfl) ?_
              refine kb_get (v := .int (L1b.2.1 21)) hx hb hts hin8 hown hK hH 0 rfl rfl rfl 21 (by decide) (hts (.fieldLink RX8 157 "CockWarModel" "bestYear" "I") (List.mem_of_getElem? (i := 2) rfl)) (fun _ h9 => h9) rfl dX8_tryTrees_103 ?_
              refine lv_icmp_le (tgt := 141) hx hb dX8_tryTrees_106 (by decide) (fun c19 => ?_) (fun c19 => ?_)
              · rw [if_pos c19] at hBL1
                refine lv_iinc (v := (L1a + (1 : Int32))) (lv' := [(4, .int (L1a + (1 : Int32))), (8, .int (f_X8_yearOf (oA L1b 5 (upd (L1b.1 5) ((12 : Int32) + L1a).toNatClampNeg (0 : Int32))) x0)), (7, .int ((L1b.1 5) ((12 : Int32) + L1a).toNatClampNeg)), (6, .int ((12 : Int32) + L1a)), (5, .int v5), (0, .ref (g 0)), (1, .int x0), (2, .int x1), (3, .int x2)]) hx hb dX8_tryTrees_141 hl (k := 4) rfl rfl (by decide) rfl (fun ls hl => ?_)
                refine lv_goto (tgt := 3) hx hb dX8_tryTrees_144 (by decide) ?_
                have hs := lpw_l hs (hBd.trans hBL1.symm)
                have hDn := hDn _ (hBd.trans hBL1.symm)
                exact ihL1 _ _ _ _ ⟨trivial, hs, hDn⟩ ⟨hH, lv_sub hl [0, 5, 6, 7, 8] rfl⟩
              · rw [if_neg c19] at hBL1
                refine lv_aload_n hx hb dX8_tryTrees_109 rfl (lv_at hl 5 rfl) ?_
                refine lv_iload hx hb dX8_tryTrees_110 (lv_at hl 0 rfl) ?_
                refine kb_put (ty := .int) (v := .int (f_X8_yearOf (oA L1b 5 (upd (L1b.1 5) ((12 : Int32) + L1a).toNatClampNeg (0 : Int32))) x0)) (WS' := (w_O8 G g (oI (oA L1b 5 (upd (upd (L1b.1 5) ((12 : Int32) + L1a).toNatClampNeg (0 : Int32)) ((12 : Int32) + L1a).toNatClampNeg ((L1b.1 5) ((12 : Int32) + L1a).toNatClampNeg))) 21 (f_X8_yearOf (oA L1b 5 (upd (L1b.1 5) ((12 : Int32) + L1a).toNatClampNeg (0 : Int32))) x0)))) hx hb hts hin8 tyX8 tyX8_ok nmX8 hown hK hH 0 rfl rfl 21 (by decide) (hts (.fieldLink RX8 157 "CockWarModel" "bestYear" "I") (List.mem_of_getElem? (i := 2) rfl)) (fun _ h9 => h9) rfl (by decide +kernel) rfl rfl (Nat.le_of_ble_eq_true rfl) rfl dX8_tryTrees_112 (fun H locs hH => ?_)
                refine lv_aload_n hx hb dX8_tryTrees_115 rfl (lv_at hl 5 rfl) ?_
                refine lv_iload_n hx hb dX8_tryTrees_116 rfl (lv_at hl 7 rfl) ?_
                refine kb_put (ty := .int) (v := .int x1) (WS' := (w_O8 G g (oI (oI (oA L1b 5 (upd (upd (L1b.1 5) ((12 : Int32) + L1a).toNatClampNeg (0 : Int32)) ((12 : Int32) + L1a).toNatClampNeg ((L1b.1 5) ((12 : Int32) + L1a).toNatClampNeg))) 21 (f_X8_yearOf (oA L1b 5 (upd (L1b.1 5) ((12 : Int32) + L1a).toNatClampNeg (0 : Int32))) x0)) 22 x1))) hx hb hts hin8 tyX8 tyX8_ok nmX8 hown hK hH 0 rfl rfl 22 (by decide) (hts (.fieldLink RX8 160 "CockWarModel" "bestCock" "I") (List.mem_of_getElem? (i := 3) rfl)) (fun _ h9 => h9) rfl (by decide +kernel) rfl rfl (Nat.le_of_ble_eq_true rfl) rfl dX8_tryTrees_117 (fun H locs hH => ?_)
                refine lv_aload_n hx hb dX8_tryTrees_120 rfl (lv_at hl 5 rfl) ?_
                refine lv_iload_n hx hb dX8_tryTrees_121 rfl (lv_at hl 8 rfl) ?_
                refine kb_put (ty := .int) (v := .int x2) (WS' := (w_O8 G g (oI (oI (oI (oA L1b 5 (upd (upd (L1b.1 5) ((12 : Int32) + L1a).toNatClampNeg (0 : Int32)) ((12 : Int32) + L1a).toNatClampNeg ((L1b.1 5) ((12 : Int32) + L1a).toNatClampNeg))) 21 (f_X8_yearOf (oA L1b 5 (upd (L1b.1 5) ((12 : Int32) + L1a).toNatClampNeg (0 : Int32))) x0)) 22 x1) 23 x2))) hx hb hts hin8 tyX8 tyX8_ok nmX8 hown hK hH 0 rfl rfl 23 (by decide) (hts (.fieldLink RX8 163 "CockWarModel" "bestCell" "I") (List.mem_of_getElem? (i := 4) rfl)) (fun _ h9 => h9) rfl (by decide +kernel) rfl rfl (Nat.le_of_ble_eq_true rfl) rfl dX8_tryTrees_122 (fun H locs hH => ?_)
                refine lv_aload_n hx hb dX8_tryTrees_125 rfl (lv_at hl 5 rfl) ?_
                refine lv_iload hx hb dX8_tryTrees_126 (lv_at hl 4 rfl) ?_
                refine lv_if_ge (tgt := 136) hx hb dX8_tryTrees_128 (by decide) (fun _ => ?_) (fun c => absurd (kb_z1 c8) c)
                refine lv_iload hx hb dX8_tryTrees_136 (lv_at hl 4 rfl) ?_
                refine kb_put (ty := .int) (v := .int L1a) (WS' := (w_O8 G g (oI (oI (oI (oI (oA L1b 5 (upd (upd (L1b.1 5) ((12 : Int32) + L1a).toNatClampNeg (0 : Int32)) ((12 : Int32) + L1a).toNatClampNeg ((L1b.1 5) ((12 : Int32) + L1a).toNatClampNeg))) 21 (f_X8_yearOf (oA L1b 5 (upd (L1b.1 5) ((12 : Int32) + L1a).toNatClampNeg (0 : Int32))) x0)) 22 x1) 23 x2) 24 L1a))) hx hb hts hin8 tyX8 tyX8_ok nmX8 hown hK hH 0 rfl rfl 24 (by decide) (hts (.fieldLink RX8 166 "CockWarModel" "bestTree" "I") (List.mem_of_getElem? (i := 5) rfl)) (fun _ h9 => h9) rfl (by decide +kernel) rfl rfl (Nat.le_of_ble_eq_true rfl) rfl dX8_tryTrees_138 (fun H locs hH => ?_)
                refine lv_iinc (v := (L1a + (1 : Int32))) (lv' := [(4, .int (L1a + (1 : Int32))), (8, .int (f_X8_yearOf (oA L1b 5 (upd (L1b.1 5) ((12 : Int32) + L1a).toNatClampNeg (0 : Int32))) x0)), (7, .int ((L1b.1 5) ((12 : Int32) + L1a).toNatClampNeg)), (6, .int ((12 : Int32) + L1a)), (5, .int v5), (0, .ref (g 0)), (1, .int x0), (2, .int x1), (3, .int x2)]) hx hb dX8_tryTrees_141 hl (k := 4) rfl rfl (by decide) rfl (fun ls hl => ?_)
                refine lv_goto (tgt := 3) hx hb dX8_tryTrees_144 (by decide) ?_
                have hs := lpw_l hs (hBd.trans hBL1.symm)
                have hDn := hDn _ (hBd.trans hBL1.symm)
                exact ihL1 _ _ _ _ ⟨trivial, hs, hDn⟩ ⟨hH, lv_sub hl [0, 5, 6, 7, 8] rfl⟩
  · obtain ⟨hH, hl⟩ := hX
    subst hF
    exact kb_vret hx hb hr hH rfl dX8_tryTrees_147 hlocks
def f_X8_placing_L7 (x0 : Int32) (L5a : Int32) (iL7 : Nat) (s : (OV)) : (OV) := (if ((((s.1 5) (22 : Int32).toNatClampNeg) >>> (L5a &&& 31)) &&& (1 : Int32)) = x0 then (if (f_X8_isCockOn s (nI iL7)) = 0 then (kAp (f_X8_tryTrees (oA s 5 (upd (s.1 5) (L5a).toNatClampNeg (nI iL7))) x0 L5a (nI iL7)) (fun q14 => (oA q14 5 (upd (q14.1 5) (L5a).toNatClampNeg ((s.1 5) (L5a).toNatClampNeg))))) else s) else s)
def d_X8_placing_L7 (x0 : Int32) (L5a : Int32) (iL7 : Nat) (s : (OV)) : Prop := (((((s.1 5) (22 : Int32).toNatClampNeg) >>> (L5a &&& 31)) &&& (1 : Int32)) = x0 → ((d_X8_isCockOn s (nI iL7)) ∧ ((f_X8_isCockOn s (nI iL7)) = 0 → (vp_in L5a 54 ∧ (vp_in L5a 54 ∧ ((d_X8_tryTrees (oA s 5 (upd (s.1 5) (L5a).toNatClampNeg (nI iL7))) x0 L5a (nI iL7)) ∧ (kAp (f_X8_tryTrees (oA s 5 (upd (s.1 5) (L5a).toNatClampNeg (nI iL7))) x0 L5a (nI iL7)) (fun q14 => vp_in L5a 54))))))))
def f_X8_placing_L5 (x0 : Int32) (s : (Int32 × OV)) : (Int32 × OV) ⊕ (Int32 × OV) := (if (s.2.2.1 0) ≤ s.1 then (Sum.inr (s.1, s.2)) else (kAp (lpu (f_X8_placing_L7 x0 s.1) (cN (10 : Int32)) 0 s.2) (fun z17 => (Sum.inl ((s.1 + (1 : Int32)), z17)))))
def d_X8_placing_L5 (x0 : Int32) (s : (Int32 × OV)) : Prop := (¬ ((s.2.2.1 0) ≤ s.1) → (lpuD (f_X8_placing_L7 x0 s.1) (d_X8_placing_L7 x0 s.1) (cN (10 : Int32)) 0 s.2))
def f_X8_placing (V : OV) (x0 : Int32) (x1 : Int32) : (Int32 × OV) := (if (f_X8_in (x0.toInt64) (0 : Int64) (1 : Int64)) = 0 then ((-2 : Int32), V) else (if (f_X8_in (x1.toInt64) (0 : Int64) (3 : Int64)) = 0 then ((-2 : Int32), V) else (kAp (f_X8_tryTrees (oI V 21 (-1 : Int32)) x0 (-9 : Int32) (-9 : Int32)) (fun q3 => (kAp (lpw (f_X8_placing_L5 x0) 70 ((0 : Int32), q3)) (fun z18 => (if x1 = 0 then ((z18.2.2.1 21), z18.2) else (if x1 = (1 : Int32) then ((z18.2.2.1 22), z18.2) else (if x1 = (2 : Int32) then ((z18.2.2.1 23), z18.2) else ((z18.2.2.1 24), z18.2))))))))))
def d_X8_placing (V : OV) (x0 : Int32) (x1 : Int32) : Prop := (¬ ((f_X8_in (x0.toInt64) (0 : Int64) (1 : Int64)) = 0) → (¬ ((f_X8_in (x1.toInt64) (0 : Int64) (3 : Int64)) = 0) → ((d_X8_tryTrees (oI V 21 (-1 : Int32)) x0 (-9 : Int32) (-9 : Int32)) ∧ (kAp (f_X8_tryTrees (oI V 21 (-1 : Int32)) x0 (-9 : Int32) (-9 : Int32)) (fun q3 => (lpwD (f_X8_placing_L5 x0) (d_X8_placing_L5 x0) 70 ((0 : Int32), q3)))))))
set_option maxHeartbeats 4000000 in
set_option maxRecDepth 100000 in
theorem c_X8_placing (l : Launch) (G : Ge) (g : Nat → Nat) (V : OV) (x0 : Int32) (x1 : Int32) (hD : d_X8_placing V x0 x1) {F : (Int32 × OV)} (hF : f_X8_placing V x0 x1 = F) : CI l yX8_placing wsX8_placing { frames := 6, cells := 0, slots := 0, locals := 149 } [.ref (g 0), .int x0, .int x1] G (w_O8 G g V) (w_O8 G g F.2) F.1 := by
  intro sz
  refine Met.ofW (cc := cX8_placing) (maxL := 6) (ret := (some .int)) (by decide) rfl ?_
  intro p e s m args below meth c s₁ B hml hv
  obtain ⟨rfl, hpre⟩ := hv
  obtain ⟨hsz, hH, hK, hN, hA⟩ := kb_start hpre
  subst hsz
  have hx := B.exec
  have hb := B.bytes
  have hr := B.returns
  have hts := atoms_spec (ws := wsX8_placing) B.pre
  have hown : s.vm.findClass RX8 = some m.cls := findClass_of_methodNamed B.named
  have hlocks := B.notSynchronized
  generalize hAe : va_A (List.flatten (w_O8 G g V)) s.heap.size = A at hH hA ⊢
  have hl := lv_entry ([.ref (g 0), .int x0, .int x1]) (n := 6) (Nat.le_of_ble_eq_true rfl)
  rw [lg_entry_eq]
  generalize (lg_sl ([.ref (g 0), .int x0, .int x1]) ++ List.replicate (6 - (lg_sl ([.ref (g 0), .int x0, .int x1])).length) Slot.unset).toArray = ls at hl ⊢
  have hl : lv_has ls 6 [(0, .ref (g 0)), (1, .int x0), (2, .int x1)] := hl
  have hH : HP G A s.heap (w_O8 G g V) s.heap [] := hH
  have hin8 : ∀ w ∈ u_ws RX8 TX8 31, w ∈ wsX8_placing := fun w h => List.mem_cons_of_mem _ (List.mem_append_right _ h)
  have hF : (if (f_X8_in (x0.toInt64) (0 : Int64) (1 : Int64)) = 0 then ((-2 : Int32), V) else (if (f_X8_in (x1.toInt64) (0 : Int64) (3 : Int64)) = 0 then ((-2 : Int32), V) else (kAp (f_X8_tryTrees (oI V 21 (-1 : Int32)) x0 (-9 : Int32) (-9 : Int32)) (fun q3 => (kAp (lpw (f_X8_placing_L5 x0) 70 ((0 : Int32), q3)) (fun z18 => (if x1 = 0 then ((z18.2.2.1 21), z18.2) else (if x1 = (1 : Int32) then ((z18.2.2.1 22), z18.2) else (if x1 = (2 : Int32) then ((z18.2.2.1 23), z18.2) else ((z18.2.2.1 24), z18.2)))))))))) = F := hF
  have hD : (¬ ((f_X8_in (x0.toInt64) (0 : Int64) (1 : Int64)) = 0) → (¬ ((f_X8_in (x1.toInt64) (0 : Int64) (3 : Int64)) = 0) → ((d_X8_tryTrees (oI V 21 (-1 : Int32)) x0 (-9 : Int32) (-9 : Int32)) ∧ (kAp (f_X8_tryTrees (oI V 21 (-1 : Int32)) x0 (-9 : Int32) (-9 : Int32)) (fun q3 => (lpwD (f_X8_placing_L5 x0) (d_X8_placing_L5 x0) 70 ((0 : Int32), q3))))))) := hD
  refine lv_iload_n hx hb dX8_placing_0 rfl (lv_at hl 1 rfl) ?_
  refine lv_i2l (v := (x0.toInt64)) hx hb dX8_placing_1 rfl ?_
  refine lv_lconst (v := 0) hx hb dX8_placing_2 (by decide) ?_
  refine lv_lconst (v := 1) hx hb dX8_placing_3 (by decide) ?_
  refine kb_ci hH hA [] (Wc := ([] : List va_W)) (Wc' := ([] : List va_W)) (WS' := (w_O8 G g V)) rfl (by decide) rfl rfl (va_runS (As := [.long (x0.toInt64), .long (0 : Int64), .long (1 : Int64)]) (rest := []) ⟨hx, hb, hml, hown, hts⟩ (c_X8_in l G (x0.toInt64) (0 : Int64) (1 : Int64) rfl _) (va_cwS 3 hts gX8_placing_X8_in rfl rfl rfl hd_X8_in ⟨Nat.le_of_ble_eq_true rfl, Nat.le_of_ble_eq_true rfl⟩) (kb_preS hH hK hN [] rfl (by decide)) rfl rfl hl.1 rfl (lv_room (Nat.le_of_ble_eq_true rfl)) dX8_placing_4 ⟨Nat.le_of_ble_eq_true rfl, Nat.le_of_ble_eq_true rfl⟩) (fun H locs hH => ?_)
  refine lv_if_eq (tgt := 22) hx hb dX8_placing_7 (by decide) (fun c1 => ?_) (fun c1 => ?_)
  · rw [if_pos c1] at hF
    refine lv_bipush (v := -2) hx hb dX8_placing_22 (by decide) ?_
    subst hF
    exact kb_iret hx hb hr hH rfl rfl dX8_placing_24 hlocks
  · have hD := hD c1
    rw [if_neg c1] at hF
    refine lv_iload_n hx hb dX8_placing_10 rfl (lv_at hl 2 rfl) ?_
    refine lv_i2l (v := (x1.toInt64)) hx hb dX8_placing_11 rfl ?_
    refine lv_lconst (v := 0) hx hb dX8_placing_12 (by decide) ?_
    refine lv_ldc2 (v := 3) hx hb hown (hts (.constantLong RX8 169 (3)) (List.mem_of_getElem? (i := 1) rfl)) dX8_placing_13 ?_
    refine kb_ci hH hA [] (Wc := ([] : List va_W)) (Wc' := ([] : List va_W)) (WS' := (w_O8 G g V)) rfl (by decide) rfl rfl (va_runS (As := [.long (x1.toInt64), .long (0 : Int64), .long (3 : Int64)]) (rest := []) ⟨hx, hb, hml, hown, hts⟩ (c_X8_in l G (x1.toInt64) (0 : Int64) (3 : Int64) rfl _) (va_cwS 3 hts gX8_placing_X8_in rfl rfl rfl hd_X8_in ⟨Nat.le_of_ble_eq_true rfl, Nat.le_of_ble_eq_true rfl⟩) (kb_preS hH hK hN [] rfl (by decide)) rfl rfl hl.1 rfl (lv_room (Nat.le_of_ble_eq_true rfl)) dX8_placing_16 ⟨Nat.le_of_ble_eq_true rfl, Nat.le_of_ble_eq_true rfl⟩) (fun H locs hH => ?_)
    refine lv_if_ne (tgt := 25) hx hb dX8_placing_19 (by decide) (fun c2 => ?_) (fun c2 => ?_)
    · have hD := hD c2
      rw [if_neg c2] at hF
      refine lv_aload_n hx hb dX8_placing_25 rfl (lv_at hl 0 rfl) ?_
      refine lv_iconst (v := -1) hx hb dX8_placing_26 (by decide) ?_
      refine kb_put (ty := .int) (v := .int (-1 : Int32)) (WS' := (w_O8 G g (oI V 21 (-1 : Int32)))) hx hb hts hin8 tyX8 tyX8_ok nmX8 hown hK hH 0 rfl rfl 21 (by decide) (hts (.fieldLink RX8 157 "CockWarModel" "bestYear" "I") (List.mem_of_getElem? (i := 2) rfl)) (fun _ h9 => h9) rfl (by decide +kernel) rfl rfl (Nat.le_of_ble_eq_true rfl) rfl dX8_placing_27 (fun H locs hH => ?_)
      refine lv_aload_n hx hb dX8_placing_30 rfl (lv_at hl 0 rfl) ?_
      refine lv_iload_n hx hb dX8_placing_31 rfl (lv_at hl 1 rfl) ?_
      refine lv_bipush (v := -9) hx hb dX8_placing_32 (by decide) ?_
      refine lv_bipush (v := -9) hx hb dX8_placing_34 (by decide) ?_
      obtain ⟨hz4, hD⟩ := hD
      obtain ⟨q3, hq3⟩ : ∃ z, z = (f_X8_tryTrees (oI V 21 (-1 : Int32)) x0 (-9 : Int32) (-9 : Int32)) := ⟨_, rfl⟩
      have hF := kAp_eq hF hq3
      have hD := kAp_D hD hq3
      refine kb_cv hH hA [0, 1, 2, 3, 4, 5, 6, 7, 8, 9, 10, 11, 12, 13, 14] (Wc := (w_O8 G g (oI V 21 (-1 : Int32)))) (Wc' := (w_O8 G g q3)) (WS' := (w_O8 G g q3)) rfl (by decide) rfl rfl (va_runV (As := [.int x0, .int (-9 : Int32), .int (-9 : Int32)]) (rest := []) ⟨hx, hb, hml, hown, hts⟩ (c_X8_tryTrees l G g (oI V 21 (-1 : Int32)) x0 (-9 : Int32) (-9 : Int32) hz4 hq3.symm _) (cwV 3 hts gX8_placing_X8_tryTrees rfl rfl rfl he_X8_tryTrees ⟨Nat.le_of_ble_eq_true rfl, Nat.le_of_ble_eq_true rfl⟩) (kb_preV hH hK hN [0, 1, 2, 3, 4, 5, 6, 7, 8, 9, 10, 11, 12, 13, 14] rfl (by decide) 0 rfl rfl rfl rfl) rfl rfl hl.1 rfl (lv_room (Nat.le_of_ble_eq_true rfl)) dX8_placing_36 ⟨Nat.le_of_ble_eq_true rfl, Nat.le_of_ble_eq_true rfl⟩) (fun H locs hH => ?_)
      refine lv_iconst (v := 0) hx hb dX8_placing_39 (by decide) ?_
      refine lv_istore_n (lv' := [(3, .int (0 : Int32)), (0, .ref (g 0)), (1, .int x0), (2, .int x1)]) hx hb dX8_placing_40 rfl hl (by decide) rfl (fun ls hl => ?_)
      have hDlL5 := hD
      obtain ⟨SFL5, hSFL5⟩ : ∃ z, z = (lpw (f_X8_placing_L5 x0) 70 ((0 : Int32), q3)) := ⟨_, rfl⟩
      have hF := kAp_eq hF hSFL5
      refine kb_cut (fun H locs ls => HP G A s.heap (w_O8 G g SFL5.2) H locs ∧ lv_has ls 6 [(0, .ref (g 0)), (2, .int x1)]) 127 [] (fun EXL5 => ?_) (fun H locs ls hX => ?_)
      · refine kb_loop (σ := (Int32 × OV)) (fun n i x => True ∧ lpw (f_X8_placing_L5 x0) n x = SFL5 ∧ lpwD (f_X8_placing_L5 x0) (d_X8_placing_L5 x0) n x) (fun iL5 x H locs ls => HP G A s.heap (w_O8 G g x.2) H locs ∧ lv_has ls 6 [(3, .int x.1), (0, .ref (g 0)), (1, .int x0), (2, .int x1)]) (fun iL5 x H locs ls hI hX => ?_) (fun n iL5 x hI ihL5 H locs ls hX => ?_) 70 0 ((0 : Int32), q3) _ _ _ ⟨trivial, hSFL5.symm, hDlL5⟩ ⟨hH, lv_sub hl [0, 1, 2, 3] rfl⟩
        · obtain ⟨L5a, L5b⟩ := x
          have hH : HP G A s.heap (w_O8 G g L5b) H locs := hX.1
          have hl : lv_has ls 6 [(3, .int L5a), (0, .ref (g 0)), (1, .int x0), (2, .int x1)] := hX.2
          exact absurd hI.2.2 (by simp [lpwD])
        · obtain ⟨L5a, L5b⟩ := x
          have hH : HP G A s.heap (w_O8 G g L5b) H locs := hX.1
          have hl : lv_has ls 6 [(3, .int L5a), (0, .ref (g 0)), (1, .int x0), (2, .int x1)] := hX.2
          obtain ⟨hiL5, hs, hDi⟩ := hI
          obtain ⟨hD, hDn⟩ := hDi
          have hD : (¬ ((L5b.2.1 0) ≤ L5a) → (lpuD (f_X8_placing_L7 x0 L5a) (d_X8_placing_L7 x0 L5a) (cN (10 : Int32)) 0 L5b)) := hD
          obtain ⟨BVL5, hBd⟩ : ∃ z, (f_X8_placing_L5 x0) (L5a, L5b) = z := ⟨_, rfl⟩
          have hBL5 : (if (L5b.2.1 0) ≤ L5a then (Sum.inr (L5a, L5b)) else (kAp (lpu (f_X8_placing_L7 x0 L5a) (cN (10 : Int32)) 0 L5b) (fun z17 => (Sum.inl ((L5a + (1 : Int32)), z17))))) = BVL5 := hBd
          refine lv_iload_n hx hb dX8_placing_41 rfl (lv_at hl 0 rfl) ?_
          refine lv_aload_n hx hb dX8_placing_42 rfl (lv_at hl 1 rfl) ?_
          refine kb_get (v := .int (L5b.2.1 0)) hx hb hts hin8 hown hK hH 0 rfl rfl rfl 0 (by decide) (hts (.fieldLink RX8 53 "CockWarModel" "cocks" "I") (List.mem_of_getElem? (i := 3) rfl)) (fun _ h9 => h9) rfl dX8_placing_43 ?_
          refine lv_icmp_ge (tgt := 127) hx hb dX8_placing_46 (by decide) (fun c6 => ?_) (fun c6 => ?_)
          · rw [if_pos c6] at hBL5
            have hs := lpw_r hs (hBd.trans hBL5.symm)
            exact EXL5 _ _ _ ⟨by subst hs; exact hH, by subst hs; exact lv_sub hl [1, 3] rfl⟩
          · have hD := hD c6
            rw [if_neg c6] at hBL5
            refine lv_iconst (v := 0) hx hb dX8_placing_49 (by decide) ?_
            refine lv_istore (lv' := [(4, .int (0 : Int32)), (3, .int L5a), (0, .ref (g 0)), (1, .int x0), (2, .int x1)]) hx hb dX8_placing_50 hl (by decide) rfl (fun ls hl => ?_)
            have hDlL7 := hD
            obtain ⟨SFL7, hSFL7⟩ : ∃ z, z = (lpu (f_X8_placing_L7 x0 L5a) (cN (10 : Int32)) 0 L5b) := ⟨_, rfl⟩
            have hBL5 := kAp_eq hBL5 hSFL7
            refine kb_cut (fun H locs ls => HP G A s.heap (w_O8 G g SFL7) H locs ∧ lv_has ls 6 [(3, .int L5a), (0, .ref (g 0)), (1, .int x0), (2, .int x1)]) 121 [] (fun EXL7 => ?_) (fun H locs ls hX => ?_)
            · refine kb_loop (σ := (OV)) (fun n i x => n + i = (cN (10 : Int32)) ∧ lpu (f_X8_placing_L7 x0 L5a) n i x = SFL7 ∧ lpuD (f_X8_placing_L7 x0 L5a) (d_X8_placing_L7 x0 L5a) n i x) (fun iL7 x H locs ls => HP G A s.heap (w_O8 G g x) H locs ∧ lv_has ls 6 [(4, .int (nI iL7)), (3, .int L5a), (0, .ref (g 0)), (1, .int x0), (2, .int x1)]) (fun iL7 x H locs ls hI hX => ?_) (fun n iL7 x hI ihL7 H locs ls hX => ?_) (cN (10 : Int32)) 0 L5b _ _ _ ⟨Nat.add_zero _, hSFL7.symm, hDlL7⟩ ⟨hH, lv_sub hl [0, 1, 2, 3, 4] rfl⟩
              · obtain ⟨L7a, exL7a⟩ : ∃ z, z = x := ⟨_, rfl⟩
                subst exL7a
                have hH : HP G A s.heap (w_O8 G g L7a) H locs := hX.1
                have hl : lv_has ls 6 [(4, .int (nI iL7)), (3, .int L5a), (0, .ref (g 0)), (1, .int x0), (2, .int x1)] := hX.2
                obtain ⟨hiL7, hs, _⟩ := hI
                have hiL7 : iL7 = (cN (10 : Int32)) := by omega
                refine lv_iload hx hb dX8_placing_52 (lv_at hl 0 rfl) ?_
                refine lv_bipush (v := 10) hx hb dX8_placing_54 (by decide) ?_
                refine lv_icmp_ge (tgt := 121) hx hb dX8_placing_56 (by decide) (fun _ => ?_) (fun c => absurd (cN_end hiL7) c)
                exact EXL7 _ _ _ ⟨by subst hs; exact hH, by subst hs; exact lv_sub hl [1, 2, 3, 4] rfl⟩
              · obtain ⟨L7a, exL7a⟩ : ∃ z, z = x := ⟨_, rfl⟩
                subst exL7a
                have hH : HP G A s.heap (w_O8 G g L7a) H locs := hX.1
                have hl : lv_has ls 6 [(4, .int (nI iL7)), (3, .int L5a), (0, .ref (g 0)), (1, .int x0), (2, .int x1)] := hX.2
                obtain ⟨hiL7, hs, hDi⟩ := hI
                obtain ⟨hD, hDn⟩ := hDi
                have hD : (((((L7a.1 5) (22 : Int32).toNatClampNeg) >>> (L5a &&& 31)) &&& (1 : Int32)) = x0 → ((d_X8_isCockOn L7a (nI iL7)) ∧ ((f_X8_isCockOn L7a (nI iL7)) = 0 → (vp_in L5a 54 ∧ (vp_in L5a 54 ∧ ((d_X8_tryTrees (oA L7a 5 (upd (L7a.1 5) (L5a).toNatClampNeg (nI iL7))) x0 L5a (nI iL7)) ∧ (kAp (f_X8_tryTrees (oA L7a 5 (upd (L7a.1 5) (L5a).toNatClampNeg (nI iL7))) x0 L5a (nI iL7)) (fun q14 => vp_in L5a 54)))))))) := hD
                have hltL7 : iL7 < (cN (10 : Int32)) := by omega
                obtain ⟨BVL7, hBd⟩ : ∃ z, (f_X8_placing_L7 x0 L5a) iL7 L7a = z := ⟨_, rfl⟩
                have hs : lpu (f_X8_placing_L7 x0 L5a) n (iL7 + 1) BVL7 = SFL7 := by rw [← hBd]; exact hs
                have hDn : lpuD (f_X8_placing_L7 x0 L5a) (d_X8_placing_L7 x0 L5a) n (iL7 + 1) BVL7 := by rw [← hBd]; exact hDn
                have hBL7 : (if ((((L7a.1 5) (22 : Int32).toNatClampNeg) >>> (L5a &&& 31)) &&& (1 : Int32)) = x0 then (if (f_X8_isCockOn L7a (nI iL7)) = 0 then (kAp (f_X8_tryTrees (oA L7a 5 (upd (L7a.1 5) (L5a).toNatClampNeg (nI iL7))) x0 L5a (nI iL7)) (fun q14 => (oA q14 5 (upd (q14.1 5) (L5a).toNatClampNeg ((L7a.1 5) (L5a).toNatClampNeg))))) else L7a) else L7a) = BVL7 := hBd
                refine lv_iload hx hb dX8_placing_52 (lv_at hl 0 rfl) ?_
                refine lv_bipush (v := 10) hx hb dX8_placing_54 (by decide) ?_
                refine lv_icmp_ge (tgt := 121) hx hb dX8_placing_56 (by decide) (fun c => absurd c (cN_ge hltL7)) (fun c8 => ?_)
                refine lv_aload_n hx hb dX8_placing_59 rfl (lv_at hl 2 rfl) ?_
                refine kb_get (v := .ref (g 6)) hx hb hts hin8 hown hK hH 0 rfl rfl rfl 5 (by decide) (hts (.fieldLink RX8 19 "CockWarModel" "now" "[I") (List.mem_of_getElem? (i := 4) rfl)) (fun _ h9 => h9) rfl dX8_placing_60 ?_
                refine lv_bipush (v := 22) hx hb dX8_placing_63 (by decide) ?_
                refine kb_iald hx hb hK hH 4 rfl (show ¬ ((22 : Int32) < 0 ∨ 54 ≤ (22 : Int32).toNatClampNeg) by decide) dX8_placing_65 ?_
                refine lv_iload_n hx hb dX8_placing_66 rfl (lv_at hl 1 rfl) ?_
                refine lv_ishr hx hb dX8_placing_67 ?_
                refine lv_iconst (v := 1) hx hb dX8_placing_68 (by decide) ?_
                refine lv_iand hx hb dX8_placing_69 ?_
                refine lv_iload_n hx hb dX8_placing_70 rfl (lv_at hl 3 rfl) ?_
                refine lv_icmp_ne (tgt := 115) hx hb dX8_placing_71 (by decide) (fun c9 => ?_) (fun c9 => ?_)
                · rw [if_neg c9] at hBL7
                  refine lv_iinc (v := (nI (iL7 + 1))) (lv' := [(4, .int (nI (iL7 + 1))), (3, .int L5a), (0, .ref (g 0)), (1, .int x0), (2, .int x1)]) hx hb dX8_placing_115 hl (k := 0) rfl (nI_1 _) (by decide) rfl (fun ls hl => ?_)
                  refine lv_goto (tgt := 52) hx hb dX8_placing_118 (by decide) ?_
                  subst hBL7
                  exact ihL7 _ _ _ _ ⟨by omega, hs, hDn⟩ ⟨hH, lv_sub hl [0, 1, 2, 3, 4] rfl⟩
                · have hD := hD c9
                  rw [if_pos c9] at hBL7
                  refine lv_aload_n hx hb dX8_placing_74 rfl (lv_at hl 2 rfl) ?_
                  refine lv_iload hx hb dX8_placing_75 (lv_at hl 0 rfl) ?_
                  obtain ⟨hz10, hD⟩ := hD
                  refine kb_ci hH hA [0, 1, 2, 3, 4, 5, 6, 7, 8, 9, 10, 11, 12, 13, 14] (Wc := (w_O8 G g L7a)) (Wc' := (w_O8 G g L7a)) (WS' := (w_O8 G g L7a)) rfl (by decide) rfl rfl (va_runV (As := [.int (nI iL7)]) (rest := []) ⟨hx, hb, hml, hown, hts⟩ (c_X8_isCockOn l G g L7a (nI iL7) hz10 rfl _) (cwV 1 hts gX8_placing_X8_isCockOn rfl rfl rfl he_X8_isCockOn ⟨Nat.le_of_ble_eq_true rfl, Nat.le_of_ble_eq_true rfl⟩) (kb_preV hH hK hN [0, 1, 2, 3, 4, 5, 6, 7, 8, 9, 10, 11, 12, 13, 14] rfl (by decide) 0 rfl rfl rfl rfl) rfl rfl hl.1 rfl (lv_room (Nat.le_of_ble_eq_true rfl)) dX8_placing_77 ⟨Nat.le_of_ble_eq_true rfl, Nat.le_of_ble_eq_true rfl⟩) (fun H locs hH => ?_)
                  refine lv_if_ne (tgt := 115) hx hb dX8_placing_80 (by decide) (fun c11 => ?_) (fun c11 => ?_)
                  · rw [if_neg c11] at hBL7
                    refine lv_iinc (v := (nI (iL7 + 1))) (lv' := [(4, .int (nI (iL7 + 1))), (3, .int L5a), (0, .ref (g 0)), (1, .int x0), (2, .int x1)]) hx hb dX8_placing_115 hl (k := 0) rfl (nI_1 _) (by decide) rfl (fun ls hl => ?_)
                    refine lv_goto (tgt := 52) hx hb dX8_placing_118 (by decide) ?_
                    subst hBL7
                    exact ihL7 _ _ _ _ ⟨by omega, hs, hDn⟩ ⟨hH, lv_sub hl [0, 1, 2, 3, 4] rfl⟩
                  · have hD := hD c11
                    rw [if_pos c11] at hBL7
                    refine lv_aload_n hx hb dX8_placing_83 rfl (lv_at hl 2 rfl) ?_
                    refine kb_get (v := .ref (g 6)) hx hb hts hin8 hown hK hH 0 rfl rfl rfl 5 (by decide) (hts (.fieldLink RX8 19 "CockWarModel" "now" "[I") (List.mem_of_getElem? (i := 4) rfl)) (fun _ h9 => h9) rfl dX8_placing_84 ?_
                    refine lv_iload_n hx hb dX8_placing_87 rfl (lv_at hl 1 rfl) ?_
                    obtain ⟨hz12, hD⟩ := hD
                    refine kb_iald hx hb hK hH 4 rfl hz12 dX8_placing_88 ?_
                    refine lv_istore (lv' := [(5, .int ((L7a.1 5) (L5a).toNatClampNeg)), (4, .int (nI iL7)), (3, .int L5a), (0, .ref (g 0)), (1, .int x0), (2, .int x1)]) hx hb dX8_placing_89 hl (by decide) rfl (fun ls hl => ?_)
                    refine lv_aload_n hx hb dX8_placing_91 rfl (lv_at hl 3 rfl) ?_
                    refine kb_get (v := .ref (g 6)) hx hb hts hin8 hown hK hH 0 rfl rfl rfl 5 (by decide) (hts (.fieldLink RX8 19 "CockWarModel" "now" "[I") (List.mem_of_getElem? (i := 4) rfl)) (fun _ h9 => h9) rfl dX8_placing_92 ?_
                    refine lv_iload_n hx hb dX8_placing_95 rfl (lv_at hl 2 rfl) ?_
                    refine lv_iload hx hb dX8_placing_96 (lv_at hl 1 rfl) ?_
                    obtain ⟨hz13, hD⟩ := hD
                    refine kb_iast (WS' := (w_O8 G g (oA L7a 5 (upd (L7a.1 5) (L5a).toNatClampNeg (nI iL7))))) hx hb hK hH 4 rfl hz13 rfl dX8_placing_98 (fun H locs hH => ?_)
                    refine lv_aload_n hx hb dX8_placing_99 rfl (lv_at hl 3 rfl) ?_
                    refine lv_iload_n hx hb dX8_placing_100 rfl (lv_at hl 4 rfl) ?_
                    refine lv_iload_n hx hb dX8_placing_101 rfl (lv_at hl 2 rfl) ?_
                    refine lv_iload hx hb dX8_placing_102 (lv_at hl 1 rfl) ?_
                    obtain ⟨hz15, hD⟩ := hD
                    obtain ⟨q14, hq14⟩ : ∃ z, z = (f_X8_tryTrees (oA L7a 5 (upd (L7a.1 5) (L5a).toNatClampNeg (nI iL7))) x0 L5a (nI iL7)) := ⟨_, rfl⟩
                    have hBL7 := kAp_eq hBL7 hq14
                    have hD := kAp_D hD hq14
                    refine kb_cv hH hA [0, 1, 2, 3, 4, 5, 6, 7, 8, 9, 10, 11, 12, 13, 14] (Wc := (w_O8 G g (oA L7a 5 (upd (L7a.1 5) (L5a).toNatClampNeg (nI iL7))))) (Wc' := (w_O8 G g q14)) (WS' := (w_O8 G g q14)) rfl (by decide) rfl rfl (va_runV (As := [.int x0, .int L5a, .int (nI iL7)]) (rest := []) ⟨hx, hb, hml, hown, hts⟩ (c_X8_tryTrees l G g (oA L7a 5 (upd (L7a.1 5) (L5a).toNatClampNeg (nI iL7))) x0 L5a (nI iL7) hz15 hq14.symm _) (cwV 3 hts gX8_placing_X8_tryTrees rfl rfl rfl he_X8_tryTrees ⟨Nat.le_of_ble_eq_true rfl, Nat.le_of_ble_eq_true rfl⟩) (kb_preV hH hK hN [0, 1, 2, 3, 4, 5, 6, 7, 8, 9, 10, 11, 12, 13, 14] rfl (by decide) 0 rfl rfl rfl rfl) rfl rfl hl.1 rfl (lv_room (Nat.le_of_ble_eq_true rfl)) dX8_placing_104 ⟨Nat.le_of_ble_eq_true rfl, Nat.le_of_ble_eq_true rfl⟩) (fun H locs hH => ?_)
                    refine lv_aload_n hx hb dX8_placing_107 rfl (lv_at hl 3 rfl) ?_
                    refine kb_get (v := .ref (g 6)) hx hb hts hin8 hown hK hH 0 rfl rfl rfl 5 (by decide) (hts (.fieldLink RX8 19 "CockWarModel" "now" "[I") (List.mem_of_getElem? (i := 4) rfl)) (fun _ h9 => h9) rfl dX8_placing_108 ?_
                    refine lv_iload_n hx hb dX8_placing_111 rfl (lv_at hl 2 rfl) ?_
                    refine lv_iload hx hb dX8_placing_112 (lv_at hl 0 rfl) ?_
                    have hz16 := hD
                    refine kb_iast (WS' := (w_O8 G g (oA q14 5 (upd (q14.1 5) (L5a).toNatClampNeg ((L7a.1 5) (L5a).toNatClampNeg))))) hx hb hK hH 4 rfl hz16 rfl dX8_placing_114 (fun H locs hH => ?_)
                    refine lv_iinc (v := (nI (iL7 + 1))) (lv' := [(4, .int (nI (iL7 + 1))), (5, .int ((L7a.1 5) (L5a).toNatClampNeg)), (3, .int L5a), (0, .ref (g 0)), (1, .int x0), (2, .int x1)]) hx hb dX8_placing_115 hl (k := 1) rfl (nI_1 _) (by decide) rfl (fun ls hl => ?_)
                    refine lv_goto (tgt := 52) hx hb dX8_placing_118 (by decide) ?_
                    subst hBL7
                    exact ihL7 _ _ _ _ ⟨by omega, hs, hDn⟩ ⟨hH, lv_sub hl [0, 2, 3, 4, 5] rfl⟩
            · obtain ⟨hH, hl⟩ := hX
              refine lv_iinc (v := (L5a + (1 : Int32))) (lv' := [(3, .int (L5a + (1 : Int32))), (0, .ref (g 0)), (1, .int x0), (2, .int x1)]) hx hb dX8_placing_121 hl (k := 0) rfl rfl (by decide) rfl (fun ls hl => ?_)
              refine lv_goto (tgt := 41) hx hb dX8_placing_124 (by decide) ?_
              have hs := lpw_l hs (hBd.trans hBL5.symm)
              have hDn := hDn _ (hBd.trans hBL5.symm)
              exact ihL5 _ _ _ _ ⟨trivial, hs, hDn⟩ ⟨hH, lv_sub hl [0, 1, 2, 3] rfl⟩
      · obtain ⟨hH, hl⟩ := hX
        refine lv_iload_n hx hb dX8_placing_127 rfl (lv_at hl 1 rfl) ?_
        refine lv_if_ne (tgt := 138) hx hb dX8_placing_128 (by decide) (fun c19 => ?_) (fun c19 => ?_)
        · rw [if_neg c19] at hF
          refine lv_iload_n hx hb dX8_placing_138 rfl (lv_at hl 1 rfl) ?_
          refine lv_iconst (v := 1) hx hb dX8_placing_139 (by decide) ?_
          refine lv_icmp_ne (tgt := 150) hx hb dX8_placing_140 (by decide) (fun c20 => ?_) (fun c20 => ?_)
          · rw [if_neg c20] at hF
            refine lv_iload_n hx hb dX8_placing_150 rfl (lv_at hl 1 rfl) ?_
            refine lv_iconst (v := 2) hx hb dX8_placing_151 (by decide) ?_
            refine lv_icmp_ne (tgt := 162) hx hb dX8_placing_152 (by decide) (fun c21 => ?_) (fun c21 => ?_)
            · rw [if_neg c21] at hF
              refine lv_aload_n hx hb dX8_placing_162 rfl (lv_at hl 0 rfl) ?_
              refine kb_get (v := .int (SFL5.2.2.1 24)) hx hb hts hin8 hown hK hH 0 rfl rfl rfl 24 (by decide) (hts (.fieldLink RX8 166 "CockWarModel" "bestTree" "I") (List.mem_of_getElem? (i := 7) rfl)) (fun _ h9 => h9) rfl dX8_placing_163 ?_
              subst hF
              exact kb_iret hx hb hr hH rfl rfl dX8_placing_166 hlocks
            · rw [if_pos c21] at hF
              refine lv_aload_n hx hb dX8_placing_155 rfl (lv_at hl 0 rfl) ?_
              refine kb_get (v := .int (SFL5.2.2.1 23)) hx hb hts hin8 hown hK hH 0 rfl rfl rfl 23 (by decide) (hts (.fieldLink RX8 163 "CockWarModel" "bestCell" "I") (List.mem_of_getElem? (i := 6) rfl)) (fun _ h9 => h9) rfl dX8_placing_156 ?_
              refine lv_goto (tgt := 166) hx hb dX8_placing_159 (by decide) ?_
              subst hF
              exact kb_iret hx hb hr hH rfl rfl dX8_placing_166 hlocks
          · rw [if_pos c20] at hF
            refine lv_aload_n hx hb dX8_placing_143 rfl (lv_at hl 0 rfl) ?_
            refine kb_get (v := .int (SFL5.2.2.1 22)) hx hb hts hin8 hown hK hH 0 rfl rfl rfl 22 (by decide) (hts (.fieldLink RX8 160 "CockWarModel" "bestCock" "I") (List.mem_of_getElem? (i := 5) rfl)) (fun _ h9 => h9) rfl dX8_placing_144 ?_
            refine lv_goto (tgt := 166) hx hb dX8_placing_147 (by decide) ?_
            subst hF
            exact kb_iret hx hb hr hH rfl rfl dX8_placing_166 hlocks
        · rw [if_pos c19] at hF
          refine lv_aload_n hx hb dX8_placing_131 rfl (lv_at hl 0 rfl) ?_
          refine kb_get (v := .int (SFL5.2.2.1 21)) hx hb hts hin8 hown hK hH 0 rfl rfl rfl 21 (by decide) (hts (.fieldLink RX8 157 "CockWarModel" "bestYear" "I") (List.mem_of_getElem? (i := 2) rfl)) (fun _ h9 => h9) rfl dX8_placing_132 ?_
          refine lv_goto (tgt := 166) hx hb dX8_placing_135 (by decide) ?_
          subst hF
          exact kb_iret hx hb hr hH rfl rfl dX8_placing_166 hlocks
    · rw [if_pos c2] at hF
      refine lv_bipush (v := -2) hx hb dX8_placing_22 (by decide) ?_
      subst hF
      exact kb_iret hx hb hr hH rfl rfl dX8_placing_24 hlocks
def f_X8_layTrial_L1 (iL1 : Nat) (s : (OV)) : (OV) := (oA s 5 (upd (s.1 5) ((27 : Int32) + (nI iL1)).toNatClampNeg ((s.1 5) (nI iL1).toNatClampNeg)))
def d_X8_layTrial_L1 (iL1 : Nat) (s : (OV)) : Prop := vp_in ((27 : Int32) + (nI iL1)) 54
def f_X8_layTrial (V : OV) : (OV) := (kAp (lpu (f_X8_layTrial_L1) (cN (27 : Int32)) 0 V) (fun z4 => z4))
def d_X8_layTrial (V : OV) : Prop := (lpuD (f_X8_layTrial_L1) (d_X8_layTrial_L1) (cN (27 : Int32)) 0 V)
set_option maxHeartbeats 4000000 in
set_option maxRecDepth 100000 in
theorem c_X8_layTrial (l : Launch) (G : Ge) (g : Nat → Nat) (V : OV) (hD : d_X8_layTrial V) {F : (OV)} (hF : f_X8_layTrial V = F) : CV l yX8_layTrial wsX8_layTrial { frames := 0, cells := 0, slots := 0, locals := 0 } [.ref (g 0)] G (w_O8 G g V) (w_O8 G g F) := by
  intro sz
  refine Met.ofW (cc := cX8_layTrial) (maxL := 2) (ret := none) (by decide) rfl ?_
  intro p e s m args below meth c s₁ B hml hv
  obtain ⟨rfl, hpre⟩ := hv
  obtain ⟨hsz, hH, hK, hN, hA⟩ := kb_start hpre
  subst hsz
  have hx := B.exec
  have hb := B.bytes
  have hr := B.returns
  have hts := atoms_spec (ws := wsX8_layTrial) B.pre
  have hown : s.vm.findClass RX8 = some m.cls := findClass_of_methodNamed B.named
  have hlocks := B.notSynchronized
  generalize hAe : va_A (List.flatten (w_O8 G g V)) s.heap.size = A at hH hA ⊢
  have hl := lv_entry ([.ref (g 0)]) (n := 2) (Nat.le_of_ble_eq_true rfl)
  rw [lg_entry_eq]
  generalize (lg_sl ([.ref (g 0)]) ++ List.replicate (2 - (lg_sl ([.ref (g 0)])).length) Slot.unset).toArray = ls at hl ⊢
  have hl : lv_has ls 2 [(0, .ref (g 0))] := hl
  have hH : HP G A s.heap (w_O8 G g V) s.heap [] := hH
  have hin8 : ∀ w ∈ u_ws RX8 TX8 31, w ∈ wsX8_layTrial := fun w h => List.mem_cons_of_mem _ (List.mem_append_right _ h)
  have hF : (kAp (lpu (f_X8_layTrial_L1) (cN (27 : Int32)) 0 V) (fun z4 => z4)) = F := hF
  have hD : (lpuD (f_X8_layTrial_L1) (d_X8_layTrial_L1) (cN (27 : Int32)) 0 V) := hD
  refine lv_iconst (v := 0) hx hb dX8_layTrial_0 (by decide) ?_
  refine lv_istore_n (lv' := [(1, .int (0 : Int32)), (0, .ref (g 0))]) hx hb dX8_layTrial_1 rfl hl (by decide) rfl (fun ls hl => ?_)
  have hDlL1 := hD
  obtain ⟨SFL1, hSFL1⟩ : ∃ z, z = (lpu (f_X8_layTrial_L1) (cN (27 : Int32)) 0 V) := ⟨_, rfl⟩
  have hF := kAp_eq hF hSFL1
  refine kb_cut (fun H locs ls => HP G A s.heap (w_O8 G g SFL1) H locs ∧ lv_has ls 2 []) 29 [] (fun EXL1 => ?_) (fun H locs ls hX => ?_)
  · refine kb_loop (σ := (OV)) (fun n i x => n + i = (cN (27 : Int32)) ∧ lpu (f_X8_layTrial_L1) n i x = SFL1 ∧ lpuD (f_X8_layTrial_L1) (d_X8_layTrial_L1) n i x) (fun iL1 x H locs ls => HP G A s.heap (w_O8 G g x) H locs ∧ lv_has ls 2 [(1, .int (nI iL1)), (0, .ref (g 0))]) (fun iL1 x H locs ls hI hX => ?_) (fun n iL1 x hI ihL1 H locs ls hX => ?_) (cN (27 : Int32)) 0 V _ _ _ ⟨Nat.add_zero _, hSFL1.symm, hDlL1⟩ ⟨hH, lv_sub hl [0, 1] rfl⟩
    · obtain ⟨L1a, exL1a⟩ : ∃ z, z = x := ⟨_, rfl⟩
      subst exL1a
      have hH : HP G A s.heap (w_O8 G g L1a) H locs := hX.1
      have hl : lv_has ls 2 [(1, .int (nI iL1)), (0, .ref (g 0))] := hX.2
      obtain ⟨hiL1, hs, _⟩ := hI
      have hiL1 : iL1 = (cN (27 : Int32)) := by omega
      refine lv_iload_n hx hb dX8_layTrial_2 rfl (lv_at hl 0 rfl) ?_
      refine lv_bipush (v := 27) hx hb dX8_layTrial_3 (by decide) ?_
      refine lv_icmp_ge (tgt := 29) hx hb dX8_layTrial_5 (by decide) (fun _ => ?_) (fun c => absurd (cN_end hiL1) c)
      exact EXL1 _ _ _ ⟨by subst hs; exact hH, by subst hs; exact lv_sub hl [] rfl⟩
    · obtain ⟨L1a, exL1a⟩ : ∃ z, z = x := ⟨_, rfl⟩
      subst exL1a
      have hH : HP G A s.heap (w_O8 G g L1a) H locs := hX.1
      have hl : lv_has ls 2 [(1, .int (nI iL1)), (0, .ref (g 0))] := hX.2
      obtain ⟨hiL1, hs, hDi⟩ := hI
      obtain ⟨hD, hDn⟩ := hDi
      have hD : vp_in ((27 : Int32) + (nI iL1)) 54 := hD
      have hltL1 : iL1 < (cN (27 : Int32)) := by omega
      obtain ⟨BVL1, hBd⟩ : ∃ z, (f_X8_layTrial_L1) iL1 L1a = z := ⟨_, rfl⟩
      have hs : lpu (f_X8_layTrial_L1) n (iL1 + 1) BVL1 = SFL1 := by rw [← hBd]; exact hs
      have hDn : lpuD (f_X8_layTrial_L1) (d_X8_layTrial_L1) n (iL1 + 1) BVL1 := by rw [← hBd]; exact hDn
      have hBL1 : (oA L1a 5 (upd (L1a.1 5) ((27 : Int32) + (nI iL1)).toNatClampNeg ((L1a.1 5) (nI iL1).toNatClampNeg))) = BVL1 := hBd
      refine lv_iload_n hx hb dX8_layTrial_2 rfl (lv_at hl 0 rfl) ?_
      refine lv_bipush (v := 27) hx hb dX8_layTrial_3 (by decide) ?_
      refine lv_icmp_ge (tgt := 29) hx hb dX8_layTrial_5 (by decide) (fun c => absurd c (cN_ge hltL1)) (fun c2 => ?_)
      refine lv_aload_n hx hb dX8_layTrial_8 rfl (lv_at hl 1 rfl) ?_
      refine kb_get (v := .ref (g 6)) hx hb hts hin8 hown hK hH 0 rfl rfl rfl 5 (by decide) (hts (.fieldLink RX8 19 "CockWarModel" "now" "[I") (List.mem_of_getElem? (i := 1) rfl)) (fun _ h9 => h9) rfl dX8_layTrial_9 ?_
      refine lv_bipush (v := 27) hx hb dX8_layTrial_12 (by decide) ?_
      refine lv_iload_n hx hb dX8_layTrial_14 rfl (lv_at hl 0 rfl) ?_
      refine lv_iadd hx hb dX8_layTrial_15 ?_
      refine lv_aload_n hx hb dX8_layTrial_16 rfl (lv_at hl 1 rfl) ?_
      refine kb_get (v := .ref (g 6)) hx hb hts hin8 hown hK hH 0 rfl rfl rfl 5 (by decide) (hts (.fieldLink RX8 19 "CockWarModel" "now" "[I") (List.mem_of_getElem? (i := 1) rfl)) (fun _ h9 => h9) rfl dX8_layTrial_17 ?_
      refine lv_iload_n hx hb dX8_layTrial_20 rfl (lv_at hl 0 rfl) ?_
      refine kb_iald hx hb hK hH 4 rfl (vp_in_nI (Nat.lt_of_lt_of_le hltL1 (by decide)) (by decide)) dX8_layTrial_21 ?_
      have hz3 := hD
      refine kb_iast (WS' := (w_O8 G g (oA L1a 5 (upd (L1a.1 5) ((27 : Int32) + (nI iL1)).toNatClampNeg ((L1a.1 5) (nI iL1).toNatClampNeg))))) hx hb hK hH 4 rfl hz3 rfl dX8_layTrial_22 (fun H locs hH => ?_)
      refine lv_iinc (v := (nI (iL1 + 1))) (lv' := [(1, .int (nI (iL1 + 1))), (0, .ref (g 0))]) hx hb dX8_layTrial_23 hl (k := 0) rfl (nI_1 _) (by decide) rfl (fun ls hl => ?_)
      refine lv_goto (tgt := 2) hx hb dX8_layTrial_26 (by decide) ?_
      subst hBL1
      exact ihL1 _ _ _ _ ⟨by omega, hs, hDn⟩ ⟨hH, lv_sub hl [0, 1] rfl⟩
  · obtain ⟨hH, hl⟩ := hX
    subst hF
    exact kb_vret hx hb hr hH rfl dX8_layTrial_29 hlocks
def f_X8_treesNow_L1 (V : OV) (iL1 : Nat) (s : (Int32)) : (Int32) := (if ((V.1 5) ((12 : Int32) + (nI iL1)).toNatClampNeg) ≤ 0 then (s ||| (0 : Int32)) else (s ||| ((1 : Int32) <<< ((nI iL1) &&& 31))))
def d_X8_treesNow_L1 (V : OV) (iL1 : Nat) (s : (Int32)) : Prop := vp_in ((12 : Int32) + (nI iL1)) 54
def f_X8_treesNow (V : OV) : (Int32) := (kAp (lpu (f_X8_treesNow_L1 V) (cN (10 : Int32)) 0 (0 : Int32)) (fun z5 => z5))
def d_X8_treesNow (V : OV) : Prop := (lpuD (f_X8_treesNow_L1 V) (d_X8_treesNow_L1 V) (cN (10 : Int32)) 0 (0 : Int32))
set_option maxHeartbeats 4000000 in
set_option maxRecDepth 100000 in
theorem c_X8_treesNow (l : Launch) (G : Ge) (g : Nat → Nat) (V : OV) (hD : d_X8_treesNow V) {F : (Int32)} (hF : f_X8_treesNow V = F) : CI l yX8_treesNow wsX8_treesNow { frames := 0, cells := 0, slots := 0, locals := 0 } [.ref (g 0)] G (w_O8 G g V) (w_O8 G g V) F := by
  intro sz
  refine Met.ofW (cc := cX8_treesNow) (maxL := 3) (ret := (some .int)) (by decide) rfl ?_
  intro p e s m args below meth c s₁ B hml hv
  obtain ⟨rfl, hpre⟩ := hv
  obtain ⟨hsz, hH, hK, hN, hA⟩ := kb_start hpre
  subst hsz
  have hx := B.exec
  have hb := B.bytes
  have hr := B.returns
  have hts := atoms_spec (ws := wsX8_treesNow) B.pre
  have hown : s.vm.findClass RX8 = some m.cls := findClass_of_methodNamed B.named
  have hlocks := B.notSynchronized
  generalize hAe : va_A (List.flatten (w_O8 G g V)) s.heap.size = A at hH hA ⊢
  have hl := lv_entry ([.ref (g 0)]) (n := 3) (Nat.le_of_ble_eq_true rfl)
  rw [lg_entry_eq]
  generalize (lg_sl ([.ref (g 0)]) ++ List.replicate (3 - (lg_sl ([.ref (g 0)])).length) Slot.unset).toArray = ls at hl ⊢
  have hl : lv_has ls 3 [(0, .ref (g 0))] := hl
  have hH : HP G A s.heap (w_O8 G g V) s.heap [] := hH
  have hin8 : ∀ w ∈ u_ws RX8 TX8 31, w ∈ wsX8_treesNow := fun w h => List.mem_cons_of_mem _ (List.mem_append_right _ h)
  have hF : (kAp (lpu (f_X8_treesNow_L1 V) (cN (10 : Int32)) 0 (0 : Int32)) (fun z5 => z5)) = F := hF
  have hD : (lpuD (f_X8_treesNow_L1 V) (d_X8_treesNow_L1 V) (cN (10 : Int32)) 0 (0 : Int32)) := hD
  refine lv_iconst (v := 0) hx hb dX8_treesNow_0 (by decide) ?_
  refine lv_istore_n (lv' := [(1, .int (0 : Int32)), (0, .ref (g 0))]) hx hb dX8_treesNow_1 rfl hl (by decide) rfl (fun ls hl => ?_)
  refine lv_iconst (v := 0) hx hb dX8_treesNow_2 (by decide) ?_
  refine lv_istore_n (lv' := [(2, .int (0 : Int32)), (1, .int (0 : Int32)), (0, .ref (g 0))]) hx hb dX8_treesNow_3 rfl hl (by decide) rfl (fun ls hl => ?_)
  have hDlL1 := hD
  obtain ⟨SFL1, hSFL1⟩ : ∃ z, z = (lpu (f_X8_treesNow_L1 V) (cN (10 : Int32)) 0 (0 : Int32)) := ⟨_, rfl⟩
  have hF := kAp_eq hF hSFL1
  refine kb_cut (fun H locs ls => HP G A s.heap (w_O8 G g V) H locs ∧ lv_has ls 3 [(1, .int SFL1)]) 38 [] (fun EXL1 => ?_) (fun H locs ls hX => ?_)
  · refine kb_loop (σ := (Int32)) (fun n i x => n + i = (cN (10 : Int32)) ∧ lpu (f_X8_treesNow_L1 V) n i x = SFL1 ∧ lpuD (f_X8_treesNow_L1 V) (d_X8_treesNow_L1 V) n i x) (fun iL1 x H locs ls => HP G A s.heap (w_O8 G g V) H locs ∧ lv_has ls 3 [(2, .int (nI iL1)), (1, .int x), (0, .ref (g 0))]) (fun iL1 x H locs ls hI hX => ?_) (fun n iL1 x hI ihL1 H locs ls hX => ?_) (cN (10 : Int32)) 0 (0 : Int32) _ _ _ ⟨Nat.add_zero _, hSFL1.symm, hDlL1⟩ ⟨hH, lv_sub hl [0, 1, 2] rfl⟩
    · obtain ⟨L1a, exL1a⟩ : ∃ z, z = x := ⟨_, rfl⟩
      subst exL1a
      have hH : HP G A s.heap (w_O8 G g V) H locs := hX.1
      have hl : lv_has ls 3 [(2, .int (nI iL1)), (1, .int L1a), (0, .ref (g 0))] := hX.2
      obtain ⟨hiL1, hs, _⟩ := hI
      have hiL1 : iL1 = (cN (10 : Int32)) := by omega
      refine lv_iload_n hx hb dX8_treesNow_4 rfl (lv_at hl 0 rfl) ?_
      refine lv_bipush (v := 10) hx hb dX8_treesNow_5 (by decide) ?_
      refine lv_icmp_ge (tgt := 38) hx hb dX8_treesNow_7 (by decide) (fun _ => ?_) (fun c => absurd (cN_end hiL1) c)
      exact EXL1 _ _ _ ⟨by subst hs; exact hH, by subst hs; exact lv_sub hl [1] rfl⟩
    · obtain ⟨L1a, exL1a⟩ : ∃ z, z = x := ⟨_, rfl⟩
      subst exL1a
      have hH : HP G A s.heap (w_O8 G g V) H locs := hX.1
      have hl : lv_has ls 3 [(2, .int (nI iL1)), (1, .int L1a), (0, .ref (g 0))] := hX.2
      obtain ⟨hiL1, hs, hDi⟩ := hI
      obtain ⟨hD, hDn⟩ := hDi
      have hD : vp_in ((12 : Int32) + (nI iL1)) 54 := hD
      have hltL1 : iL1 < (cN (10 : Int32)) := by omega
      obtain ⟨BVL1, hBd⟩ : ∃ z, (f_X8_treesNow_L1 V) iL1 L1a = z := ⟨_, rfl⟩
      have hs : lpu (f_X8_treesNow_L1 V) n (iL1 + 1) BVL1 = SFL1 := by rw [← hBd]; exact hs
      have hDn : lpuD (f_X8_treesNow_L1 V) (d_X8_treesNow_L1 V) n (iL1 + 1) BVL1 := by rw [← hBd]; exact hDn
      have hBL1 : (if ((V.1 5) ((12 : Int32) + (nI iL1)).toNatClampNeg) ≤ 0 then (L1a ||| (0 : Int32)) else (L1a ||| ((1 : Int32) <<< ((nI iL1) &&& 31)))) = BVL1 := hBd
      refine lv_iload_n hx hb dX8_treesNow_4 rfl (lv_at hl 0 rfl) ?_
      refine lv_bipush (v := 10) hx hb dX8_treesNow_5 (by decide) ?_
      refine lv_icmp_ge (tgt := 38) hx hb dX8_treesNow_7 (by decide) (fun c => absurd c (cN_ge hltL1)) (fun c2 => ?_)
      refine lv_iload_n hx hb dX8_treesNow_10 rfl (lv_at hl 1 rfl) ?_
      refine lv_aload_n hx hb dX8_treesNow_11 rfl (lv_at hl 2 rfl) ?_
      refine kb_get (v := .ref (g 6)) hx hb hts hin8 hown hK hH 0 rfl rfl rfl 5 (by decide) (hts (.fieldLink RX8 19 "CockWarModel" "now" "[I") (List.mem_of_getElem? (i := 1) rfl)) (fun _ h9 => h9) rfl dX8_treesNow_12 ?_
      refine lv_bipush (v := 12) hx hb dX8_treesNow_15 (by decide) ?_
      refine lv_iload_n hx hb dX8_treesNow_17 rfl (lv_at hl 0 rfl) ?_
      refine lv_iadd hx hb dX8_treesNow_18 ?_
      have hz3 := hD
      refine kb_iald hx hb hK hH 4 rfl hz3 dX8_treesNow_19 ?_
      refine lv_if_le (tgt := 29) hx hb dX8_treesNow_20 (by decide) (fun c4 => ?_) (fun c4 => ?_)
      · rw [if_pos c4] at hBL1
        refine lv_iconst (v := 0) hx hb dX8_treesNow_29 (by decide) ?_
        refine lv_ior hx hb dX8_treesNow_30 ?_
        refine lv_istore_n (lv' := [(1, .int (L1a ||| (0 : Int32))), (2, .int (nI iL1)), (0, .ref (g 0))]) hx hb dX8_treesNow_31 rfl hl (by decide) rfl (fun ls hl => ?_)
        refine lv_iinc (v := (nI (iL1 + 1))) (lv' := [(2, .int (nI (iL1 + 1))), (1, .int (L1a ||| (0 : Int32))), (0, .ref (g 0))]) hx hb dX8_treesNow_32 hl (k := 1) rfl (nI_1 _) (by decide) rfl (fun ls hl => ?_)
        refine lv_goto (tgt := 4) hx hb dX8_treesNow_35 (by decide) ?_
        subst hBL1
        exact ihL1 _ _ _ _ ⟨by omega, hs, hDn⟩ ⟨hH, lv_sub hl [0, 1, 2] rfl⟩
      · rw [if_neg c4] at hBL1
        refine lv_iconst (v := 1) hx hb dX8_treesNow_23 (by decide) ?_
        refine lv_iload_n hx hb dX8_treesNow_24 rfl (lv_at hl 0 rfl) ?_
        refine lv_ishl hx hb dX8_treesNow_25 ?_
        refine lv_goto (tgt := 30) hx hb dX8_treesNow_26 (by decide) ?_
        refine lv_ior hx hb dX8_treesNow_30 ?_
        refine lv_istore_n (lv' := [(1, .int (L1a ||| ((1 : Int32) <<< ((nI iL1) &&& 31)))), (2, .int (nI iL1)), (0, .ref (g 0))]) hx hb dX8_treesNow_31 rfl hl (by decide) rfl (fun ls hl => ?_)
        refine lv_iinc (v := (nI (iL1 + 1))) (lv' := [(2, .int (nI (iL1 + 1))), (1, .int (L1a ||| ((1 : Int32) <<< ((nI iL1) &&& 31)))), (0, .ref (g 0))]) hx hb dX8_treesNow_32 hl (k := 1) rfl (nI_1 _) (by decide) rfl (fun ls hl => ?_)
        refine lv_goto (tgt := 4) hx hb dX8_treesNow_35 (by decide) ?_
        subst hBL1
        exact ihL1 _ _ _ _ ⟨by omega, hs, hDn⟩ ⟨hH, lv_sub hl [0, 1, 2] rfl⟩
  · obtain ⟨hH, hl⟩ := hX
    refine lv_iload_n hx hb dX8_treesNow_38 rfl (lv_at hl 0 rfl) ?_
    subst hF
    exact kb_iret hx hb hr hH rfl rfl dX8_treesNow_39 hlocks
def f_X8_trees_L10 (iL3 : Nat) (iL10 : Nat) (s : (OV)) : (OV) := (if (f_X8_has (nI iL3) (nI iL10)) = 0 then (oA s 5 (upd (s.1 5) ((39 : Int32) + (nI iL10)).toNatClampNeg ((s.1 5) ((39 : Int32) + (nI iL10)).toNatClampNeg))) else (oA s 5 (upd (s.1 5) ((39 : Int32) + (nI iL10)).toNatClampNeg (0 : Int32))))
def d_X8_trees_L10 (iL3 : Nat) (iL10 : Nat) (s : (OV)) : Prop := (((f_X8_has (nI iL3) (nI iL10)) = 0 → (vp_in ((39 : Int32) + (nI iL10)) 54 ∧ vp_in ((39 : Int32) + (nI iL10)) 54)) ∧ (¬ ((f_X8_has (nI iL3) (nI iL10)) = 0) → vp_in ((39 : Int32) + (nI iL10)) 54))
def f_X8_trees_L22 (iL3 : Nat) (iL22 : Nat) (s : (OV)) : (OV) := (if (f_X8_has (nI iL3) (nI iL22)) = 0 then (oA s 5 (upd (s.1 5) ((39 : Int32) + (nI iL22)).toNatClampNeg ((s.1 5) ((39 : Int32) + (nI iL22)).toNatClampNeg))) else (oA s 5 (upd (s.1 5) ((39 : Int32) + (nI iL22)).toNatClampNeg (0 : Int32))))
def d_X8_trees_L22 (iL3 : Nat) (iL22 : Nat) (s : (OV)) : Prop := (((f_X8_has (nI iL3) (nI iL22)) = 0 → (vp_in ((39 : Int32) + (nI iL22)) 54 ∧ vp_in ((39 : Int32) + (nI iL22)) 54)) ∧ (¬ ((f_X8_has (nI iL3) (nI iL22)) = 0) → vp_in ((39 : Int32) + (nI iL22)) 54))
def f_X8_trees_L3 (x0 : Int32) (x1 : Int32) (iL3 : Nat) (s : (Int32 × OV)) : (Int32 × OV) := (if ((nI iL3) &&& ((f_X8_treesNow s.2) ^^^ (-1 : Int32))) = 0 then (if s.1 = (-9 : Int32) then (kAp (f_X8_layTrial s.2) (fun q8 => (kAp (lpu (f_X8_trees_L10 iL3) (cN (10 : Int32)) 0 q8) (fun z16 => (if (f_X8_underOf z16 (1 : Int32) x1 ((z16.1 5) (24 : Int32).toNatClampNeg)) = x0 then ((nI iL3), z16) else (s.1, z16)))))) else (if (f_X8_ones s.1) ≤ (f_X8_ones (nI iL3)) then (s.1, s.2) else (kAp (f_X8_layTrial s.2) (fun q20 => (kAp (lpu (f_X8_trees_L22 iL3) (cN (10 : Int32)) 0 q20) (fun z28 => (if (f_X8_underOf z28 (1 : Int32) x1 ((z28.1 5) (24 : Int32).toNatClampNeg)) = x0 then ((nI iL3), z28) else (s.1, z28)))))))) else (s.1, s.2))
def d_X8_trees_L3 (x0 : Int32) (x1 : Int32) (iL3 : Nat) (s : (Int32 × OV)) : Prop := ((d_X8_treesNow s.2) ∧ (((nI iL3) &&& ((f_X8_treesNow s.2) ^^^ (-1 : Int32))) = 0 → ((s.1 = (-9 : Int32) → ((d_X8_layTrial s.2) ∧ (kAp (f_X8_layTrial s.2) (fun q8 => ((lpuD (f_X8_trees_L10 iL3) (d_X8_trees_L10 iL3) (cN (10 : Int32)) 0 q8) ∧ (kAp (lpu (f_X8_trees_L10 iL3) (cN (10 : Int32)) 0 q8) (fun z16 => (d_X8_underOf z16 (1 : Int32) x1 ((z16.1 5) (24 : Int32).toNatClampNeg))))))))) ∧ (¬ (s.1 = (-9 : Int32)) → (¬ ((f_X8_ones s.1) ≤ (f_X8_ones (nI iL3))) → ((d_X8_layTrial s.2) ∧ (kAp (f_X8_layTrial s.2) (fun q20 => ((lpuD (f_X8_trees_L22 iL3) (d_X8_trees_L22 iL3) (cN (10 : Int32)) 0 q20) ∧ (kAp (lpu (f_X8_trees_L22 iL3) (cN (10 : Int32)) 0 q20) (fun z28 => (d_X8_underOf z28 (1 : Int32) x1 ((z28.1 5) (24 : Int32).toNatClampNeg)))))))))))))
def f_X8_trees (V : OV) (x0 : Int32) (x1 : Int32) : (Int32 × OV) := (if (f_X8_in (x0.toInt64) (0 : Int64) (1 : Int64)) = 0 then ((-2 : Int32), V) else (if (f_X8_isWind V x1) = 0 then ((-1 : Int32), V) else (kAp (lpu (f_X8_trees_L3 x0 x1) (cN (1024 : Int32)) 0 ((-9 : Int32), V)) (fun z31 => (z31.1, z31.2)))))
def d_X8_trees (V : OV) (x0 : Int32) (x1 : Int32) : Prop := (¬ ((f_X8_in (x0.toInt64) (0 : Int64) (1 : Int64)) = 0) → (¬ ((f_X8_isWind V x1) = 0) → (lpuD (f_X8_trees_L3 x0 x1) (d_X8_trees_L3 x0 x1) (cN (1024 : Int32)) 0 ((-9 : Int32), V))))
set_option maxHeartbeats 4000000 in
set_option maxRecDepth 100000 in
theorem c_X8_trees (l : Launch) (G : Ge) (g : Nat → Nat) (V : OV) (x0 : Int32) (x1 : Int32) (hD : d_X8_trees V x0 x1) {F : (Int32 × OV)} (hF : f_X8_trees V x0 x1 = F) : CI l yX8_trees wsX8_trees { frames := 4, cells := 0, slots := 0, locals := 98 } [.ref (g 0), .int x0, .int x1] G (w_O8 G g V) (w_O8 G g F.2) F.1 := by
  intro sz
  refine Met.ofW (cc := cX8_trees) (maxL := 6) (ret := (some .int)) (by decide) rfl ?_
  intro p e s m args below meth c s₁ B hml hv
  obtain ⟨rfl, hpre⟩ := hv
  obtain ⟨hsz, hH, hK, hN, hA⟩ := kb_start hpre
  subst hsz
  have hx := B.exec
  have hb := B.bytes
  have hr := B.returns
  have hts := atoms_spec (ws := wsX8_trees) B.pre
  have hown : s.vm.findClass RX8 = some m.cls := findClass_of_methodNamed B.named
  have hlocks := B.notSynchronized
  generalize hAe : va_A (List.flatten (w_O8 G g V)) s.heap.size = A at hH hA ⊢
  have hl := lv_entry ([.ref (g 0), .int x0, .int x1]) (n := 6) (Nat.le_of_ble_eq_true rfl)
  rw [lg_entry_eq]
  generalize (lg_sl ([.ref (g 0), .int x0, .int x1]) ++ List.replicate (6 - (lg_sl ([.ref (g 0), .int x0, .int x1])).length) Slot.unset).toArray = ls at hl ⊢
  have hl : lv_has ls 6 [(0, .ref (g 0)), (1, .int x0), (2, .int x1)] := hl
  have hH : HP G A s.heap (w_O8 G g V) s.heap [] := hH
  have hin8 : ∀ w ∈ u_ws RX8 TX8 31, w ∈ wsX8_trees := fun w h => List.mem_cons_of_mem _ (List.mem_append_right _ h)
  have hF : (if (f_X8_in (x0.toInt64) (0 : Int64) (1 : Int64)) = 0 then ((-2 : Int32), V) else (if (f_X8_isWind V x1) = 0 then ((-1 : Int32), V) else (kAp (lpu (f_X8_trees_L3 x0 x1) (cN (1024 : Int32)) 0 ((-9 : Int32), V)) (fun z31 => (z31.1, z31.2))))) = F := hF
  have hD : (¬ ((f_X8_in (x0.toInt64) (0 : Int64) (1 : Int64)) = 0) → (¬ ((f_X8_isWind V x1) = 0) → (lpuD (f_X8_trees_L3 x0 x1) (d_X8_trees_L3 x0 x1) (cN (1024 : Int32)) 0 ((-9 : Int32), V)))) := hD
  refine lv_iload_n hx hb dX8_trees_0 rfl (lv_at hl 1 rfl) ?_
  refine lv_i2l (v := (x0.toInt64)) hx hb dX8_trees_1 rfl ?_
  refine lv_lconst (v := 0) hx hb dX8_trees_2 (by decide) ?_
  refine lv_lconst (v := 1) hx hb dX8_trees_3 (by decide) ?_
  refine kb_ci hH hA [] (Wc := ([] : List va_W)) (Wc' := ([] : List va_W)) (WS' := (w_O8 G g V)) rfl (by decide) rfl rfl (va_runS (As := [.long (x0.toInt64), .long (0 : Int64), .long (1 : Int64)]) (rest := []) ⟨hx, hb, hml, hown, hts⟩ (c_X8_in l G (x0.toInt64) (0 : Int64) (1 : Int64) rfl _) (va_cwS 3 hts gX8_trees_X8_in rfl rfl rfl hd_X8_in ⟨Nat.le_of_ble_eq_true rfl, Nat.le_of_ble_eq_true rfl⟩) (kb_preS hH hK hN [] rfl (by decide)) rfl rfl hl.1 rfl (lv_room (Nat.le_of_ble_eq_true rfl)) dX8_trees_4 ⟨Nat.le_of_ble_eq_true rfl, Nat.le_of_ble_eq_true rfl⟩) (fun H locs hH => ?_)
  refine lv_if_ne (tgt := 13) hx hb dX8_trees_7 (by decide) (fun c1 => ?_) (fun c1 => ?_)
  · have hD := hD c1
    rw [if_neg c1] at hF
    refine lv_aload_n hx hb dX8_trees_13 rfl (lv_at hl 0 rfl) ?_
    refine lv_iload_n hx hb dX8_trees_14 rfl (lv_at hl 2 rfl) ?_
    refine kb_ci hH hA [0, 1, 2, 3, 4, 5, 6, 7, 8, 9, 10, 11, 12, 13, 14] (Wc := (w_O8 G g V)) (Wc' := (w_O8 G g V)) (WS' := (w_O8 G g V)) rfl (by decide) rfl rfl (va_runV (As := [.int x1]) (rest := []) ⟨hx, hb, hml, hown, hts⟩ (c_X8_isWind l G g V x1 rfl _) (cwV 1 hts gX8_trees_X8_isWind rfl rfl rfl he_X8_isWind ⟨Nat.le_of_ble_eq_true rfl, Nat.le_of_ble_eq_true rfl⟩) (kb_preV hH hK hN [0, 1, 2, 3, 4, 5, 6, 7, 8, 9, 10, 11, 12, 13, 14] rfl (by decide) 0 rfl rfl rfl rfl) rfl rfl hl.1 rfl (lv_room (Nat.le_of_ble_eq_true rfl)) dX8_trees_15 ⟨Nat.le_of_ble_eq_true rfl, Nat.le_of_ble_eq_true rfl⟩) (fun H locs hH => ?_)
    refine lv_if_ne (tgt := 23) hx hb dX8_trees_18 (by decide) (fun c2 => ?_) (fun c2 => ?_)
    · have hD := hD c2
      rw [if_neg c2] at hF
      refine lv_bipush (v := -9) hx hb dX8_trees_23 (by decide) ?_
      refine lv_istore_n (lv' := [(3, .int (-9 : Int32)), (0, .ref (g 0)), (1, .int x0), (2, .int x1)]) hx hb dX8_trees_25 rfl hl (by decide) rfl (fun ls hl => ?_)
      refine lv_iconst (v := 0) hx hb dX8_trees_26 (by decide) ?_
      refine lv_istore (lv' := [(4, .int (0 : Int32)), (3, .int (-9 : Int32)), (0, .ref (g 0)), (1, .int x0), (2, .int x1)]) hx hb dX8_trees_27 hl (by decide) rfl (fun ls hl => ?_)
      have hDlL3 := hD
      obtain ⟨SFL3, hSFL3⟩ : ∃ z, z = (lpu (f_X8_trees_L3 x0 x1) (cN (1024 : Int32)) 0 ((-9 : Int32), V)) := ⟨_, rfl⟩
      have hF := kAp_eq hF hSFL3
      refine kb_cut (fun H locs ls => HP G A s.heap (w_O8 G g SFL3.2) H locs ∧ lv_has ls 6 [(3, .int SFL3.1)]) 151 [] (fun EXL3 => ?_) (fun H locs ls hX => ?_)
      · refine kb_loop (σ := (Int32 × OV)) (fun n i x => n + i = (cN (1024 : Int32)) ∧ lpu (f_X8_trees_L3 x0 x1) n i x = SFL3 ∧ lpuD (f_X8_trees_L3 x0 x1) (d_X8_trees_L3 x0 x1) n i x) (fun iL3 x H locs ls => HP G A s.heap (w_O8 G g x.2) H locs ∧ lv_has ls 6 [(4, .int (nI iL3)), (3, .int x.1), (0, .ref (g 0)), (1, .int x0), (2, .int x1)]) (fun iL3 x H locs ls hI hX => ?_) (fun n iL3 x hI ihL3 H locs ls hX => ?_) (cN (1024 : Int32)) 0 ((-9 : Int32), V) _ _ _ ⟨Nat.add_zero _, hSFL3.symm, hDlL3⟩ ⟨hH, lv_sub hl [0, 1, 2, 3, 4] rfl⟩
        · obtain ⟨L3a, L3b⟩ := x
          have hH : HP G A s.heap (w_O8 G g L3b) H locs := hX.1
          have hl : lv_has ls 6 [(4, .int (nI iL3)), (3, .int L3a), (0, .ref (g 0)), (1, .int x0), (2, .int x1)] := hX.2
          obtain ⟨hiL3, hs, _⟩ := hI
          have hiL3 : iL3 = (cN (1024 : Int32)) := by omega
          refine lv_iload hx hb dX8_trees_29 (lv_at hl 0 rfl) ?_
          refine lv_sipush (v := 1024) hx hb dX8_trees_31 (by decide) ?_
          refine lv_icmp_ge (tgt := 151) hx hb dX8_trees_34 (by decide) (fun _ => ?_) (fun c => absurd (cN_end hiL3) c)
          exact EXL3 _ _ _ ⟨by subst hs; exact hH, by subst hs; exact lv_sub hl [1] rfl⟩
        · obtain ⟨L3a, L3b⟩ := x
          have hH : HP G A s.heap (w_O8 G g L3b) H locs := hX.1
          have hl : lv_has ls 6 [(4, .int (nI iL3)), (3, .int L3a), (0, .ref (g 0)), (1, .int x0), (2, .int x1)] := hX.2
          obtain ⟨hiL3, hs, hDi⟩ := hI
          obtain ⟨hD, hDn⟩ := hDi
          have hD : ((d_X8_treesNow L3b) ∧ (((nI iL3) &&& ((f_X8_treesNow L3b) ^^^ (-1 : Int32))) = 0 → ((L3a = (-9 : Int32) → ((d_X8_layTrial L3b) ∧ (kAp (f_X8_layTrial L3b) (fun q8 => ((lpuD (f_X8_trees_L10 iL3) (d_X8_trees_L10 iL3) (cN (10 : Int32)) 0 q8) ∧ (kAp (lpu (f_X8_trees_L10 iL3) (cN (10 : Int32)) 0 q8) (fun z16 => (d_X8_underOf z16 (1 : Int32) x1 ((z16.1 5) (24 : Int32).toNatClampNeg))))))))) ∧ (¬ (L3a = (-9 : Int32)) → (¬ ((f_X8_ones L3a) ≤ (f_X8_ones (nI iL3))) → ((d_X8_layTrial L3b) ∧ (kAp (f_X8_layTrial L3b) (fun q20 => ((lpuD (f_X8_trees_L22 iL3) (d_X8_trees_L22 iL3) (cN (10 : Int32)) 0 q20) ∧ (kAp (lpu (f_X8_trees_L22 iL3) (cN (10 : Int32)) 0 q20) (fun z28 => (d_X8_underOf z28 (1 : Int32) x1 ((z28.1 5) (24 : Int32).toNatClampNeg))))))))))))) := hD
          have hltL3 : iL3 < (cN (1024 : Int32)) := by omega
          obtain ⟨BVL3, hBd⟩ : ∃ z, (f_X8_trees_L3 x0 x1) iL3 (L3a, L3b) = z := ⟨_, rfl⟩
          have hs : lpu (f_X8_trees_L3 x0 x1) n (iL3 + 1) BVL3 = SFL3 := by rw [← hBd]; exact hs
          have hDn : lpuD (f_X8_trees_L3 x0 x1) (d_X8_trees_L3 x0 x1) n (iL3 + 1) BVL3 := by rw [← hBd]; exact hDn
          have hBL3 : (if ((nI iL3) &&& ((f_X8_treesNow L3b) ^^^ (-1 : Int32))) = 0 then (if L3a = (-9 : Int32) then (kAp (f_X8_layTrial L3b) (fun q8 => (kAp (lpu (f_X8_trees_L10 iL3) (cN (10 : Int32)) 0 q8) (fun z16 => (if (f_X8_underOf z16 (1 : Int32) x1 ((z16.1 5) (24 : Int32).toNatClampNeg)) = x0 then ((nI iL3), z16) else (L3a, z16)))))) else (if (f_X8_ones L3a) ≤ (f_X8_ones (nI iL3)) then (L3a, L3b) else (kAp (f_X8_layTrial L3b) (fun q20 => (kAp (lpu (f_X8_trees_L22 iL3) (cN (10 : Int32)) 0 q20) (fun z28 => (if (f_X8_underOf z28 (1 : Int32) x1 ((z28.1 5) (24 : Int32).toNatClampNeg)) = x0 then ((nI iL3), z28) else (L3a, z28)))))))) else (L3a, L3b)) = BVL3 := hBd
          refine lv_iload hx hb dX8_trees_29 (lv_at hl 0 rfl) ?_
          refine lv_sipush (v := 1024) hx hb dX8_trees_31 (by decide) ?_
          refine lv_icmp_ge (tgt := 151) hx hb dX8_trees_34 (by decide) (fun c => absurd c (cN_ge hltL3)) (fun c4 => ?_)
          refine lv_iload hx hb dX8_trees_37 (lv_at hl 0 rfl) ?_
          refine lv_aload_n hx hb dX8_trees_39 rfl (lv_at hl 2 rfl) ?_
          obtain ⟨hz5, hD⟩ := hD
          refine kb_ci hH hA [0, 1, 2, 3, 4, 5, 6, 7, 8, 9, 10, 11, 12, 13, 14] (Wc := (w_O8 G g L3b)) (Wc' := (w_O8 G g L3b)) (WS' := (w_O8 G g L3b)) rfl (by decide) rfl rfl (va_runV (As := []) (rest := [.int (nI iL3)]) ⟨hx, hb, hml, hown, hts⟩ (c_X8_treesNow l G g L3b hz5 rfl _) (cwV 0 hts gX8_trees_X8_treesNow rfl rfl rfl he_X8_treesNow ⟨Nat.le_of_ble_eq_true rfl, Nat.le_of_ble_eq_true rfl⟩) (kb_preV hH hK hN [0, 1, 2, 3, 4, 5, 6, 7, 8, 9, 10, 11, 12, 13, 14] rfl (by decide) 0 rfl rfl rfl rfl) rfl rfl hl.1 rfl (lv_room (Nat.le_of_ble_eq_true rfl)) dX8_trees_40 ⟨Nat.le_of_ble_eq_true rfl, Nat.le_of_ble_eq_true rfl⟩) (fun H locs hH => ?_)
          refine lv_iconst (v := -1) hx hb dX8_trees_43 (by decide) ?_
          refine lv_ixor hx hb dX8_trees_44 ?_
          refine lv_iand hx hb dX8_trees_45 ?_
          refine lv_if_ne (tgt := 145) hx hb dX8_trees_46 (by decide) (fun c6 => ?_) (fun c6 => ?_)
          · rw [if_neg c6] at hBL3
            refine lv_iinc (v := (nI (iL3 + 1))) (lv' := [(4, .int (nI (iL3 + 1))), (3, .int L3a), (0, .ref (g 0)), (1, .int x0), (2, .int x1)]) hx hb dX8_trees_145 hl (k := 0) rfl (nI_1 _) (by decide) rfl (fun ls hl => ?_)
            refine lv_goto (tgt := 29) hx hb dX8_trees_148 (by decide) ?_
            subst hBL3
            exact ihL3 _ _ _ _ ⟨by omega, hs, hDn⟩ ⟨hH, lv_sub hl [0, 1, 2, 3, 4] rfl⟩
          · have hD := hD c6
            rw [if_pos c6] at hBL3
            refine lv_iload_n hx hb dX8_trees_49 rfl (lv_at hl 1 rfl) ?_
            refine lv_bipush (v := -9) hx hb dX8_trees_50 (by decide) ?_
            refine lv_icmp_eq (tgt := 67) hx hb dX8_trees_52 (by decide) (fun c7 => ?_) (fun c7 => ?_)
            · have hD := hD.1 c7
              rw [if_pos c7] at hBL3
              refine lv_aload_n hx hb dX8_trees_67 rfl (lv_at hl 2 rfl) ?_
              obtain ⟨hz9, hD⟩ := hD
              obtain ⟨q8, hq8⟩ : ∃ z, z = (f_X8_layTrial L3b) := ⟨_, rfl⟩
              have hBL3 := kAp_eq hBL3 hq8
              have hD := kAp_D hD hq8
              refine kb_cv hH hA [0, 1, 2, 3, 4, 5, 6, 7, 8, 9, 10, 11, 12, 13, 14] (Wc := (w_O8 G g L3b)) (Wc' := (w_O8 G g q8)) (WS' := (w_O8 G g q8)) rfl (by decide) rfl rfl (va_runV (As := []) (rest := []) ⟨hx, hb, hml, hown, hts⟩ (c_X8_layTrial l G g L3b hz9 hq8.symm _) (cwV 0 hts gX8_trees_X8_layTrial rfl rfl rfl he_X8_layTrial ⟨Nat.le_of_ble_eq_true rfl, Nat.le_of_ble_eq_true rfl⟩) (kb_preV hH hK hN [0, 1, 2, 3, 4, 5, 6, 7, 8, 9, 10, 11, 12, 13, 14] rfl (by decide) 0 rfl rfl rfl rfl) rfl rfl hl.1 rfl (lv_room (Nat.le_of_ble_eq_true rfl)) dX8_trees_68 ⟨Nat.le_of_ble_eq_true rfl, Nat.le_of_ble_eq_true rfl⟩) (fun H locs hH => ?_)
              refine lv_iconst (v := 0) hx hb dX8_trees_71 (by decide) ?_
              refine lv_istore (lv' := [(5, .int (0 : Int32)), (4, .int (nI iL3)), (3, .int L3a), (0, .ref (g 0)), (1, .int x0), (2, .int x1)]) hx hb dX8_trees_72 hl (by decide) rfl (fun ls hl => ?_)
              obtain ⟨hDlL10, hD⟩ := hD
              obtain ⟨SFL10, hSFL10⟩ : ∃ z, z = (lpu (f_X8_trees_L10 iL3) (cN (10 : Int32)) 0 q8) := ⟨_, rfl⟩
              have hBL3 := kAp_eq hBL3 hSFL10
              have hD := kAp_D hD hSFL10
              refine kb_cut (fun H locs ls => HP G A s.heap (w_O8 G g SFL10) H locs ∧ lv_has ls 6 [(4, .int (nI iL3)), (3, .int L3a), (0, .ref (g 0)), (1, .int x0), (2, .int x1)]) 121 [] (fun EXL10 => ?_) (fun H locs ls hX => ?_)
              · refine kb_loop (σ := (OV)) (fun n i x => n + i = (cN (10 : Int32)) ∧ lpu (f_X8_trees_L10 iL3) n i x = SFL10 ∧ lpuD (f_X8_trees_L10 iL3) (d_X8_trees_L10 iL3) n i x) (fun iL10 x H locs ls => HP G A s.heap (w_O8 G g x) H locs ∧ lv_has ls 6 [(5, .int (nI iL10)), (4, .int (nI iL3)), (3, .int L3a), (0, .ref (g 0)), (1, .int x0), (2, .int x1)]) (fun iL10 x H locs ls hI hX => ?_) (fun n iL10 x hI ihL10 H locs ls hX => ?_) (cN (10 : Int32)) 0 q8 _ _ _ ⟨Nat.add_zero _, hSFL10.symm, hDlL10⟩ ⟨hH, lv_sub hl [0, 1, 2, 3, 4, 5] rfl⟩
                · obtain ⟨L10a, exL10a⟩ : ∃ z, z = x := ⟨_, rfl⟩
                  subst exL10a
                  have hH : HP G A s.heap (w_O8 G g L10a) H locs := hX.1
                  have hl : lv_has ls 6 [(5, .int (nI iL10)), (4, .int (nI iL3)), (3, .int L3a), (0, .ref (g 0)), (1, .int x0), (2, .int x1)] := hX.2
                  obtain ⟨hiL10, hs, _⟩ := hI
                  have hiL10 : iL10 = (cN (10 : Int32)) := by omega
                  refine lv_iload hx hb dX8_trees_74 (lv_at hl 0 rfl) ?_
                  refine lv_bipush (v := 10) hx hb dX8_trees_76 (by decide) ?_
                  refine lv_icmp_ge (tgt := 121) hx hb dX8_trees_78 (by decide) (fun _ => ?_) (fun c => absurd (cN_end hiL10) c)
                  exact EXL10 _ _ _ ⟨by subst hs; exact hH, by subst hs; exact lv_sub hl [1, 2, 3, 4, 5] rfl⟩
                · obtain ⟨L10a, exL10a⟩ : ∃ z, z = x := ⟨_, rfl⟩
                  subst exL10a
                  have hH : HP G A s.heap (w_O8 G g L10a) H locs := hX.1
                  have hl : lv_has ls 6 [(5, .int (nI iL10)), (4, .int (nI iL3)), (3, .int L3a), (0, .ref (g 0)), (1, .int x0), (2, .int x1)] := hX.2
                  obtain ⟨hiL10, hs, hDi⟩ := hI
                  obtain ⟨hD, hDn⟩ := hDi
                  have hD : (((f_X8_has (nI iL3) (nI iL10)) = 0 → (vp_in ((39 : Int32) + (nI iL10)) 54 ∧ vp_in ((39 : Int32) + (nI iL10)) 54)) ∧ (¬ ((f_X8_has (nI iL3) (nI iL10)) = 0) → vp_in ((39 : Int32) + (nI iL10)) 54)) := hD
                  have hltL10 : iL10 < (cN (10 : Int32)) := by omega
                  obtain ⟨BVL10, hBd⟩ : ∃ z, (f_X8_trees_L10 iL3) iL10 L10a = z := ⟨_, rfl⟩
                  have hs : lpu (f_X8_trees_L10 iL3) n (iL10 + 1) BVL10 = SFL10 := by rw [← hBd]; exact hs
                  have hDn : lpuD (f_X8_trees_L10 iL3) (d_X8_trees_L10 iL3) n (iL10 + 1) BVL10 := by rw [← hBd]; exact hDn
                  have hBL10 : (if (f_X8_has (nI iL3) (nI iL10)) = 0 then (oA L10a 5 (upd (L10a.1 5) ((39 : Int32) + (nI iL10)).toNatClampNeg ((L10a.1 5) ((39 : Int32) + (nI iL10)).toNatClampNeg))) else (oA L10a 5 (upd (L10a.1 5) ((39 : Int32) + (nI iL10)).toNatClampNeg (0 : Int32)))) = BVL10 := hBd
                  refine lv_iload hx hb dX8_trees_74 (lv_at hl 0 rfl) ?_
                  refine lv_bipush (v := 10) hx hb dX8_trees_76 (by decide) ?_
                  refine lv_icmp_ge (tgt := 121) hx hb dX8_trees_78 (by decide) (fun c => absurd c (cN_ge hltL10)) (fun c11 => ?_)
                  refine lv_aload_n hx hb dX8_trees_81 rfl (lv_at hl 3 rfl) ?_
                  refine kb_get (v := .ref (g 6)) hx hb hts hin8 hown hK hH 0 rfl rfl rfl 5 (by decide) (hts (.fieldLink RX8 19 "CockWarModel" "now" "[I") (List.mem_of_getElem? (i := 1) rfl)) (fun _ h9 => h9) rfl dX8_trees_82 ?_
                  refine lv_bipush (v := 39) hx hb dX8_trees_85 (by decide) ?_
                  refine lv_iload hx hb dX8_trees_87 (lv_at hl 0 rfl) ?_
                  refine lv_iadd hx hb dX8_trees_89 ?_
                  refine lv_iload hx hb dX8_trees_90 (lv_at hl 1 rfl) ?_
                  refine lv_iload hx hb dX8_trees_92 (lv_at hl 0 rfl) ?_
                  refine kb_ci hH hA [] (Wc := ([] : List va_W)) (Wc' := ([] : List va_W)) (WS' := (w_O8 G g L10a)) rfl (by decide) rfl rfl (va_runS (As := [.int (nI iL3), .int (nI iL10)]) (rest := [.int ((39 : Int32) + (nI iL10)), .ref (g 6)]) ⟨hx, hb, hml, hown, hts⟩ (c_X8_has l G (nI iL3) (nI iL10) rfl _) (va_cwS 2 hts gX8_trees_X8_has rfl rfl rfl hd_X8_has ⟨Nat.le_of_ble_eq_true rfl, Nat.le_of_ble_eq_true rfl⟩) (kb_preS hH hK hN [] rfl (by decide)) rfl rfl hl.1 rfl (lv_room (Nat.le_of_ble_eq_true rfl)) dX8_trees_94 ⟨Nat.le_of_ble_eq_true rfl, Nat.le_of_ble_eq_true rfl⟩) (fun H locs hH => ?_)
                  refine lv_if_eq (tgt := 104) hx hb dX8_trees_97 (by decide) (fun c12 => ?_) (fun c12 => ?_)
                  · have hD := hD.1 c12
                    rw [if_pos c12] at hBL10
                    refine lv_aload_n hx hb dX8_trees_104 rfl (lv_at hl 3 rfl) ?_
                    refine kb_get (v := .ref (g 6)) hx hb hts hin8 hown hK hH 0 rfl rfl rfl 5 (by decide) (hts (.fieldLink RX8 19 "CockWarModel" "now" "[I") (List.mem_of_getElem? (i := 1) rfl)) (fun _ h9 => h9) rfl dX8_trees_105 ?_
                    refine lv_bipush (v := 39) hx hb dX8_trees_108 (by decide) ?_
                    refine lv_iload hx hb dX8_trees_110 (lv_at hl 0 rfl) ?_
                    refine lv_iadd hx hb dX8_trees_112 ?_
                    obtain ⟨hz13, hD⟩ := hD
                    refine kb_iald hx hb hK hH 4 rfl hz13 dX8_trees_113 ?_
                    have hz14 := hD
                    refine kb_iast (WS' := (w_O8 G g (oA L10a 5 (upd (L10a.1 5) ((39 : Int32) + (nI iL10)).toNatClampNeg ((L10a.1 5) ((39 : Int32) + (nI iL10)).toNatClampNeg))))) hx hb hK hH 4 rfl hz14 rfl dX8_trees_114 (fun H locs hH => ?_)
                    refine lv_iinc (v := (nI (iL10 + 1))) (lv' := [(5, .int (nI (iL10 + 1))), (4, .int (nI iL3)), (3, .int L3a), (0, .ref (g 0)), (1, .int x0), (2, .int x1)]) hx hb dX8_trees_115 hl (k := 0) rfl (nI_1 _) (by decide) rfl (fun ls hl => ?_)
                    refine lv_goto (tgt := 74) hx hb dX8_trees_118 (by decide) ?_
                    subst hBL10
                    exact ihL10 _ _ _ _ ⟨by omega, hs, hDn⟩ ⟨hH, lv_sub hl [0, 1, 2, 3, 4, 5] rfl⟩
                  · have hD := hD.2 c12
                    rw [if_neg c12] at hBL10
                    refine lv_iconst (v := 0) hx hb dX8_trees_100 (by decide) ?_
                    refine lv_goto (tgt := 114) hx hb dX8_trees_101 (by decide) ?_
                    have hz15 := hD
                    refine kb_iast (WS' := (w_O8 G g (oA L10a 5 (upd (L10a.1 5) ((39 : Int32) + (nI iL10)).toNatClampNeg (0 : Int32))))) hx hb hK hH 4 rfl hz15 rfl dX8_trees_114 (fun H locs hH => ?_)
                    refine lv_iinc (v := (nI (iL10 + 1))) (lv' := [(5, .int (nI (iL10 + 1))), (4, .int (nI iL3)), (3, .int L3a), (0, .ref (g 0)), (1, .int x0), (2, .int x1)]) hx hb dX8_trees_115 hl (k := 0) rfl (nI_1 _) (by decide) rfl (fun ls hl => ?_)
                    refine lv_goto (tgt := 74) hx hb dX8_trees_118 (by decide) ?_
                    subst hBL10
                    exact ihL10 _ _ _ _ ⟨by omega, hs, hDn⟩ ⟨hH, lv_sub hl [0, 1, 2, 3, 4, 5] rfl⟩
              · obtain ⟨hH, hl⟩ := hX
                refine lv_aload_n hx hb dX8_trees_121 rfl (lv_at hl 2 rfl) ?_
                refine lv_iconst (v := 1) hx hb dX8_trees_122 (by decide) ?_
                refine lv_iload_n hx hb dX8_trees_123 rfl (lv_at hl 4 rfl) ?_
                refine lv_aload_n hx hb dX8_trees_124 rfl (lv_at hl 2 rfl) ?_
                refine kb_get (v := .ref (g 6)) hx hb hts hin8 hown hK hH 0 rfl rfl rfl 5 (by decide) (hts (.fieldLink RX8 19 "CockWarModel" "now" "[I") (List.mem_of_getElem? (i := 1) rfl)) (fun _ h9 => h9) rfl dX8_trees_125 ?_
                refine lv_bipush (v := 24) hx hb dX8_trees_128 (by decide) ?_
                refine kb_iald hx hb hK hH 4 rfl (show ¬ ((24 : Int32) < 0 ∨ 54 ≤ (24 : Int32).toNatClampNeg) by decide) dX8_trees_130 ?_
                have hz17 := hD
                refine kb_ci hH hA [0, 1, 2, 3, 4, 5, 6, 7, 8, 9, 10, 11, 12, 13, 14] (Wc := (w_O8 G g SFL10)) (Wc' := (w_O8 G g SFL10)) (WS' := (w_O8 G g SFL10)) rfl (by decide) rfl rfl (va_runV (As := [.int (1 : Int32), .int x1, .int ((SFL10.1 5) (24 : Int32).toNatClampNeg)]) (rest := []) ⟨hx, hb, hml, hown, hts⟩ (c_X8_underOf l G g SFL10 (1 : Int32) x1 ((SFL10.1 5) (24 : Int32).toNatClampNeg) hz17 rfl _) (cwV 3 hts gX8_trees_X8_underOf rfl rfl rfl he_X8_underOf ⟨Nat.le_of_ble_eq_true rfl, Nat.le_of_ble_eq_true rfl⟩) (kb_preV hH hK hN [0, 1, 2, 3, 4, 5, 6, 7, 8, 9, 10, 11, 12, 13, 14] rfl (by decide) 0 rfl rfl rfl rfl) rfl rfl hl.1 rfl (lv_room (Nat.le_of_ble_eq_true rfl)) dX8_trees_131 ⟨Nat.le_of_ble_eq_true rfl, Nat.le_of_ble_eq_true rfl⟩) (fun H locs hH => ?_)
                refine lv_iload_n hx hb dX8_trees_134 rfl (lv_at hl 3 rfl) ?_
                refine lv_icmp_ne (tgt := 143) hx hb dX8_trees_135 (by decide) (fun c18 => ?_) (fun c18 => ?_)
                · rw [if_neg c18] at hBL3
                  refine lv_iload_n hx hb dX8_trees_143 rfl (lv_at hl 1 rfl) ?_
                  refine lv_istore_n (lv' := [(3, .int L3a), (4, .int (nI iL3)), (0, .ref (g 0)), (1, .int x0), (2, .int x1)]) hx hb dX8_trees_144 rfl hl (by decide) rfl (fun ls hl => ?_)
                  refine lv_iinc (v := (nI (iL3 + 1))) (lv' := [(4, .int (nI (iL3 + 1))), (3, .int L3a), (0, .ref (g 0)), (1, .int x0), (2, .int x1)]) hx hb dX8_trees_145 hl (k := 1) rfl (nI_1 _) (by decide) rfl (fun ls hl => ?_)
                  refine lv_goto (tgt := 29) hx hb dX8_trees_148 (by decide) ?_
                  subst hBL3
                  exact ihL3 _ _ _ _ ⟨by omega, hs, hDn⟩ ⟨hH, lv_sub hl [0, 1, 2, 3, 4] rfl⟩
                · rw [if_pos c18] at hBL3
                  refine lv_iload hx hb dX8_trees_138 (lv_at hl 0 rfl) ?_
                  refine lv_goto (tgt := 144) hx hb dX8_trees_140 (by decide) ?_
                  refine lv_istore_n (lv' := [(3, .int (nI iL3)), (4, .int (nI iL3)), (0, .ref (g 0)), (1, .int x0), (2, .int x1)]) hx hb dX8_trees_144 rfl hl (by decide) rfl (fun ls hl => ?_)
                  refine lv_iinc (v := (nI (iL3 + 1))) (lv' := [(4, .int (nI (iL3 + 1))), (3, .int (nI iL3)), (0, .ref (g 0)), (1, .int x0), (2, .int x1)]) hx hb dX8_trees_145 hl (k := 1) rfl (nI_1 _) (by decide) rfl (fun ls hl => ?_)
                  refine lv_goto (tgt := 29) hx hb dX8_trees_148 (by decide) ?_
                  subst hBL3
                  exact ihL3 _ _ _ _ ⟨by omega, hs, hDn⟩ ⟨hH, lv_sub hl [0, 1, 2, 3, 4] rfl⟩
            · have hD := hD.2 c7
              rw [if_neg c7] at hBL3
              refine lv_iload hx hb dX8_trees_55 (lv_at hl 0 rfl) ?_
              refine kb_ci hH hA [] (Wc := ([] : List va_W)) (Wc' := ([] : List va_W)) (WS' := (w_O8 G g L3b)) rfl (by decide) rfl rfl (va_runS (As := [.int (nI iL3)]) (rest := []) ⟨hx, hb, hml, hown, hts⟩ (c_X8_ones l G (nI iL3) rfl _) (va_cwS 1 hts gX8_trees_X8_ones rfl rfl rfl hd_X8_ones ⟨Nat.le_of_ble_eq_true rfl, Nat.le_of_ble_eq_true rfl⟩) (kb_preS hH hK hN [] rfl (by decide)) rfl rfl hl.1 rfl (lv_room (Nat.le_of_ble_eq_true rfl)) dX8_trees_57 ⟨Nat.le_of_ble_eq_true rfl, Nat.le_of_ble_eq_true rfl⟩) (fun H locs hH => ?_)
              refine lv_iload_n hx hb dX8_trees_60 rfl (lv_at hl 1 rfl) ?_
              refine kb_ci hH hA [] (Wc := ([] : List va_W)) (Wc' := ([] : List va_W)) (WS' := (w_O8 G g L3b)) rfl (by decide) rfl rfl (va_runS (As := [.int L3a]) (rest := [.int (f_X8_ones (nI iL3))]) ⟨hx, hb, hml, hown, hts⟩ (c_X8_ones l G L3a rfl _) (va_cwS 1 hts gX8_trees_X8_ones rfl rfl rfl hd_X8_ones ⟨Nat.le_of_ble_eq_true rfl, Nat.le_of_ble_eq_true rfl⟩) (kb_preS hH hK hN [] rfl (by decide)) rfl rfl hl.1 rfl (lv_room (Nat.le_of_ble_eq_true rfl)) dX8_trees_61 ⟨Nat.le_of_ble_eq_true rfl, Nat.le_of_ble_eq_true rfl⟩) (fun H locs hH => ?_)
              refine lv_icmp_ge (tgt := 145) hx hb dX8_trees_64 (by decide) (fun c19 => ?_) (fun c19 => ?_)
              · rw [if_pos c19] at hBL3
                refine lv_iinc (v := (nI (iL3 + 1))) (lv' := [(4, .int (nI (iL3 + 1))), (3, .int L3a), (0, .ref (g 0)), (1, .int x0), (2, .int x1)]) hx hb dX8_trees_145 hl (k := 0) rfl (nI_1 _) (by decide) rfl (fun ls hl => ?_)
                refine lv_goto (tgt := 29) hx hb dX8_trees_148 (by decide) ?_
                subst hBL3
                exact ihL3 _ _ _ _ ⟨by omega, hs, hDn⟩ ⟨hH, lv_sub hl [0, 1, 2, 3, 4] rfl⟩
              · have hD := hD c19
                rw [if_neg c19] at hBL3
                refine lv_aload_n hx hb dX8_trees_67 rfl (lv_at hl 2 rfl) ?_
                obtain ⟨hz21, hD⟩ := hD
                obtain ⟨q20, hq20⟩ : ∃ z, z = (f_X8_layTrial L3b) := ⟨_, rfl⟩
                have hBL3 := kAp_eq hBL3 hq20
                have hD := kAp_D hD hq20
                refine kb_cv hH hA [0, 1, 2, 3, 4, 5, 6, 7, 8, 9, 10, 11, 12, 13, 14] (Wc := (w_O8 G g L3b)) (Wc' := (w_O8 G g q20)) (WS' := (w_O8 G g q20)) rfl (by decide) rfl rfl (va_runV (As := []) (rest := []) ⟨hx, hb, hml, hown, hts⟩ (c_X8_layTrial l G g L3b hz21 hq20.symm _) (cwV 0 hts gX8_trees_X8_layTrial rfl rfl rfl he_X8_layTrial ⟨Nat.le_of_ble_eq_true rfl, Nat.le_of_ble_eq_true rfl⟩) (kb_preV hH hK hN [0, 1, 2, 3, 4, 5, 6, 7, 8, 9, 10, 11, 12, 13, 14] rfl (by decide) 0 rfl rfl rfl rfl) rfl rfl hl.1 rfl (lv_room (Nat.le_of_ble_eq_true rfl)) dX8_trees_68 ⟨Nat.le_of_ble_eq_true rfl, Nat.le_of_ble_eq_true rfl⟩) (fun H locs hH => ?_)
                refine lv_iconst (v := 0) hx hb dX8_trees_71 (by decide) ?_
                refine lv_istore (lv' := [(5, .int (0 : Int32)), (4, .int (nI iL3)), (3, .int L3a), (0, .ref (g 0)), (1, .int x0), (2, .int x1)]) hx hb dX8_trees_72 hl (by decide) rfl (fun ls hl => ?_)
                obtain ⟨hDlL22, hD⟩ := hD
                obtain ⟨SFL22, hSFL22⟩ : ∃ z, z = (lpu (f_X8_trees_L22 iL3) (cN (10 : Int32)) 0 q20) := ⟨_, rfl⟩
                have hBL3 := kAp_eq hBL3 hSFL22
                have hD := kAp_D hD hSFL22
                refine kb_cut (fun H locs ls => HP G A s.heap (w_O8 G g SFL22) H locs ∧ lv_has ls 6 [(4, .int (nI iL3)), (3, .int L3a), (0, .ref (g 0)), (1, .int x0), (2, .int x1)]) 121 [] (fun EXL22 => ?_) (fun H locs ls hX => ?_)
                · refine kb_loop (σ := (OV)) (fun n i x => n + i = (cN (10 : Int32)) ∧ lpu (f_X8_trees_L22 iL3) n i x = SFL22 ∧ lpuD (f_X8_trees_L22 iL3) (d_X8_trees_L22 iL3) n i x) (fun iL22 x H locs ls => HP G A s.heap (w_O8 G g x) H locs ∧ lv_has ls 6 [(5, .int (nI iL22)), (4, .int (nI iL3)), (3, .int L3a), (0, .ref (g 0)), (1, .int x0), (2, .int x1)]) (fun iL22 x H locs ls hI hX => ?_) (fun n iL22 x hI ihL22 H locs ls hX => ?_) (cN (10 : Int32)) 0 q20 _ _ _ ⟨Nat.add_zero _, hSFL22.symm, hDlL22⟩ ⟨hH, lv_sub hl [0, 1, 2, 3, 4, 5] rfl⟩
                  · obtain ⟨L22a, exL22a⟩ : ∃ z, z = x := ⟨_, rfl⟩
                    subst exL22a
                    have hH : HP G A s.heap (w_O8 G g L22a) H locs := hX.1
                    have hl : lv_has ls 6 [(5, .int (nI iL22)), (4, .int (nI iL3)), (3, .int L3a), (0, .ref (g 0)), (1, .int x0), (2, .int x1)] := hX.2
                    obtain ⟨hiL22, hs, _⟩ := hI
                    have hiL22 : iL22 = (cN (10 : Int32)) := by omega
                    refine lv_iload hx hb dX8_trees_74 (lv_at hl 0 rfl) ?_
                    refine lv_bipush (v := 10) hx hb dX8_trees_76 (by decide) ?_
                    refine lv_icmp_ge (tgt := 121) hx hb dX8_trees_78 (by decide) (fun _ => ?_) (fun c => absurd (cN_end hiL22) c)
                    exact EXL22 _ _ _ ⟨by subst hs; exact hH, by subst hs; exact lv_sub hl [1, 2, 3, 4, 5] rfl⟩
                  · obtain ⟨L22a, exL22a⟩ : ∃ z, z = x := ⟨_, rfl⟩
                    subst exL22a
                    have hH : HP G A s.heap (w_O8 G g L22a) H locs := hX.1
                    have hl : lv_has ls 6 [(5, .int (nI iL22)), (4, .int (nI iL3)), (3, .int L3a), (0, .ref (g 0)), (1, .int x0), (2, .int x1)] := hX.2
                    obtain ⟨hiL22, hs, hDi⟩ := hI
                    obtain ⟨hD, hDn⟩ := hDi
                    have hD : (((f_X8_has (nI iL3) (nI iL22)) = 0 → (vp_in ((39 : Int32) + (nI iL22)) 54 ∧ vp_in ((39 : Int32) + (nI iL22)) 54)) ∧ (¬ ((f_X8_has (nI iL3) (nI iL22)) = 0) → vp_in ((39 : Int32) + (nI iL22)) 54)) := hD
                    have hltL22 : iL22 < (cN (10 : Int32)) := by omega
                    obtain ⟨BVL22, hBd⟩ : ∃ z, (f_X8_trees_L22 iL3) iL22 L22a = z := ⟨_, rfl⟩
                    have hs : lpu (f_X8_trees_L22 iL3) n (iL22 + 1) BVL22 = SFL22 := by rw [← hBd]; exact hs
                    have hDn : lpuD (f_X8_trees_L22 iL3) (d_X8_trees_L22 iL3) n (iL22 + 1) BVL22 := by rw [← hBd]; exact hDn
                    have hBL22 : (if (f_X8_has (nI iL3) (nI iL22)) = 0 then (oA L22a 5 (upd (L22a.1 5) ((39 : Int32) + (nI iL22)).toNatClampNeg ((L22a.1 5) ((39 : Int32) + (nI iL22)).toNatClampNeg))) else (oA L22a 5 (upd (L22a.1 5) ((39 : Int32) + (nI iL22)).toNatClampNeg (0 : Int32)))) = BVL22 := hBd
                    refine lv_iload hx hb dX8_trees_74 (lv_at hl 0 rfl) ?_
                    refine lv_bipush (v := 10) hx hb dX8_trees_76 (by decide) ?_
                    refine lv_icmp_ge (tgt := 121) hx hb dX8_trees_78 (by decide) (fun c => absurd c (cN_ge hltL22)) (fun c23 => ?_)
                    refine lv_aload_n hx hb dX8_trees_81 rfl (lv_at hl 3 rfl) ?_
                    refine kb_get (v := .ref (g 6)) hx hb hts hin8 hown hK hH 0 rfl rfl rfl 5 (by decide) (hts (.fieldLink RX8 19 "CockWarModel" "now" "[I") (List.mem_of_getElem? (i := 1) rfl)) (fun _ h9 => h9) rfl dX8_trees_82 ?_
                    refine lv_bipush (v := 39) hx hb dX8_trees_85 (by decide) ?_
                    refine lv_iload hx hb dX8_trees_87 (lv_at hl 0 rfl) ?_
                    refine lv_iadd hx hb dX8_trees_89 ?_
                    refine lv_iload hx hb dX8_trees_90 (lv_at hl 1 rfl) ?_
                    refine lv_iload hx hb dX8_trees_92 (lv_at hl 0 rfl) ?_
                    refine kb_ci hH hA [] (Wc := ([] : List va_W)) (Wc' := ([] : List va_W)) (WS' := (w_O8 G g L22a)) rfl (by decide) rfl rfl (va_runS (As := [.int (nI iL3), .int (nI iL22)]) (rest := [.int ((39 : Int32) + (nI iL22)), .ref (g 6)]) ⟨hx, hb, hml, hown, hts⟩ (c_X8_has l G (nI iL3) (nI iL22) rfl _) (va_cwS 2 hts gX8_trees_X8_has rfl rfl rfl hd_X8_has ⟨Nat.le_of_ble_eq_true rfl, Nat.le_of_ble_eq_true rfl⟩) (kb_preS hH hK hN [] rfl (by decide)) rfl rfl hl.1 rfl (lv_room (Nat.le_of_ble_eq_true rfl)) dX8_trees_94 ⟨Nat.le_of_ble_eq_true rfl, Nat.le_of_ble_eq_true rfl⟩) (fun H locs hH => ?_)
                    refine lv_if_eq (tgt := 104) hx hb dX8_trees_97 (by decide) (fun c24 => ?_) (fun c24 => ?_)
                    · have hD := hD.1 c24
                      rw [if_pos c24] at hBL22
                      refine lv_aload_n hx hb dX8_trees_104 rfl (lv_at hl 3 rfl) ?_
                      refine kb_get (v := .ref (g 6)) hx hb hts hin8 hown hK hH 0 rfl rfl rfl 5 (by decide) (hts (.fieldLink RX8 19 "CockWarModel" "now" "[I") (List.mem_of_getElem? (i := 1) rfl)) (fun _ h9 => h9) rfl dX8_trees_105 ?_
                      refine lv_bipush (v := 39) hx hb dX8_trees_108 (by decide) ?_
                      refine lv_iload hx hb dX8_trees_110 (lv_at hl 0 rfl) ?_
                      refine lv_iadd hx hb dX8_trees_112 ?_
                      obtain ⟨hz25, hD⟩ := hD
                      refine kb_iald hx hb hK hH 4 rfl hz25 dX8_trees_113 ?_
                      have hz26 := hD
                      refine kb_iast (WS' := (w_O8 G g (oA L22a 5 (upd (L22a.1 5) ((39 : Int32) + (nI iL22)).toNatClampNeg ((L22a.1 5) ((39 : Int32) + (nI iL22)).toNatClampNeg))))) hx hb hK hH 4 rfl hz26 rfl dX8_trees_114 (fun H locs hH => ?_)
                      refine lv_iinc (v := (nI (iL22 + 1))) (lv' := [(5, .int (nI (iL22 + 1))), (4, .int (nI iL3)), (3, .int L3a), (0, .ref (g 0)), (1, .int x0), (2, .int x1)]) hx hb dX8_trees_115 hl (k := 0) rfl (nI_1 _) (by decide) rfl (fun ls hl => ?_)
                      refine lv_goto (tgt := 74) hx hb dX8_trees_118 (by decide) ?_
                      subst hBL22
                      exact ihL22 _ _ _ _ ⟨by omega, hs, hDn⟩ ⟨hH, lv_sub hl [0, 1, 2, 3, 4, 5] rfl⟩
                    · have hD := hD.2 c24
                      rw [if_neg c24] at hBL22
                      refine lv_iconst (v := 0) hx hb dX8_trees_100 (by decide) ?_
                      refine lv_goto (tgt := 114) hx hb dX8_trees_101 (by decide) ?_
                      have hz27 := hD
                      refine kb_iast (WS' := (w_O8 G g (oA L22a 5 (upd (L22a.1 5) ((39 : Int32) + (nI iL22)).toNatClampNeg (0 : Int32))))) hx hb hK hH 4 rfl hz27 rfl dX8_trees_114 (fun H locs hH => ?_)
                      refine lv_iinc (v := (nI (iL22 + 1))) (lv' := [(5, .int (nI (iL22 + 1))), (4, .int (nI iL3)), (3, .int L3a), (0, .ref (g 0)), (1, .int x0), (2, .int x1)]) hx hb dX8_trees_115 hl (k := 0) rfl (nI_1 _) (by decide) rfl (fun ls hl => ?_)
                      refine lv_goto (tgt := 74) hx hb dX8_trees_118 (by decide) ?_
                      subst hBL22
                      exact ihL22 _ _ _ _ ⟨by omega, hs, hDn⟩ ⟨hH, lv_sub hl [0, 1, 2, 3, 4, 5] rfl⟩
                · obtain ⟨hH, hl⟩ := hX
                  refine lv_aload_n hx hb dX8_trees_121 rfl (lv_at hl 2 rfl) ?_
                  refine lv_iconst (v := 1) hx hb dX8_trees_122 (by decide) ?_
                  refine lv_iload_n hx hb dX8_trees_123 rfl (lv_at hl 4 rfl) ?_
                  refine lv_aload_n hx hb dX8_trees_124 rfl (lv_at hl 2 rfl) ?_
                  refine kb_get (v := .ref (g 6)) hx hb hts hin8 hown hK hH 0 rfl rfl rfl 5 (by decide) (hts (.fieldLink RX8 19 "CockWarModel" "now" "[I") (List.mem_of_getElem? (i := 1) rfl)) (fun _ h9 => h9) rfl dX8_trees_125 ?_
                  refine lv_bipush (v := 24) hx hb dX8_trees_128 (by decide) ?_
                  refine kb_iald hx hb hK hH 4 rfl (show ¬ ((24 : Int32) < 0 ∨ 54 ≤ (24 : Int32).toNatClampNeg) by decide) dX8_trees_130 ?_
                  have hz29 := hD
                  refine kb_ci hH hA [0, 1, 2, 3, 4, 5, 6, 7, 8, 9, 10, 11, 12, 13, 14] (Wc := (w_O8 G g SFL22)) (Wc' := (w_O8 G g SFL22)) (WS' := (w_O8 G g SFL22)) rfl (by decide) rfl rfl (va_runV (As := [.int (1 : Int32), .int x1, .int ((SFL22.1 5) (24 : Int32).toNatClampNeg)]) (rest := []) ⟨hx, hb, hml, hown, hts⟩ (c_X8_underOf l G g SFL22 (1 : Int32) x1 ((SFL22.1 5) (24 : Int32).toNatClampNeg) hz29 rfl _) (cwV 3 hts gX8_trees_X8_underOf rfl rfl rfl he_X8_underOf ⟨Nat.le_of_ble_eq_true rfl, Nat.le_of_ble_eq_true rfl⟩) (kb_preV hH hK hN [0, 1, 2, 3, 4, 5, 6, 7, 8, 9, 10, 11, 12, 13, 14] rfl (by decide) 0 rfl rfl rfl rfl) rfl rfl hl.1 rfl (lv_room (Nat.le_of_ble_eq_true rfl)) dX8_trees_131 ⟨Nat.le_of_ble_eq_true rfl, Nat.le_of_ble_eq_true rfl⟩) (fun H locs hH => ?_)
                  refine lv_iload_n hx hb dX8_trees_134 rfl (lv_at hl 3 rfl) ?_
                  refine lv_icmp_ne (tgt := 143) hx hb dX8_trees_135 (by decide) (fun c30 => ?_) (fun c30 => ?_)
                  · rw [if_neg c30] at hBL3
                    refine lv_iload_n hx hb dX8_trees_143 rfl (lv_at hl 1 rfl) ?_
                    refine lv_istore_n (lv' := [(3, .int L3a), (4, .int (nI iL3)), (0, .ref (g 0)), (1, .int x0), (2, .int x1)]) hx hb dX8_trees_144 rfl hl (by decide) rfl (fun ls hl => ?_)
                    refine lv_iinc (v := (nI (iL3 + 1))) (lv' := [(4, .int (nI (iL3 + 1))), (3, .int L3a), (0, .ref (g 0)), (1, .int x0), (2, .int x1)]) hx hb dX8_trees_145 hl (k := 1) rfl (nI_1 _) (by decide) rfl (fun ls hl => ?_)
                    refine lv_goto (tgt := 29) hx hb dX8_trees_148 (by decide) ?_
                    subst hBL3
                    exact ihL3 _ _ _ _ ⟨by omega, hs, hDn⟩ ⟨hH, lv_sub hl [0, 1, 2, 3, 4] rfl⟩
                  · rw [if_pos c30] at hBL3
                    refine lv_iload hx hb dX8_trees_138 (lv_at hl 0 rfl) ?_
                    refine lv_goto (tgt := 144) hx hb dX8_trees_140 (by decide) ?_
                    refine lv_istore_n (lv' := [(3, .int (nI iL3)), (4, .int (nI iL3)), (0, .ref (g 0)), (1, .int x0), (2, .int x1)]) hx hb dX8_trees_144 rfl hl (by decide) rfl (fun ls hl => ?_)
                    refine lv_iinc (v := (nI (iL3 + 1))) (lv' := [(4, .int (nI (iL3 + 1))), (3, .int (nI iL3)), (0, .ref (g 0)), (1, .int x0), (2, .int x1)]) hx hb dX8_trees_145 hl (k := 1) rfl (nI_1 _) (by decide) rfl (fun ls hl => ?_)
                    refine lv_goto (tgt := 29) hx hb dX8_trees_148 (by decide) ?_
                    subst hBL3
                    exact ihL3 _ _ _ _ ⟨by omega, hs, hDn⟩ ⟨hH, lv_sub hl [0, 1, 2, 3, 4] rfl⟩
      · obtain ⟨hH, hl⟩ := hX
        refine lv_iload_n hx hb dX8_trees_151 rfl (lv_at hl 0 rfl) ?_
        subst hF
        exact kb_iret hx hb hr hH rfl rfl dX8_trees_152 hlocks
    · rw [if_pos c2] at hF
      refine lv_iconst (v := -1) hx hb dX8_trees_21 (by decide) ?_
      subst hF
      exact kb_iret hx hb hr hH rfl rfl dX8_trees_22 hlocks
  · rw [if_pos c1] at hF
    refine lv_bipush (v := -2) hx hb dX8_trees_10 (by decide) ?_
    subst hF
    exact kb_iret hx hb hr hH rfl rfl dX8_trees_12 hlocks
def f_X8_decides_L3 (V : OV) (x0 : Int32) (iL3 : Nat) (s : (Int32)) : (Int32) := (if (f_X8_brookBy V (0 : Int32) ((f_X8_pointsBy V (0 : Int32) x0 ((V.1 5) (24 : Int32).toNatClampNeg)) ^^^ ((1 : Int32) <<< ((nI iL3) &&& 31)))) = (f_X8_brookBy V (0 : Int32) (f_X8_pointsBy V (0 : Int32) x0 ((V.1 5) (24 : Int32).toNatClampNeg))) then (s ||| (0 : Int32)) else (s ||| ((1 : Int32) <<< ((nI iL3) &&& 31))))
def d_X8_decides_L3 (V : OV) (x0 : Int32) (iL3 : Nat) (s : (Int32)) : Prop := ((d_X8_brookBy V (0 : Int32) ((f_X8_pointsBy V (0 : Int32) x0 ((V.1 5) (24 : Int32).toNatClampNeg)) ^^^ ((1 : Int32) <<< ((nI iL3) &&& 31)))) ∧ (d_X8_brookBy V (0 : Int32) (f_X8_pointsBy V (0 : Int32) x0 ((V.1 5) (24 : Int32).toNatClampNeg))))
def f_X8_decides (V : OV) (x0 : Int32) : (Int32) := (if (f_X8_isWind V x0) = 0 then (-1 : Int32) else (kAp (lpu (f_X8_decides_L3 V x0) (cN (V.2.1 0)) 0 (0 : Int32)) (fun z8 => z8)))
def d_X8_decides (V : OV) (x0 : Int32) : Prop := (¬ ((f_X8_isWind V x0) = 0) → ((d_X8_pointsBy V (0 : Int32) x0 ((V.1 5) (24 : Int32).toNatClampNeg)) ∧ (lpuD (f_X8_decides_L3 V x0) (d_X8_decides_L3 V x0) (cN (V.2.1 0)) 0 (0 : Int32))))
set_option maxHeartbeats 4000000 in
set_option maxRecDepth 100000 in
theorem c_X8_decides (l : Launch) (G : Ge) (g : Nat → Nat) (V : OV) (x0 : Int32) (hD : d_X8_decides V x0) {F : (Int32)} (hF : f_X8_decides V x0 = F) : CI l yX8_decides wsX8_decides { frames := 3, cells := 0, slots := 0, locals := 75 } [.ref (g 0), .int x0] G (w_O8 G g V) (w_O8 G g V) F := by
  intro sz
  refine Met.ofW (cc := cX8_decides) (maxL := 5) (ret := (some .int)) (by decide) rfl ?_
  intro p e s m args below meth c s₁ B hml hv
  obtain ⟨rfl, hpre⟩ := hv
  obtain ⟨hsz, hH, hK, hN, hA⟩ := kb_start hpre
  subst hsz
  have hx := B.exec
  have hb := B.bytes
  have hr := B.returns
  have hts := atoms_spec (ws := wsX8_decides) B.pre
  have hown : s.vm.findClass RX8 = some m.cls := findClass_of_methodNamed B.named
  have hlocks := B.notSynchronized
  generalize hAe : va_A (List.flatten (w_O8 G g V)) s.heap.size = A at hH hA ⊢
  have hl := lv_entry ([.ref (g 0), .int x0]) (n := 5) (Nat.le_of_ble_eq_true rfl)
  rw [lg_entry_eq]
  generalize (lg_sl ([.ref (g 0), .int x0]) ++ List.replicate (5 - (lg_sl ([.ref (g 0), .int x0])).length) Slot.unset).toArray = ls at hl ⊢
  have hl : lv_has ls 5 [(0, .ref (g 0)), (1, .int x0)] := hl
  have hH : HP G A s.heap (w_O8 G g V) s.heap [] := hH
  have hin8 : ∀ w ∈ u_ws RX8 TX8 31, w ∈ wsX8_decides := fun w h => List.mem_cons_of_mem _ (List.mem_append_right _ h)
  have hF : (if (f_X8_isWind V x0) = 0 then (-1 : Int32) else (kAp (lpu (f_X8_decides_L3 V x0) (cN (V.2.1 0)) 0 (0 : Int32)) (fun z8 => z8))) = F := hF
  have hD : (¬ ((f_X8_isWind V x0) = 0) → ((d_X8_pointsBy V (0 : Int32) x0 ((V.1 5) (24 : Int32).toNatClampNeg)) ∧ (lpuD (f_X8_decides_L3 V x0) (d_X8_decides_L3 V x0) (cN (V.2.1 0)) 0 (0 : Int32)))) := hD
  refine lv_aload_n hx hb dX8_decides_0 rfl (lv_at hl 0 rfl) ?_
  refine lv_iload_n hx hb dX8_decides_1 rfl (lv_at hl 1 rfl) ?_
  refine kb_ci hH hA [0, 1, 2, 3, 4, 5, 6, 7, 8, 9, 10, 11, 12, 13, 14] (Wc := (w_O8 G g V)) (Wc' := (w_O8 G g V)) (WS' := (w_O8 G g V)) rfl (by decide) rfl rfl (va_runV (As := [.int x0]) (rest := []) ⟨hx, hb, hml, hown, hts⟩ (c_X8_isWind l G g V x0 rfl _) (cwV 1 hts gX8_decides_X8_isWind rfl rfl rfl he_X8_isWind ⟨Nat.le_of_ble_eq_true rfl, Nat.le_of_ble_eq_true rfl⟩) (kb_preV hH hK hN [0, 1, 2, 3, 4, 5, 6, 7, 8, 9, 10, 11, 12, 13, 14] rfl (by decide) 0 rfl rfl rfl rfl) rfl rfl hl.1 rfl (lv_room (Nat.le_of_ble_eq_true rfl)) dX8_decides_2 ⟨Nat.le_of_ble_eq_true rfl, Nat.le_of_ble_eq_true rfl⟩) (fun H locs hH => ?_)
  refine lv_if_ne (tgt := 10) hx hb dX8_decides_5 (by decide) (fun c1 => ?_) (fun c1 => ?_)
  · have hD := hD c1
    rw [if_neg c1] at hF
    refine lv_aload_n hx hb dX8_decides_10 rfl (lv_at hl 0 rfl) ?_
    refine lv_iconst (v := 0) hx hb dX8_decides_11 (by decide) ?_
    refine lv_iload_n hx hb dX8_decides_12 rfl (lv_at hl 1 rfl) ?_
    refine lv_aload_n hx hb dX8_decides_13 rfl (lv_at hl 0 rfl) ?_
    refine kb_get (v := .ref (g 6)) hx hb hts hin8 hown hK hH 0 rfl rfl rfl 5 (by decide) (hts (.fieldLink RX8 19 "CockWarModel" "now" "[I") (List.mem_of_getElem? (i := 1) rfl)) (fun _ h9 => h9) rfl dX8_decides_14 ?_
    refine lv_bipush (v := 24) hx hb dX8_decides_17 (by decide) ?_
    refine kb_iald hx hb hK hH 4 rfl (show ¬ ((24 : Int32) < 0 ∨ 54 ≤ (24 : Int32).toNatClampNeg) by decide) dX8_decides_19 ?_
    obtain ⟨hz2, hD⟩ := hD
    refine kb_ci hH hA [0, 1, 2, 3, 4, 5, 6, 7, 8, 9, 10, 11, 12, 13, 14] (Wc := (w_O8 G g V)) (Wc' := (w_O8 G g V)) (WS' := (w_O8 G g V)) rfl (by decide) rfl rfl (va_runV (As := [.int (0 : Int32), .int x0, .int ((V.1 5) (24 : Int32).toNatClampNeg)]) (rest := []) ⟨hx, hb, hml, hown, hts⟩ (c_X8_pointsBy l G g V (0 : Int32) x0 ((V.1 5) (24 : Int32).toNatClampNeg) hz2 rfl _) (cwV 3 hts gX8_decides_X8_pointsBy rfl rfl rfl he_X8_pointsBy ⟨Nat.le_of_ble_eq_true rfl, Nat.le_of_ble_eq_true rfl⟩) (kb_preV hH hK hN [0, 1, 2, 3, 4, 5, 6, 7, 8, 9, 10, 11, 12, 13, 14] rfl (by decide) 0 rfl rfl rfl rfl) rfl rfl hl.1 rfl (lv_room (Nat.le_of_ble_eq_true rfl)) dX8_decides_20 ⟨Nat.le_of_ble_eq_true rfl, Nat.le_of_ble_eq_true rfl⟩) (fun H locs hH => ?_)
    refine lv_istore_n (lv' := [(2, .int (f_X8_pointsBy V (0 : Int32) x0 ((V.1 5) (24 : Int32).toNatClampNeg))), (0, .ref (g 0)), (1, .int x0)]) hx hb dX8_decides_23 rfl hl (by decide) rfl (fun ls hl => ?_)
    refine lv_iconst (v := 0) hx hb dX8_decides_24 (by decide) ?_
    refine lv_istore_n (lv' := [(3, .int (0 : Int32)), (2, .int (f_X8_pointsBy V (0 : Int32) x0 ((V.1 5) (24 : Int32).toNatClampNeg))), (0, .ref (g 0)), (1, .int x0)]) hx hb dX8_decides_25 rfl hl (by decide) rfl (fun ls hl => ?_)
    refine lv_iconst (v := 0) hx hb dX8_decides_26 (by decide) ?_
    refine lv_istore (lv' := [(4, .int (0 : Int32)), (3, .int (0 : Int32)), (2, .int (f_X8_pointsBy V (0 : Int32) x0 ((V.1 5) (24 : Int32).toNatClampNeg))), (0, .ref (g 0)), (1, .int x0)]) hx hb dX8_decides_27 hl (by decide) rfl (fun ls hl => ?_)
    have hDlL3 := hD
    obtain ⟨SFL3, hSFL3⟩ : ∃ z, z = (lpu (f_X8_decides_L3 V x0) (cN (V.2.1 0)) 0 (0 : Int32)) := ⟨_, rfl⟩
    have hF := kAp_eq hF hSFL3
    refine kb_cut (fun H locs ls => HP G A s.heap (w_O8 G g V) H locs ∧ lv_has ls 5 [(3, .int SFL3)]) 75 [] (fun EXL3 => ?_) (fun H locs ls hX => ?_)
    · refine kb_loop (σ := (Int32)) (fun n i x => n + i = (cN (V.2.1 0)) ∧ lpu (f_X8_decides_L3 V x0) n i x = SFL3 ∧ lpuD (f_X8_decides_L3 V x0) (d_X8_decides_L3 V x0) n i x) (fun iL3 x H locs ls => HP G A s.heap (w_O8 G g V) H locs ∧ lv_has ls 5 [(4, .int (nI iL3)), (3, .int x), (2, .int (f_X8_pointsBy V (0 : Int32) x0 ((V.1 5) (24 : Int32).toNatClampNeg))), (0, .ref (g 0))]) (fun iL3 x H locs ls hI hX => ?_) (fun n iL3 x hI ihL3 H locs ls hX => ?_) (cN (V.2.1 0)) 0 (0 : Int32) _ _ _ ⟨Nat.add_zero _, hSFL3.symm, hDlL3⟩ ⟨hH, lv_sub hl [0, 1, 2, 3] rfl⟩
      · obtain ⟨L3a, exL3a⟩ : ∃ z, z = x := ⟨_, rfl⟩
        subst exL3a
        have hH : HP G A s.heap (w_O8 G g V) H locs := hX.1
        have hl : lv_has ls 5 [(4, .int (nI iL3)), (3, .int L3a), (2, .int (f_X8_pointsBy V (0 : Int32) x0 ((V.1 5) (24 : Int32).toNatClampNeg))), (0, .ref (g 0))] := hX.2
        obtain ⟨hiL3, hs, _⟩ := hI
        have hiL3 : iL3 = (cN (V.2.1 0)) := by omega
        refine lv_iload hx hb dX8_decides_29 (lv_at hl 0 rfl) ?_
        refine lv_aload_n hx hb dX8_decides_31 rfl (lv_at hl 3 rfl) ?_
        refine kb_get (v := .int (V.2.1 0)) hx hb hts hin8 hown hK hH 0 rfl rfl rfl 0 (by decide) (hts (.fieldLink RX8 53 "CockWarModel" "cocks" "I") (List.mem_of_getElem? (i := 2) rfl)) (fun _ h9 => h9) rfl dX8_decides_32 ?_
        refine lv_icmp_ge (tgt := 75) hx hb dX8_decides_35 (by decide) (fun _ => ?_) (fun c => absurd (cN_end hiL3) c)
        exact EXL3 _ _ _ ⟨by subst hs; exact hH, by subst hs; exact lv_sub hl [1] rfl⟩
      · obtain ⟨L3a, exL3a⟩ : ∃ z, z = x := ⟨_, rfl⟩
        subst exL3a
        have hH : HP G A s.heap (w_O8 G g V) H locs := hX.1
        have hl : lv_has ls 5 [(4, .int (nI iL3)), (3, .int L3a), (2, .int (f_X8_pointsBy V (0 : Int32) x0 ((V.1 5) (24 : Int32).toNatClampNeg))), (0, .ref (g 0))] := hX.2
        obtain ⟨hiL3, hs, hDi⟩ := hI
        obtain ⟨hD, hDn⟩ := hDi
        have hD : ((d_X8_brookBy V (0 : Int32) ((f_X8_pointsBy V (0 : Int32) x0 ((V.1 5) (24 : Int32).toNatClampNeg)) ^^^ ((1 : Int32) <<< ((nI iL3) &&& 31)))) ∧ (d_X8_brookBy V (0 : Int32) (f_X8_pointsBy V (0 : Int32) x0 ((V.1 5) (24 : Int32).toNatClampNeg)))) := hD
        have hltL3 : iL3 < (cN (V.2.1 0)) := by omega
        obtain ⟨BVL3, hBd⟩ : ∃ z, (f_X8_decides_L3 V x0) iL3 L3a = z := ⟨_, rfl⟩
        have hs : lpu (f_X8_decides_L3 V x0) n (iL3 + 1) BVL3 = SFL3 := by rw [← hBd]; exact hs
        have hDn : lpuD (f_X8_decides_L3 V x0) (d_X8_decides_L3 V x0) n (iL3 + 1) BVL3 := by rw [← hBd]; exact hDn
        have hBL3 : (if (f_X8_brookBy V (0 : Int32) ((f_X8_pointsBy V (0 : Int32) x0 ((V.1 5) (24 : Int32).toNatClampNeg)) ^^^ ((1 : Int32) <<< ((nI iL3) &&& 31)))) = (f_X8_brookBy V (0 : Int32) (f_X8_pointsBy V (0 : Int32) x0 ((V.1 5) (24 : Int32).toNatClampNeg))) then (L3a ||| (0 : Int32)) else (L3a ||| ((1 : Int32) <<< ((nI iL3) &&& 31)))) = BVL3 := hBd
        refine lv_iload hx hb dX8_decides_29 (lv_at hl 0 rfl) ?_
        refine lv_aload_n hx hb dX8_decides_31 rfl (lv_at hl 3 rfl) ?_
        refine kb_get (v := .int (V.2.1 0)) hx hb hts hin8 hown hK hH 0 rfl rfl rfl 0 (by decide) (hts (.fieldLink RX8 53 "CockWarModel" "cocks" "I") (List.mem_of_getElem? (i := 2) rfl)) (fun _ h9 => h9) rfl dX8_decides_32 ?_
        refine lv_icmp_ge (tgt := 75) hx hb dX8_decides_35 (by decide) (fun c => absurd c (cN_ge hltL3)) (fun c4 => ?_)
        refine lv_iload_n hx hb dX8_decides_38 rfl (lv_at hl 1 rfl) ?_
        refine lv_aload_n hx hb dX8_decides_39 rfl (lv_at hl 3 rfl) ?_
        refine lv_iconst (v := 0) hx hb dX8_decides_40 (by decide) ?_
        refine lv_iload_n hx hb dX8_decides_41 rfl (lv_at hl 2 rfl) ?_
        refine lv_iconst (v := 1) hx hb dX8_decides_42 (by decide) ?_
        refine lv_iload hx hb dX8_decides_43 (lv_at hl 0 rfl) ?_
        refine lv_ishl hx hb dX8_decides_45 ?_
        refine lv_ixor hx hb dX8_decides_46 ?_
        obtain ⟨hz5, hD⟩ := hD
        refine kb_ci hH hA [0, 1, 2, 3, 4, 5, 6, 7, 8, 9, 10, 11, 12, 13, 14] (Wc := (w_O8 G g V)) (Wc' := (w_O8 G g V)) (WS' := (w_O8 G g V)) rfl (by decide) rfl rfl (va_runV (As := [.int (0 : Int32), .int ((f_X8_pointsBy V (0 : Int32) x0 ((V.1 5) (24 : Int32).toNatClampNeg)) ^^^ ((1 : Int32) <<< ((nI iL3) &&& 31)))]) (rest := [.int L3a]) ⟨hx, hb, hml, hown, hts⟩ (c_X8_brookBy l G g V (0 : Int32) ((f_X8_pointsBy V (0 : Int32) x0 ((V.1 5) (24 : Int32).toNatClampNeg)) ^^^ ((1 : Int32) <<< ((nI iL3) &&& 31))) hz5 rfl _) (cwV 2 hts gX8_decides_X8_brookBy rfl rfl rfl he_X8_brookBy ⟨Nat.le_of_ble_eq_true rfl, Nat.le_of_ble_eq_true rfl⟩) (kb_preV hH hK hN [0, 1, 2, 3, 4, 5, 6, 7, 8, 9, 10, 11, 12, 13, 14] rfl (by decide) 0 rfl rfl rfl rfl) rfl rfl hl.1 rfl (lv_room (Nat.le_of_ble_eq_true rfl)) dX8_decides_47 ⟨Nat.le_of_ble_eq_true rfl, Nat.le_of_ble_eq_true rfl⟩) (fun H locs hH => ?_)
        refine lv_aload_n hx hb dX8_decides_50 rfl (lv_at hl 3 rfl) ?_
        refine lv_iconst (v := 0) hx hb dX8_decides_51 (by decide) ?_
        refine lv_iload_n hx hb dX8_decides_52 rfl (lv_at hl 2 rfl) ?_
        have hz6 := hD
        refine kb_ci hH hA [0, 1, 2, 3, 4, 5, 6, 7, 8, 9, 10, 11, 12, 13, 14] (Wc := (w_O8 G g V)) (Wc' := (w_O8 G g V)) (WS' := (w_O8 G g V)) rfl (by decide) rfl rfl (va_runV (As := [.int (0 : Int32), .int (f_X8_pointsBy V (0 : Int32) x0 ((V.1 5) (24 : Int32).toNatClampNeg))]) (rest := [.int (f_X8_brookBy V (0 : Int32) ((f_X8_pointsBy V (0 : Int32) x0 ((V.1 5) (24 : Int32).toNatClampNeg)) ^^^ ((1 : Int32) <<< ((nI iL3) &&& 31)))), .int L3a]) ⟨hx, hb, hml, hown, hts⟩ (c_X8_brookBy l G g V (0 : Int32) (f_X8_pointsBy V (0 : Int32) x0 ((V.1 5) (24 : Int32).toNatClampNeg)) hz6 rfl _) (cwV 2 hts gX8_decides_X8_brookBy rfl rfl rfl he_X8_brookBy ⟨Nat.le_of_ble_eq_true rfl, Nat.le_of_ble_eq_true rfl⟩) (kb_preV hH hK hN [0, 1, 2, 3, 4, 5, 6, 7, 8, 9, 10, 11, 12, 13, 14] rfl (by decide) 0 rfl rfl rfl rfl) rfl rfl hl.1 rfl (lv_room (Nat.le_of_ble_eq_true rfl)) dX8_decides_53 ⟨Nat.le_of_ble_eq_true rfl, Nat.le_of_ble_eq_true rfl⟩) (fun H locs hH => ?_)
        refine lv_icmp_eq (tgt := 66) hx hb dX8_decides_56 (by decide) (fun c7 => ?_) (fun c7 => ?_)
        · rw [if_pos c7] at hBL3
          refine lv_iconst (v := 0) hx hb dX8_decides_66 (by decide) ?_
          refine lv_ior hx hb dX8_decides_67 ?_
          refine lv_istore_n (lv' := [(3, .int (L3a ||| (0 : Int32))), (4, .int (nI iL3)), (2, .int (f_X8_pointsBy V (0 : Int32) x0 ((V.1 5) (24 : Int32).toNatClampNeg))), (0, .ref (g 0))]) hx hb dX8_decides_68 rfl hl (by decide) rfl (fun ls hl => ?_)
          refine lv_iinc (v := (nI (iL3 + 1))) (lv' := [(4, .int (nI (iL3 + 1))), (3, .int (L3a ||| (0 : Int32))), (2, .int (f_X8_pointsBy V (0 : Int32) x0 ((V.1 5) (24 : Int32).toNatClampNeg))), (0, .ref (g 0))]) hx hb dX8_decides_69 hl (k := 1) rfl (nI_1 _) (by decide) rfl (fun ls hl => ?_)
          refine lv_goto (tgt := 29) hx hb dX8_decides_72 (by decide) ?_
          subst hBL3
          exact ihL3 _ _ _ _ ⟨by omega, hs, hDn⟩ ⟨hH, lv_sub hl [0, 1, 2, 3] rfl⟩
        · rw [if_neg c7] at hBL3
          refine lv_iconst (v := 1) hx hb dX8_decides_59 (by decide) ?_
          refine lv_iload hx hb dX8_decides_60 (lv_at hl 0 rfl) ?_
          refine lv_ishl hx hb dX8_decides_62 ?_
          refine lv_goto (tgt := 67) hx hb dX8_decides_63 (by decide) ?_
          refine lv_ior hx hb dX8_decides_67 ?_
          refine lv_istore_n (lv' := [(3, .int (L3a ||| ((1 : Int32) <<< ((nI iL3) &&& 31)))), (4, .int (nI iL3)), (2, .int (f_X8_pointsBy V (0 : Int32) x0 ((V.1 5) (24 : Int32).toNatClampNeg))), (0, .ref (g 0))]) hx hb dX8_decides_68 rfl hl (by decide) rfl (fun ls hl => ?_)
          refine lv_iinc (v := (nI (iL3 + 1))) (lv' := [(4, .int (nI (iL3 + 1))), (3, .int (L3a ||| ((1 : Int32) <<< ((nI iL3) &&& 31)))), (2, .int (f_X8_pointsBy V (0 : Int32) x0 ((V.1 5) (24 : Int32).toNatClampNeg))), (0, .ref (g 0))]) hx hb dX8_decides_69 hl (k := 1) rfl (nI_1 _) (by decide) rfl (fun ls hl => ?_)
          refine lv_goto (tgt := 29) hx hb dX8_decides_72 (by decide) ?_
          subst hBL3
          exact ihL3 _ _ _ _ ⟨by omega, hs, hDn⟩ ⟨hH, lv_sub hl [0, 1, 2, 3] rfl⟩
    · obtain ⟨hH, hl⟩ := hX
      refine lv_iload_n hx hb dX8_decides_75 rfl (lv_at hl 0 rfl) ?_
      subst hF
      exact kb_iret hx hb hr hH rfl rfl dX8_decides_76 hlocks
  · rw [if_pos c1] at hF
    refine lv_iconst (v := -1) hx hb dX8_decides_8 (by decide) ?_
    subst hF
    exact kb_iret hx hb hr hH rfl rfl dX8_decides_9 hlocks
def f_X8_power_L2 (V : OV) (x0 : Int32) (iL2 : Nat) (s : (Int32)) : (Int32) := (if (f_X8_has (nI iL2) x0) = 0 then (if (f_X8_brookBy V (0 : Int32) (nI iL2)) = (f_X8_brookBy V (0 : Int32) ((nI iL2) ||| ((1 : Int32) <<< (x0 &&& 31)))) then (s + (0 : Int32)) else (s + (1 : Int32))) else (s + (0 : Int32)))
def d_X8_power_L2 (V : OV) (x0 : Int32) (iL2 : Nat) (s : (Int32)) : Prop := ((f_X8_has (nI iL2) x0) = 0 → ((d_X8_brookBy V (0 : Int32) (nI iL2)) ∧ (d_X8_brookBy V (0 : Int32) ((nI iL2) ||| ((1 : Int32) <<< (x0 &&& 31))))))
def f_X8_power (V : OV) (x0 : Int32) : (Int32) := (if (f_X8_isCock V x0) = 0 then (-1 : Int32) else (kAp (lpu (f_X8_power_L2 V x0) (cN ((1 : Int32) <<< ((V.2.1 0) &&& 31))) 0 (0 : Int32)) (fun z8 => z8)))
def d_X8_power (V : OV) (x0 : Int32) : Prop := (¬ ((f_X8_isCock V x0) = 0) → (lpuD (f_X8_power_L2 V x0) (d_X8_power_L2 V x0) (cN ((1 : Int32) <<< ((V.2.1 0) &&& 31))) 0 (0 : Int32)))
set_option maxHeartbeats 4000000 in
set_option maxRecDepth 100000 in
theorem c_X8_power (l : Launch) (G : Ge) (g : Nat → Nat) (V : OV) (x0 : Int32) (hD : d_X8_power V x0) {F : (Int32)} (hF : f_X8_power V x0 = F) : CI l yX8_power wsX8_power { frames := 3, cells := 0, slots := 0, locals := 70 } [.ref (g 0), .int x0] G (w_O8 G g V) (w_O8 G g V) F := by
  intro sz
  refine Met.ofW (cc := cX8_power) (maxL := 4) (ret := (some .int)) (by decide) rfl ?_
  intro p e s m args below meth c s₁ B hml hv
  obtain ⟨rfl, hpre⟩ := hv
  obtain ⟨hsz, hH, hK, hN, hA⟩ := kb_start hpre
  subst hsz
  have hx := B.exec
  have hb := B.bytes
  have hr := B.returns
  have hts := atoms_spec (ws := wsX8_power) B.pre
  have hown : s.vm.findClass RX8 = some m.cls := findClass_of_methodNamed B.named
  have hlocks := B.notSynchronized
  generalize hAe : va_A (List.flatten (w_O8 G g V)) s.heap.size = A at hH hA ⊢
  have hl := lv_entry ([.ref (g 0), .int x0]) (n := 4) (Nat.le_of_ble_eq_true rfl)
  rw [lg_entry_eq]
  generalize (lg_sl ([.ref (g 0), .int x0]) ++ List.replicate (4 - (lg_sl ([.ref (g 0), .int x0])).length) Slot.unset).toArray = ls at hl ⊢
  have hl : lv_has ls 4 [(0, .ref (g 0)), (1, .int x0)] := hl
  have hH : HP G A s.heap (w_O8 G g V) s.heap [] := hH
  have hin8 : ∀ w ∈ u_ws RX8 TX8 31, w ∈ wsX8_power := fun w h => List.mem_cons_of_mem _ (List.mem_append_right _ h)
  have hF : (if (f_X8_isCock V x0) = 0 then (-1 : Int32) else (kAp (lpu (f_X8_power_L2 V x0) (cN ((1 : Int32) <<< ((V.2.1 0) &&& 31))) 0 (0 : Int32)) (fun z8 => z8))) = F := hF
  have hD : (¬ ((f_X8_isCock V x0) = 0) → (lpuD (f_X8_power_L2 V x0) (d_X8_power_L2 V x0) (cN ((1 : Int32) <<< ((V.2.1 0) &&& 31))) 0 (0 : Int32))) := hD
  refine lv_aload_n hx hb dX8_power_0 rfl (lv_at hl 0 rfl) ?_
  refine lv_iload_n hx hb dX8_power_1 rfl (lv_at hl 1 rfl) ?_
  refine kb_ci hH hA [0, 1, 2, 3, 4, 5, 6, 7, 8, 9, 10, 11, 12, 13, 14] (Wc := (w_O8 G g V)) (Wc' := (w_O8 G g V)) (WS' := (w_O8 G g V)) rfl (by decide) rfl rfl (va_runV (As := [.int x0]) (rest := []) ⟨hx, hb, hml, hown, hts⟩ (c_X8_isCock l G g V x0 rfl _) (cwV 1 hts gX8_power_X8_isCock rfl rfl rfl he_X8_isCock ⟨Nat.le_of_ble_eq_true rfl, Nat.le_of_ble_eq_true rfl⟩) (kb_preV hH hK hN [0, 1, 2, 3, 4, 5, 6, 7, 8, 9, 10, 11, 12, 13, 14] rfl (by decide) 0 rfl rfl rfl rfl) rfl rfl hl.1 rfl (lv_room (Nat.le_of_ble_eq_true rfl)) dX8_power_2 ⟨Nat.le_of_ble_eq_true rfl, Nat.le_of_ble_eq_true rfl⟩) (fun H locs hH => ?_)
  refine lv_if_ne (tgt := 10) hx hb dX8_power_5 (by decide) (fun c1 => ?_) (fun c1 => ?_)
  · have hD := hD c1
    rw [if_neg c1] at hF
    refine lv_iconst (v := 0) hx hb dX8_power_10 (by decide) ?_
    refine lv_istore_n (lv' := [(2, .int (0 : Int32)), (0, .ref (g 0)), (1, .int x0)]) hx hb dX8_power_11 rfl hl (by decide) rfl (fun ls hl => ?_)
    refine lv_iconst (v := 0) hx hb dX8_power_12 (by decide) ?_
    refine lv_istore_n (lv' := [(3, .int (0 : Int32)), (2, .int (0 : Int32)), (0, .ref (g 0)), (1, .int x0)]) hx hb dX8_power_13 rfl hl (by decide) rfl (fun ls hl => ?_)
    have hDlL2 := hD
    obtain ⟨SFL2, hSFL2⟩ : ∃ z, z = (lpu (f_X8_power_L2 V x0) (cN ((1 : Int32) <<< ((V.2.1 0) &&& 31))) 0 (0 : Int32)) := ⟨_, rfl⟩
    have hF := kAp_eq hF hSFL2
    refine kb_cut (fun H locs ls => HP G A s.heap (w_O8 G g V) H locs ∧ lv_has ls 4 [(2, .int SFL2)]) 65 [] (fun EXL2 => ?_) (fun H locs ls hX => ?_)
    · refine kb_loop (σ := (Int32)) (fun n i x => n + i = (cN ((1 : Int32) <<< ((V.2.1 0) &&& 31))) ∧ lpu (f_X8_power_L2 V x0) n i x = SFL2 ∧ lpuD (f_X8_power_L2 V x0) (d_X8_power_L2 V x0) n i x) (fun iL2 x H locs ls => HP G A s.heap (w_O8 G g V) H locs ∧ lv_has ls 4 [(3, .int (nI iL2)), (2, .int x), (0, .ref (g 0)), (1, .int x0)]) (fun iL2 x H locs ls hI hX => ?_) (fun n iL2 x hI ihL2 H locs ls hX => ?_) (cN ((1 : Int32) <<< ((V.2.1 0) &&& 31))) 0 (0 : Int32) _ _ _ ⟨Nat.add_zero _, hSFL2.symm, hDlL2⟩ ⟨hH, lv_sub hl [0, 1, 2, 3] rfl⟩
      · obtain ⟨L2a, exL2a⟩ : ∃ z, z = x := ⟨_, rfl⟩
        subst exL2a
        have hH : HP G A s.heap (w_O8 G g V) H locs := hX.1
        have hl : lv_has ls 4 [(3, .int (nI iL2)), (2, .int L2a), (0, .ref (g 0)), (1, .int x0)] := hX.2
        obtain ⟨hiL2, hs, _⟩ := hI
        have hiL2 : iL2 = (cN ((1 : Int32) <<< ((V.2.1 0) &&& 31))) := by omega
        refine lv_iload_n hx hb dX8_power_14 rfl (lv_at hl 0 rfl) ?_
        refine lv_iconst (v := 1) hx hb dX8_power_15 (by decide) ?_
        refine lv_aload_n hx hb dX8_power_16 rfl (lv_at hl 2 rfl) ?_
        refine kb_get (v := .int (V.2.1 0)) hx hb hts hin8 hown hK hH 0 rfl rfl rfl 0 (by decide) (hts (.fieldLink RX8 53 "CockWarModel" "cocks" "I") (List.mem_of_getElem? (i := 1) rfl)) (fun _ h9 => h9) rfl dX8_power_17 ?_
        refine lv_ishl hx hb dX8_power_20 ?_
        refine lv_icmp_ge (tgt := 65) hx hb dX8_power_21 (by decide) (fun _ => ?_) (fun c => absurd (cN_end hiL2) c)
        exact EXL2 _ _ _ ⟨by subst hs; exact hH, by subst hs; exact lv_sub hl [1] rfl⟩
      · obtain ⟨L2a, exL2a⟩ : ∃ z, z = x := ⟨_, rfl⟩
        subst exL2a
        have hH : HP G A s.heap (w_O8 G g V) H locs := hX.1
        have hl : lv_has ls 4 [(3, .int (nI iL2)), (2, .int L2a), (0, .ref (g 0)), (1, .int x0)] := hX.2
        obtain ⟨hiL2, hs, hDi⟩ := hI
        obtain ⟨hD, hDn⟩ := hDi
        have hD : ((f_X8_has (nI iL2) x0) = 0 → ((d_X8_brookBy V (0 : Int32) (nI iL2)) ∧ (d_X8_brookBy V (0 : Int32) ((nI iL2) ||| ((1 : Int32) <<< (x0 &&& 31)))))) := hD
        have hltL2 : iL2 < (cN ((1 : Int32) <<< ((V.2.1 0) &&& 31))) := by omega
        obtain ⟨BVL2, hBd⟩ : ∃ z, (f_X8_power_L2 V x0) iL2 L2a = z := ⟨_, rfl⟩
        have hs : lpu (f_X8_power_L2 V x0) n (iL2 + 1) BVL2 = SFL2 := by rw [← hBd]; exact hs
        have hDn : lpuD (f_X8_power_L2 V x0) (d_X8_power_L2 V x0) n (iL2 + 1) BVL2 := by rw [← hBd]; exact hDn
        have hBL2 : (if (f_X8_has (nI iL2) x0) = 0 then (if (f_X8_brookBy V (0 : Int32) (nI iL2)) = (f_X8_brookBy V (0 : Int32) ((nI iL2) ||| ((1 : Int32) <<< (x0 &&& 31)))) then (L2a + (0 : Int32)) else (L2a + (1 : Int32))) else (L2a + (0 : Int32))) = BVL2 := hBd
        refine lv_iload_n hx hb dX8_power_14 rfl (lv_at hl 0 rfl) ?_
        refine lv_iconst (v := 1) hx hb dX8_power_15 (by decide) ?_
        refine lv_aload_n hx hb dX8_power_16 rfl (lv_at hl 2 rfl) ?_
        refine kb_get (v := .int (V.2.1 0)) hx hb hts hin8 hown hK hH 0 rfl rfl rfl 0 (by decide) (hts (.fieldLink RX8 53 "CockWarModel" "cocks" "I") (List.mem_of_getElem? (i := 1) rfl)) (fun _ h9 => h9) rfl dX8_power_17 ?_
        refine lv_ishl hx hb dX8_power_20 ?_
        refine lv_icmp_ge (tgt := 65) hx hb dX8_power_21 (by decide) (fun c => absurd c (cN_ge hltL2)) (fun c3 => ?_)
        refine lv_iload_n hx hb dX8_power_24 rfl (lv_at hl 1 rfl) ?_
        refine lv_iload_n hx hb dX8_power_25 rfl (lv_at hl 0 rfl) ?_
        refine lv_iload_n hx hb dX8_power_26 rfl (lv_at hl 3 rfl) ?_
        refine kb_ci hH hA [] (Wc := ([] : List va_W)) (Wc' := ([] : List va_W)) (WS' := (w_O8 G g V)) rfl (by decide) rfl rfl (va_runS (As := [.int (nI iL2), .int x0]) (rest := [.int L2a]) ⟨hx, hb, hml, hown, hts⟩ (c_X8_has l G (nI iL2) x0 rfl _) (va_cwS 2 hts gX8_power_X8_has rfl rfl rfl hd_X8_has ⟨Nat.le_of_ble_eq_true rfl, Nat.le_of_ble_eq_true rfl⟩) (kb_preS hH hK hN [] rfl (by decide)) rfl rfl hl.1 rfl (lv_room (Nat.le_of_ble_eq_true rfl)) dX8_power_27 ⟨Nat.le_of_ble_eq_true rfl, Nat.le_of_ble_eq_true rfl⟩) (fun H locs hH => ?_)
        refine lv_if_ne (tgt := 56) hx hb dX8_power_30 (by decide) (fun c4 => ?_) (fun c4 => ?_)
        · rw [if_neg c4] at hBL2
          refine lv_iconst (v := 0) hx hb dX8_power_56 (by decide) ?_
          refine lv_iadd hx hb dX8_power_57 ?_
          refine lv_istore_n (lv' := [(2, .int (L2a + (0 : Int32))), (3, .int (nI iL2)), (0, .ref (g 0)), (1, .int x0)]) hx hb dX8_power_58 rfl hl (by decide) rfl (fun ls hl => ?_)
          refine lv_iinc (v := (nI (iL2 + 1))) (lv' := [(3, .int (nI (iL2 + 1))), (2, .int (L2a + (0 : Int32))), (0, .ref (g 0)), (1, .int x0)]) hx hb dX8_power_59 hl (k := 1) rfl (nI_1 _) (by decide) rfl (fun ls hl => ?_)
          refine lv_goto (tgt := 14) hx hb dX8_power_62 (by decide) ?_
          subst hBL2
          exact ihL2 _ _ _ _ ⟨by omega, hs, hDn⟩ ⟨hH, lv_sub hl [0, 1, 2, 3] rfl⟩
        · have hD := hD c4
          rw [if_pos c4] at hBL2
          refine lv_aload_n hx hb dX8_power_33 rfl (lv_at hl 2 rfl) ?_
          refine lv_iconst (v := 0) hx hb dX8_power_34 (by decide) ?_
          refine lv_iload_n hx hb dX8_power_35 rfl (lv_at hl 0 rfl) ?_
          obtain ⟨hz5, hD⟩ := hD
          refine kb_ci hH hA [0, 1, 2, 3, 4, 5, 6, 7, 8, 9, 10, 11, 12, 13, 14] (Wc := (w_O8 G g V)) (Wc' := (w_O8 G g V)) (WS' := (w_O8 G g V)) rfl (by decide) rfl rfl (va_runV (As := [.int (0 : Int32), .int (nI iL2)]) (rest := [.int L2a]) ⟨hx, hb, hml, hown, hts⟩ (c_X8_brookBy l G g V (0 : Int32) (nI iL2) hz5 rfl _) (cwV 2 hts gX8_power_X8_brookBy rfl rfl rfl he_X8_brookBy ⟨Nat.le_of_ble_eq_true rfl, Nat.le_of_ble_eq_true rfl⟩) (kb_preV hH hK hN [0, 1, 2, 3, 4, 5, 6, 7, 8, 9, 10, 11, 12, 13, 14] rfl (by decide) 0 rfl rfl rfl rfl) rfl rfl hl.1 rfl (lv_room (Nat.le_of_ble_eq_true rfl)) dX8_power_36 ⟨Nat.le_of_ble_eq_true rfl, Nat.le_of_ble_eq_true rfl⟩) (fun H locs hH => ?_)
          refine lv_aload_n hx hb dX8_power_39 rfl (lv_at hl 2 rfl) ?_
          refine lv_iconst (v := 0) hx hb dX8_power_40 (by decide) ?_
          refine lv_iload_n hx hb dX8_power_41 rfl (lv_at hl 0 rfl) ?_
          refine lv_iconst (v := 1) hx hb dX8_power_42 (by decide) ?_
          refine lv_iload_n hx hb dX8_power_43 rfl (lv_at hl 3 rfl) ?_
          refine lv_ishl hx hb dX8_power_44 ?_
          refine lv_ior hx hb dX8_power_45 ?_
          have hz6 := hD
          refine kb_ci hH hA [0, 1, 2, 3, 4, 5, 6, 7, 8, 9, 10, 11, 12, 13, 14] (Wc := (w_O8 G g V)) (Wc' := (w_O8 G g V)) (WS' := (w_O8 G g V)) rfl (by decide) rfl rfl (va_runV (As := [.int (0 : Int32), .int ((nI iL2) ||| ((1 : Int32) <<< (x0 &&& 31)))]) (rest := [.int (f_X8_brookBy V (0 : Int32) (nI iL2)), .int L2a]) ⟨hx, hb, hml, hown, hts⟩ (c_X8_brookBy l G g V (0 : Int32) ((nI iL2) ||| ((1 : Int32) <<< (x0 &&& 31))) hz6 rfl _) (cwV 2 hts gX8_power_X8_brookBy rfl rfl rfl he_X8_brookBy ⟨Nat.le_of_ble_eq_true rfl, Nat.le_of_ble_eq_true rfl⟩) (kb_preV hH hK hN [0, 1, 2, 3, 4, 5, 6, 7, 8, 9, 10, 11, 12, 13, 14] rfl (by decide) 0 rfl rfl rfl rfl) rfl rfl hl.1 rfl (lv_room (Nat.le_of_ble_eq_true rfl)) dX8_power_46 ⟨Nat.le_of_ble_eq_true rfl, Nat.le_of_ble_eq_true rfl⟩) (fun H locs hH => ?_)
          refine lv_icmp_eq (tgt := 56) hx hb dX8_power_49 (by decide) (fun c7 => ?_) (fun c7 => ?_)
          · rw [if_pos c7] at hBL2
            refine lv_iconst (v := 0) hx hb dX8_power_56 (by decide) ?_
            refine lv_iadd hx hb dX8_power_57 ?_
            refine lv_istore_n (lv' := [(2, .int (L2a + (0 : Int32))), (3, .int (nI iL2)), (0, .ref (g 0)), (1, .int x0)]) hx hb dX8_power_58 rfl hl (by decide) rfl (fun ls hl => ?_)
            refine lv_iinc (v := (nI (iL2 + 1))) (lv' := [(3, .int (nI (iL2 + 1))), (2, .int (L2a + (0 : Int32))), (0, .ref (g 0)), (1, .int x0)]) hx hb dX8_power_59 hl (k := 1) rfl (nI_1 _) (by decide) rfl (fun ls hl => ?_)
            refine lv_goto (tgt := 14) hx hb dX8_power_62 (by decide) ?_
            subst hBL2
            exact ihL2 _ _ _ _ ⟨by omega, hs, hDn⟩ ⟨hH, lv_sub hl [0, 1, 2, 3] rfl⟩
          · rw [if_neg c7] at hBL2
            refine lv_iconst (v := 1) hx hb dX8_power_52 (by decide) ?_
            refine lv_goto (tgt := 57) hx hb dX8_power_53 (by decide) ?_
            refine lv_iadd hx hb dX8_power_57 ?_
            refine lv_istore_n (lv' := [(2, .int (L2a + (1 : Int32))), (3, .int (nI iL2)), (0, .ref (g 0)), (1, .int x0)]) hx hb dX8_power_58 rfl hl (by decide) rfl (fun ls hl => ?_)
            refine lv_iinc (v := (nI (iL2 + 1))) (lv' := [(3, .int (nI (iL2 + 1))), (2, .int (L2a + (1 : Int32))), (0, .ref (g 0)), (1, .int x0)]) hx hb dX8_power_59 hl (k := 1) rfl (nI_1 _) (by decide) rfl (fun ls hl => ?_)
            refine lv_goto (tgt := 14) hx hb dX8_power_62 (by decide) ?_
            subst hBL2
            exact ihL2 _ _ _ _ ⟨by omega, hs, hDn⟩ ⟨hH, lv_sub hl [0, 1, 2, 3] rfl⟩
    · obtain ⟨hH, hl⟩ := hX
      refine lv_iload_n hx hb dX8_power_65 rfl (lv_at hl 0 rfl) ?_
      subst hF
      exact kb_iret hx hb hr hH rfl rfl dX8_power_66 hlocks
  · rw [if_pos c1] at hF
    refine lv_iconst (v := -1) hx hb dX8_power_8 (by decide) ?_
    subst hF
    exact kb_iret hx hb hr hH rfl rfl dX8_power_9 hlocks
def f_X8_tenTo_L1 (iL1 : Nat) (s : (Int32)) : (Int32) := (s * (10 : Int32))
def f_X8_tenTo (x0 : Int32) : (Int32) := (kAp (lpu (f_X8_tenTo_L1) (cN x0) 0 (1 : Int32)) (fun z3 => z3))
set_option maxHeartbeats 4000000 in
set_option maxRecDepth 100000 in
theorem c_X8_tenTo (l : Launch) (G : Ge) (x0 : Int32) {F : (Int32)} (hF : f_X8_tenTo x0 = F) : CI l yX8_tenTo wsX8_tenTo { frames := 0, cells := 0, slots := 0, locals := 0 } [.int x0] G ([] : List va_W) ([] : List va_W) F := by
  intro sz
  refine Met.ofW (cc := cX8_tenTo) (maxL := 3) (ret := (some .int)) (by decide) rfl ?_
  intro p e s m args below meth c s₁ B hml hv
  obtain ⟨rfl, hpre⟩ := hv
  obtain ⟨hsz, hH, hK, hN, hA⟩ := kb_start hpre
  subst hsz
  have hx := B.exec
  have hb := B.bytes
  have hr := B.returns
  have hts := atoms_spec (ws := wsX8_tenTo) B.pre
  have hown : s.vm.findClass RX8 = some m.cls := findClass_of_methodNamed B.named
  have hlocks := B.notSynchronized
  generalize hAe : va_A (List.flatten ([] : List va_W)) s.heap.size = A at hH hA ⊢
  have hl := lv_entry ([.int x0]) (n := 3) (Nat.le_of_ble_eq_true rfl)
  rw [lg_entry_eq]
  generalize (lg_sl ([.int x0]) ++ List.replicate (3 - (lg_sl ([.int x0])).length) Slot.unset).toArray = ls at hl ⊢
  have hl : lv_has ls 3 [(0, .int x0)] := hl
  have hH : HP G A s.heap ([] : List va_W) s.heap [] := hH
  have hF : (kAp (lpu (f_X8_tenTo_L1) (cN x0) 0 (1 : Int32)) (fun z3 => z3)) = F := hF
  refine lv_iconst (v := 1) hx hb dX8_tenTo_0 (by decide) ?_
  refine lv_istore_n (lv' := [(1, .int (1 : Int32)), (0, .int x0)]) hx hb dX8_tenTo_1 rfl hl (by decide) rfl (fun ls hl => ?_)
  refine lv_iconst (v := 0) hx hb dX8_tenTo_2 (by decide) ?_
  refine lv_istore_n (lv' := [(2, .int (0 : Int32)), (1, .int (1 : Int32)), (0, .int x0)]) hx hb dX8_tenTo_3 rfl hl (by decide) rfl (fun ls hl => ?_)
  obtain ⟨SFL1, hSFL1⟩ : ∃ z, z = (lpu (f_X8_tenTo_L1) (cN x0) 0 (1 : Int32)) := ⟨_, rfl⟩
  have hF := kAp_eq hF hSFL1
  refine kb_cut (fun H locs ls => HP G A s.heap ([] : List va_W) H locs ∧ lv_has ls 3 [(1, .int SFL1)]) 20 [] (fun EXL1 => ?_) (fun H locs ls hX => ?_)
  · refine kb_loop (σ := (Int32)) (fun n i x => n + i = (cN x0) ∧ lpu (f_X8_tenTo_L1) n i x = SFL1) (fun iL1 x H locs ls => HP G A s.heap ([] : List va_W) H locs ∧ lv_has ls 3 [(2, .int (nI iL1)), (1, .int x), (0, .int x0)]) (fun iL1 x H locs ls hI hX => ?_) (fun n iL1 x hI ihL1 H locs ls hX => ?_) (cN x0) 0 (1 : Int32) _ _ _ ⟨Nat.add_zero _, hSFL1.symm⟩ ⟨hH, lv_sub hl [0, 1, 2] rfl⟩
    · obtain ⟨L1a, exL1a⟩ : ∃ z, z = x := ⟨_, rfl⟩
      subst exL1a
      have hH : HP G A s.heap ([] : List va_W) H locs := hX.1
      have hl : lv_has ls 3 [(2, .int (nI iL1)), (1, .int L1a), (0, .int x0)] := hX.2
      obtain ⟨hiL1, hs⟩ := hI
      have hiL1 : iL1 = (cN x0) := by omega
      refine lv_iload_n hx hb dX8_tenTo_4 rfl (lv_at hl 0 rfl) ?_
      refine lv_iload_n hx hb dX8_tenTo_5 rfl (lv_at hl 2 rfl) ?_
      refine lv_icmp_ge (tgt := 20) hx hb dX8_tenTo_6 (by decide) (fun _ => ?_) (fun c => absurd (cN_end hiL1) c)
      exact EXL1 _ _ _ ⟨by subst hs; exact hH, by subst hs; exact lv_sub hl [1] rfl⟩
    · obtain ⟨L1a, exL1a⟩ : ∃ z, z = x := ⟨_, rfl⟩
      subst exL1a
      have hH : HP G A s.heap ([] : List va_W) H locs := hX.1
      have hl : lv_has ls 3 [(2, .int (nI iL1)), (1, .int L1a), (0, .int x0)] := hX.2
      obtain ⟨hiL1, hs⟩ := hI
      have hltL1 : iL1 < (cN x0) := by omega
      obtain ⟨BVL1, hBd⟩ : ∃ z, (f_X8_tenTo_L1) iL1 L1a = z := ⟨_, rfl⟩
      have hs : lpu (f_X8_tenTo_L1) n (iL1 + 1) BVL1 = SFL1 := by rw [← hBd]; exact hs
      have hBL1 : (L1a * (10 : Int32)) = BVL1 := hBd
      refine lv_iload_n hx hb dX8_tenTo_4 rfl (lv_at hl 0 rfl) ?_
      refine lv_iload_n hx hb dX8_tenTo_5 rfl (lv_at hl 2 rfl) ?_
      refine lv_icmp_ge (tgt := 20) hx hb dX8_tenTo_6 (by decide) (fun c => absurd c (cN_ge hltL1)) (fun c2 => ?_)
      refine lv_iload_n hx hb dX8_tenTo_9 rfl (lv_at hl 1 rfl) ?_
      refine lv_bipush (v := 10) hx hb dX8_tenTo_10 (by decide) ?_
      refine lv_imul hx hb dX8_tenTo_12 ?_
      refine lv_istore_n (lv' := [(1, .int (L1a * (10 : Int32))), (2, .int (nI iL1)), (0, .int x0)]) hx hb dX8_tenTo_13 rfl hl (by decide) rfl (fun ls hl => ?_)
      refine lv_iinc (v := (nI (iL1 + 1))) (lv' := [(2, .int (nI (iL1 + 1))), (1, .int (L1a * (10 : Int32))), (0, .int x0)]) hx hb dX8_tenTo_14 hl (k := 1) rfl (nI_1 _) (by decide) rfl (fun ls hl => ?_)
      refine lv_goto (tgt := 4) hx hb dX8_tenTo_17 (by decide) ?_
      subst hBL1
      exact ihL1 _ _ _ _ ⟨by omega, hs⟩ ⟨hH, lv_sub hl [0, 1, 2] rfl⟩
  · obtain ⟨hH, hl⟩ := hX
    refine lv_iload_n hx hb dX8_tenTo_20 rfl (lv_at hl 0 rfl) ?_
    subst hF
    exact kb_iret hx hb hr hH rfl rfl dX8_tenTo_21 hlocks
def f_X8_judge_L5 (x0 : Int32) (x1 : Int32) (iL5 : Nat) (s : (OV)) : (OV) ⊕ (Int32 × OV) := (if (f_X8_isWind s ((x1 / (f_X8_tenTo ((x0 - (1 : Int32)) - (nI iL5)))) - (x1 / (f_X8_tenTo ((x0 - (1 : Int32)) - (nI iL5)))) / (10 : Int32) * (10 : Int32))) = 0 then (Sum.inr ((nI iL5), s)) else (kAp (f_X8_blowOn s (1 : Int32) ((x1 / (f_X8_tenTo ((x0 - (1 : Int32)) - (nI iL5)))) - (x1 / (f_X8_tenTo ((x0 - (1 : Int32)) - (nI iL5)))) / (10 : Int32) * (10 : Int32))) (fun q9 => (if ((q9.1 5) (52 : Int32).toNatClampNeg) = 0 then (Sum.inl q9) else (Sum.inr ((nI iL5), q9))))))
def d_X8_judge_L5 (x0 : Int32) (x1 : Int32) (iL5 : Nat) (s : (OV)) : Prop := (¬ (f_X8_tenTo ((x0 - (1 : Int32)) - (nI iL5))) = 0 ∧ (¬ ((f_X8_isWind s ((x1 / (f_X8_tenTo ((x0 - (1 : Int32)) - (nI iL5)))) - (x1 / (f_X8_tenTo ((x0 - (1 : Int32)) - (nI iL5)))) / (10 : Int32) * (10 : Int32))) = 0) → (d_X8_blowOn s (1 : Int32) ((x1 / (f_X8_tenTo ((x0 - (1 : Int32)) - (nI iL5)))) - (x1 / (f_X8_tenTo ((x0 - (1 : Int32)) - (nI iL5)))) / (10 : Int32) * (10 : Int32)))))
def f_X8_judge (V : OV) (x0 : Int32) (x1 : Int32) : (Int32 × OV) := (if (f_X8_in (x0.toInt64) (1 : Int64) (6 : Int64)) = 0 then ((-2 : Int32), V) else (if (f_X8_in (x1.toInt64) (0 : Int64) (((f_X8_tenTo x0) - (1 : Int32)).toInt64)) = 0 then ((-2 : Int32), V) else (kAp (f_X8_layTrial V) (fun q3 => (kAx (lpx (f_X8_judge_L5 x0 x1) (cN x0) 0 q3) (fun z12 => ((-9 : Int32), z12)))))))
def d_X8_judge (V : OV) (x0 : Int32) (x1 : Int32) : Prop := (¬ ((f_X8_in (x0.toInt64) (1 : Int64) (6 : Int64)) = 0) → (¬ ((f_X8_in (x1.toInt64) (0 : Int64) (((f_X8_tenTo x0) - (1 : Int32)).toInt64)) = 0) → ((d_X8_layTrial V) ∧ (kAp (f_X8_layTrial V) (fun q3 => (lpxD (f_X8_judge_L5 x0 x1) (d_X8_judge_L5 x0 x1) (cN x0) 0 q3))))))
set_option maxHeartbeats 4000000 in
set_option maxRecDepth 100000 in
theorem c_X8_judge (l : Launch) (G : Ge) (g : Nat → Nat) (V : OV) (x0 : Int32) (x1 : Int32) (hD : d_X8_judge V x0 x1) {F : (Int32 × OV)} (hF : f_X8_judge V x0 x1 = F) : CI l yX8_judge wsX8_judge { frames := 4, cells := 0, slots := 0, locals := 99 } [.ref (g 0), .int x0, .int x1] G (w_O8 G g V) (w_O8 G g F.2) F.1 := by
  intro sz
  refine Met.ofW (cc := cX8_judge) (maxL := 5) (ret := (some .int)) (by decide) rfl ?_
  intro p e s m args below meth c s₁ B hml hv
  obtain ⟨rfl, hpre⟩ := hv
  obtain ⟨hsz, hH, hK, hN, hA⟩ := kb_start hpre
  subst hsz
  have hx := B.exec
  have hb := B.bytes
  have hr := B.returns
  have hts := atoms_spec (ws := wsX8_judge) B.pre
  have hown : s.vm.findClass RX8 = some m.cls := findClass_of_methodNamed B.named
  have hlocks := B.notSynchronized
  generalize hAe : va_A (List.flatten (w_O8 G g V)) s.heap.size = A at hH hA ⊢
  have hl := lv_entry ([.ref (g 0), .int x0, .int x1]) (n := 5) (Nat.le_of_ble_eq_true rfl)
  rw [lg_entry_eq]
  generalize (lg_sl ([.ref (g 0), .int x0, .int x1]) ++ List.replicate (5 - (lg_sl ([.ref (g 0), .int x0, .int x1])).length) Slot.unset).toArray = ls at hl ⊢
  have hl : lv_has ls 5 [(0, .ref (g 0)), (1, .int x0), (2, .int x1)] := hl
  have hH : HP G A s.heap (w_O8 G g V) s.heap [] := hH
  have hin8 : ∀ w ∈ u_ws RX8 TX8 31, w ∈ wsX8_judge := fun w h => List.mem_cons_of_mem _ (List.mem_append_right _ h)
  have hF : (if (f_X8_in (x0.toInt64) (1 : Int64) (6 : Int64)) = 0 then ((-2 : Int32), V) else (if (f_X8_in (x1.toInt64) (0 : Int64) (((f_X8_tenTo x0) - (1 : Int32)).toInt64)) = 0 then ((-2 : Int32), V) else (kAp (f_X8_layTrial V) (fun q3 => (kAx (lpx (f_X8_judge_L5 x0 x1) (cN x0) 0 q3) (fun z12 => ((-9 : Int32), z12))))))) = F := hF
  have hD : (¬ ((f_X8_in (x0.toInt64) (1 : Int64) (6 : Int64)) = 0) → (¬ ((f_X8_in (x1.toInt64) (0 : Int64) (((f_X8_tenTo x0) - (1 : Int32)).toInt64)) = 0) → ((d_X8_layTrial V) ∧ (kAp (f_X8_layTrial V) (fun q3 => (lpxD (f_X8_judge_L5 x0 x1) (d_X8_judge_L5 x0 x1) (cN x0) 0 q3)))))) := hD
  refine lv_iload_n hx hb dX8_judge_0 rfl (lv_at hl 1 rfl) ?_
  refine lv_i2l (v := (x0.toInt64)) hx hb dX8_judge_1 rfl ?_
  refine lv_lconst (v := 1) hx hb dX8_judge_2 (by decide) ?_
  refine lv_ldc2 (v := 6) hx hb hown (hts (.constantLong RX8 184 (6)) (List.mem_of_getElem? (i := 1) rfl)) dX8_judge_3 ?_
  refine kb_ci hH hA [] (Wc := ([] : List va_W)) (Wc' := ([] : List va_W)) (WS' := (w_O8 G g V)) rfl (by decide) rfl rfl (va_runS (As := [.long (x0.toInt64), .long (1 : Int64), .long (6 : Int64)]) (rest := []) ⟨hx, hb, hml, hown, hts⟩ (c_X8_in l G (x0.toInt64) (1 : Int64) (6 : Int64) rfl _) (va_cwS 3 hts gX8_judge_X8_in rfl rfl rfl hd_X8_in ⟨Nat.le_of_ble_eq_true rfl, Nat.le_of_ble_eq_true rfl⟩) (kb_preS hH hK hN [] rfl (by decide)) rfl rfl hl.1 rfl (lv_room (Nat.le_of_ble_eq_true rfl)) dX8_judge_6 ⟨Nat.le_of_ble_eq_true rfl, Nat.le_of_ble_eq_true rfl⟩) (fun H locs hH => ?_)
  refine lv_if_eq (tgt := 28) hx hb dX8_judge_9 (by decide) (fun c1 => ?_) (fun c1 => ?_)
  · rw [if_pos c1] at hF
    refine lv_bipush (v := -2) hx hb dX8_judge_28 (by decide) ?_
    subst hF
    exact kb_iret hx hb hr hH rfl rfl dX8_judge_30 hlocks
  · have hD := hD c1
    rw [if_neg c1] at hF
    refine lv_iload_n hx hb dX8_judge_12 rfl (lv_at hl 2 rfl) ?_
    refine lv_i2l (v := (x1.toInt64)) hx hb dX8_judge_13 rfl ?_
    refine lv_lconst (v := 0) hx hb dX8_judge_14 (by decide) ?_
    refine lv_iload_n hx hb dX8_judge_15 rfl (lv_at hl 1 rfl) ?_
    refine kb_ci hH hA [] (Wc := ([] : List va_W)) (Wc' := ([] : List va_W)) (WS' := (w_O8 G g V)) rfl (by decide) rfl rfl (va_runS (As := [.int x0]) (rest := [.long (0 : Int64), .long (x1.toInt64)]) ⟨hx, hb, hml, hown, hts⟩ (c_X8_tenTo l G x0 rfl _) (va_cwS 1 hts gX8_judge_X8_tenTo rfl rfl rfl hd_X8_tenTo ⟨Nat.le_of_ble_eq_true rfl, Nat.le_of_ble_eq_true rfl⟩) (kb_preS hH hK hN [] rfl (by decide)) rfl rfl hl.1 rfl (lv_room (Nat.le_of_ble_eq_true rfl)) dX8_judge_16 ⟨Nat.le_of_ble_eq_true rfl, Nat.le_of_ble_eq_true rfl⟩) (fun H locs hH => ?_)
    refine lv_iconst (v := 1) hx hb dX8_judge_19 (by decide) ?_
    refine lv_isub hx hb dX8_judge_20 ?_
    refine lv_i2l (v := (((f_X8_tenTo x0) - (1 : Int32)).toInt64)) hx hb dX8_judge_21 rfl ?_
    refine kb_ci hH hA [] (Wc := ([] : List va_W)) (Wc' := ([] : List va_W)) (WS' := (w_O8 G g V)) rfl (by decide) rfl rfl (va_runS (As := [.long (x1.toInt64), .long (0 : Int64), .long (((f_X8_tenTo x0) - (1 : Int32)).toInt64)]) (rest := []) ⟨hx, hb, hml, hown, hts⟩ (c_X8_in l G (x1.toInt64) (0 : Int64) (((f_X8_tenTo x0) - (1 : Int32)).toInt64) rfl _) (va_cwS 3 hts gX8_judge_X8_in rfl rfl rfl hd_X8_in ⟨Nat.le_of_ble_eq_true rfl, Nat.le_of_ble_eq_true rfl⟩) (kb_preS hH hK hN [] rfl (by decide)) rfl rfl hl.1 rfl (lv_room (Nat.le_of_ble_eq_true rfl)) dX8_judge_22 ⟨Nat.le_of_ble_eq_true rfl, Nat.le_of_ble_eq_true rfl⟩) (fun H locs hH => ?_)
    refine lv_if_ne (tgt := 31) hx hb dX8_judge_25 (by decide) (fun c2 => ?_) (fun c2 => ?_)
    · have hD := hD c2
      rw [if_neg c2] at hF
      refine lv_aload_n hx hb dX8_judge_31 rfl (lv_at hl 0 rfl) ?_
      obtain ⟨hz4, hD⟩ := hD
      obtain ⟨q3, hq3⟩ : ∃ z, z = (f_X8_layTrial V) := ⟨_, rfl⟩
      have hF := kAp_eq hF hq3
      have hD := kAp_D hD hq3
      refine kb_cv hH hA [0, 1, 2, 3, 4, 5, 6, 7, 8, 9, 10, 11, 12, 13, 14] (Wc := (w_O8 G g V)) (Wc' := (w_O8 G g q3)) (WS' := (w_O8 G g q3)) rfl (by decide) rfl rfl (va_runV (As := []) (rest := []) ⟨hx, hb, hml, hown, hts⟩ (c_X8_layTrial l G g V hz4 hq3.symm _) (cwV 0 hts gX8_judge_X8_layTrial rfl rfl rfl he_X8_layTrial ⟨Nat.le_of_ble_eq_true rfl, Nat.le_of_ble_eq_true rfl⟩) (kb_preV hH hK hN [0, 1, 2, 3, 4, 5, 6, 7, 8, 9, 10, 11, 12, 13, 14] rfl (by decide) 0 rfl rfl rfl rfl) rfl rfl hl.1 rfl (lv_room (Nat.le_of_ble_eq_true rfl)) dX8_judge_32 ⟨Nat.le_of_ble_eq_true rfl, Nat.le_of_ble_eq_true rfl⟩) (fun H locs hH => ?_)
      refine lv_iconst (v := 0) hx hb dX8_judge_35 (by decide) ?_
      refine lv_istore_n (lv' := [(3, .int (0 : Int32)), (0, .ref (g 0)), (1, .int x0), (2, .int x1)]) hx hb dX8_judge_36 rfl hl (by decide) rfl (fun ls hl => ?_)
      have hDlL5 := hD
      obtain ⟨SFL5, hSFL5⟩ : ∃ z, z = (lpx (f_X8_judge_L5 x0 x1) (cN x0) 0 q3) := ⟨_, rfl⟩
      rw [← hSFL5] at hF
      refine kb_cut (fun H locs ls => ∃ z12 : (OV), SFL5 = Sum.inl z12 ∧ HP G A s.heap (w_O8 G g z12) H locs ∧ lv_has ls 5 []) 93 [] (fun EXL5 => ?_) (fun H locs ls hX => ?_)
      · refine kb_loop (σ := (OV)) (fun n i x => n + i = (cN x0) ∧ lpx (f_X8_judge_L5 x0 x1) n i x = SFL5 ∧ lpxD (f_X8_judge_L5 x0 x1) (d_X8_judge_L5 x0 x1) n i x) (fun iL5 x H locs ls => HP G A s.heap (w_O8 G g x) H locs ∧ lv_has ls 5 [(3, .int (nI iL5)), (0, .ref (g 0)), (1, .int x0), (2, .int x1)]) (fun iL5 x H locs ls hI hX => ?_) (fun n iL5 x hI ihL5 H locs ls hX => ?_) (cN x0) 0 q3 _ _ _ ⟨Nat.add_zero _, hSFL5.symm, hDlL5⟩ ⟨hH, lv_sub hl [0, 1, 2, 3] rfl⟩
        · obtain ⟨L5a, exL5a⟩ : ∃ z, z = x := ⟨_, rfl⟩
          subst exL5a
          have hH : HP G A s.heap (w_O8 G g L5a) H locs := hX.1
          have hl : lv_has ls 5 [(3, .int (nI iL5)), (0, .ref (g 0)), (1, .int x0), (2, .int x1)] := hX.2
          obtain ⟨hiL5, hs, _⟩ := hI
          have hiL5 : iL5 = (cN x0) := by omega
          refine lv_iload_n hx hb dX8_judge_37 rfl (lv_at hl 0 rfl) ?_
          refine lv_iload_n hx hb dX8_judge_38 rfl (lv_at hl 2 rfl) ?_
          refine lv_icmp_ge (tgt := 93) hx hb dX8_judge_39 (by decide) (fun _ => ?_) (fun c => absurd (cN_end hiL5) c)
          exact EXL5 _ _ _ ⟨_, hs.symm, hH, lv_sub hl [] rfl⟩
        · obtain ⟨L5a, exL5a⟩ : ∃ z, z = x := ⟨_, rfl⟩
          subst exL5a
          have hH : HP G A s.heap (w_O8 G g L5a) H locs := hX.1
          have hl : lv_has ls 5 [(3, .int (nI iL5)), (0, .ref (g 0)), (1, .int x0), (2, .int x1)] := hX.2
          obtain ⟨hiL5, hs, hDi⟩ := hI
          obtain ⟨hD, hDn⟩ := hDi
          have hD : (¬ (f_X8_tenTo ((x0 - (1 : Int32)) - (nI iL5))) = 0 ∧ (¬ ((f_X8_isWind L5a ((x1 / (f_X8_tenTo ((x0 - (1 : Int32)) - (nI iL5)))) - (x1 / (f_X8_tenTo ((x0 - (1 : Int32)) - (nI iL5)))) / (10 : Int32) * (10 : Int32))) = 0) → (d_X8_blowOn L5a (1 : Int32) ((x1 / (f_X8_tenTo ((x0 - (1 : Int32)) - (nI iL5)))) - (x1 / (f_X8_tenTo ((x0 - (1 : Int32)) - (nI iL5)))) / (10 : Int32) * (10 : Int32))))) := hD
          have hltL5 : iL5 < (cN x0) := by omega
          obtain ⟨BVL5, hBd⟩ : ∃ z, (f_X8_judge_L5 x0 x1) iL5 L5a = z := ⟨_, rfl⟩
          have hBL5 : (if (f_X8_isWind L5a ((x1 / (f_X8_tenTo ((x0 - (1 : Int32)) - (nI iL5)))) - (x1 / (f_X8_tenTo ((x0 - (1 : Int32)) - (nI iL5)))) / (10 : Int32) * (10 : Int32))) = 0 then (Sum.inr ((nI iL5), L5a)) else (kAp (f_X8_blowOn L5a (1 : Int32) ((x1 / (f_X8_tenTo ((x0 - (1 : Int32)) - (nI iL5)))) - (x1 / (f_X8_tenTo ((x0 - (1 : Int32)) - (nI iL5)))) / (10 : Int32) * (10 : Int32))) (fun q9 => (if ((q9.1 5) (52 : Int32).toNatClampNeg) = 0 then (Sum.inl q9) else (Sum.inr ((nI iL5), q9)))))) = BVL5 := hBd
          refine lv_iload_n hx hb dX8_judge_37 rfl (lv_at hl 0 rfl) ?_
          refine lv_iload_n hx hb dX8_judge_38 rfl (lv_at hl 2 rfl) ?_
          refine lv_icmp_ge (tgt := 93) hx hb dX8_judge_39 (by decide) (fun c => absurd c (cN_ge hltL5)) (fun c6 => ?_)
          refine lv_iload_n hx hb dX8_judge_42 rfl (lv_at hl 3 rfl) ?_
          refine lv_iload_n hx hb dX8_judge_43 rfl (lv_at hl 2 rfl) ?_
          refine lv_iconst (v := 1) hx hb dX8_judge_44 (by decide) ?_
          refine lv_isub hx hb dX8_judge_45 ?_
          refine lv_iload_n hx hb dX8_judge_46 rfl (lv_at hl 0 rfl) ?_
          refine lv_isub hx hb dX8_judge_47 ?_
          refine kb_ci hH hA [] (Wc := ([] : List va_W)) (Wc' := ([] : List va_W)) (WS' := (w_O8 G g L5a)) rfl (by decide) rfl rfl (va_runS (As := [.int ((x0 - (1 : Int32)) - (nI iL5))]) (rest := [.int x1]) ⟨hx, hb, hml, hown, hts⟩ (c_X8_tenTo l G ((x0 - (1 : Int32)) - (nI iL5)) rfl _) (va_cwS 1 hts gX8_judge_X8_tenTo rfl rfl rfl hd_X8_tenTo ⟨Nat.le_of_ble_eq_true rfl, Nat.le_of_ble_eq_true rfl⟩) (kb_preS hH hK hN [] rfl (by decide)) rfl rfl hl.1 rfl (lv_room (Nat.le_of_ble_eq_true rfl)) dX8_judge_48 ⟨Nat.le_of_ble_eq_true rfl, Nat.le_of_ble_eq_true rfl⟩) (fun H locs hH => ?_)
          obtain ⟨hz7, hD⟩ := hD
          refine lv_idiv hx hb dX8_judge_51 hz7 ?_
          refine lv_bipush (v := 10) hx hb dX8_judge_52 (by decide) ?_
          refine lv_irem hx hb dX8_judge_54 (by decide) ?_
          refine lv_istore (lv' := [(4, .int ((x1 / (f_X8_tenTo ((x0 - (1 : Int32)) - (nI iL5)))) - (x1 / (f_X8_tenTo ((x0 - (1 : Int32)) - (nI iL5)))) / (10 : Int32) * (10 : Int32))), (3, .int (nI iL5)), (0, .ref (g 0)), (1, .int x0), (2, .int x1)]) hx hb dX8_judge_55 hl (by decide) rfl (fun ls hl => ?_)
          refine lv_aload_n hx hb dX8_judge_57 rfl (lv_at hl 2 rfl) ?_
          refine lv_iload hx hb dX8_judge_58 (lv_at hl 0 rfl) ?_
          refine kb_ci hH hA [0, 1, 2, 3, 4, 5, 6, 7, 8, 9, 10, 11, 12, 13, 14] (Wc := (w_O8 G g L5a)) (Wc' := (w_O8 G g L5a)) (WS' := (w_O8 G g L5a)) rfl (by decide) rfl rfl (va_runV (As := [.int ((x1 / (f_X8_tenTo ((x0 - (1 : Int32)) - (nI iL5)))) - (x1 / (f_X8_tenTo ((x0 - (1 : Int32)) - (nI iL5)))) / (10 : Int32) * (10 : Int32))]) (rest := []) ⟨hx, hb, hml, hown, hts⟩ (c_X8_isWind l G g L5a ((x1 / (f_X8_tenTo ((x0 - (1 : Int32)) - (nI iL5)))) - (x1 / (f_X8_tenTo ((x0 - (1 : Int32)) - (nI iL5)))) / (10 : Int32) * (10 : Int32)) rfl _) (cwV 1 hts gX8_judge_X8_isWind rfl rfl rfl he_X8_isWind ⟨Nat.le_of_ble_eq_true rfl, Nat.le_of_ble_eq_true rfl⟩) (kb_preV hH hK hN [0, 1, 2, 3, 4, 5, 6, 7, 8, 9, 10, 11, 12, 13, 14] rfl (by decide) 0 rfl rfl rfl rfl) rfl rfl hl.1 rfl (lv_room (Nat.le_of_ble_eq_true rfl)) dX8_judge_60 ⟨Nat.le_of_ble_eq_true rfl, Nat.le_of_ble_eq_true rfl⟩) (fun H locs hH => ?_)
          refine lv_if_ne (tgt := 68) hx hb dX8_judge_63 (by decide) (fun c8 => ?_) (fun c8 => ?_)
          · have hD := hD c8
            rw [if_neg c8] at hBL5
            refine lv_aload_n hx hb dX8_judge_68 rfl (lv_at hl 2 rfl) ?_
            refine lv_iconst (v := 1) hx hb dX8_judge_69 (by decide) ?_
            refine lv_iload hx hb dX8_judge_70 (lv_at hl 0 rfl) ?_
            have hz10 := hD
            obtain ⟨q9, hq9⟩ : ∃ z, z = (f_X8_blowOn L5a (1 : Int32) ((x1 / (f_X8_tenTo ((x0 - (1 : Int32)) - (nI iL5)))) - (x1 / (f_X8_tenTo ((x0 - (1 : Int32)) - (nI iL5)))) / (10 : Int32) * (10 : Int32))) := ⟨_, rfl⟩
            have hBL5 := kAp_eq hBL5 hq9
            refine kb_cv hH hA [0, 1, 2, 3, 4, 5, 6, 7, 8, 9, 10, 11, 12, 13, 14] (Wc := (w_O8 G g L5a)) (Wc' := (w_O8 G g q9)) (WS' := (w_O8 G g q9)) rfl (by decide) rfl rfl (va_runV (As := [.int (1 : Int32), .int ((x1 / (f_X8_tenTo ((x0 - (1 : Int32)) - (nI iL5)))) - (x1 / (f_X8_tenTo ((x0 - (1 : Int32)) - (nI iL5)))) / (10 : Int32) * (10 : Int32))]) (rest := []) ⟨hx, hb, hml, hown, hts⟩ (c_X8_blowOn l G g L5a (1 : Int32) ((x1 / (f_X8_tenTo ((x0 - (1 : Int32)) - (nI iL5)))) - (x1 / (f_X8_tenTo ((x0 - (1 : Int32)) - (nI iL5)))) / (10 : Int32) * (10 : Int32)) hz10 hq9.symm _) (cwV 2 hts gX8_judge_X8_blowOn rfl rfl rfl he_X8_blowOn ⟨Nat.le_of_ble_eq_true rfl, Nat.le_of_ble_eq_true rfl⟩) (kb_preV hH hK hN [0, 1, 2, 3, 4, 5, 6, 7, 8, 9, 10, 11, 12, 13, 14] rfl (by decide) 0 rfl rfl rfl rfl) rfl rfl hl.1 rfl (lv_room (Nat.le_of_ble_eq_true rfl)) dX8_judge_72 ⟨Nat.le_of_ble_eq_true rfl, Nat.le_of_ble_eq_true rfl⟩) (fun H locs hH => ?_)
            refine lv_aload_n hx hb dX8_judge_75 rfl (lv_at hl 2 rfl) ?_
            refine kb_get (v := .ref (g 6)) hx hb hts hin8 hown hK hH 0 rfl rfl rfl 5 (by decide) (hts (.fieldLink RX8 19 "CockWarModel" "now" "[I") (List.mem_of_getElem? (i := 2) rfl)) (fun _ h9 => h9) rfl dX8_judge_76 ?_
            refine lv_bipush (v := 52) hx hb dX8_judge_79 (by decide) ?_
            refine kb_iald hx hb hK hH 4 rfl (show ¬ ((52 : Int32) < 0 ∨ 54 ≤ (52 : Int32).toNatClampNeg) by decide) dX8_judge_81 ?_
            refine lv_if_eq (tgt := 87) hx hb dX8_judge_82 (by decide) (fun c11 => ?_) (fun c11 => ?_)
            · rw [if_pos c11] at hBL5
              refine lv_iinc (v := (nI (iL5 + 1))) (lv' := [(3, .int (nI (iL5 + 1))), (4, .int ((x1 / (f_X8_tenTo ((x0 - (1 : Int32)) - (nI iL5)))) - (x1 / (f_X8_tenTo ((x0 - (1 : Int32)) - (nI iL5)))) / (10 : Int32) * (10 : Int32))), (0, .ref (g 0)), (1, .int x0), (2, .int x1)]) hx hb dX8_judge_87 hl (k := 1) rfl (nI_1 _) (by decide) rfl (fun ls hl => ?_)
              refine lv_goto (tgt := 37) hx hb dX8_judge_90 (by decide) ?_
              have hs := lpx_l hs (hBd.trans hBL5.symm)
              have hDn := hDn _ (hBd.trans hBL5.symm)
              exact ihL5 _ _ _ _ ⟨by omega, hs, hDn⟩ ⟨hH, lv_sub hl [0, 2, 3, 4] rfl⟩
            · rw [if_neg c11] at hBL5
              refine lv_iload_n hx hb dX8_judge_85 rfl (lv_at hl 1 rfl) ?_
              have hx2 := lpx_r hs (hBd.trans hBL5.symm)
              have hF := kAx_r hF hx2
              subst hF
              exact kb_iret hx hb hr hH rfl rfl dX8_judge_86 hlocks
          · rw [if_pos c8] at hBL5
            refine lv_iload_n hx hb dX8_judge_66 rfl (lv_at hl 1 rfl) ?_
            have hx2 := lpx_r hs (hBd.trans hBL5.symm)
            have hF := kAx_r hF hx2
            subst hF
            exact kb_iret hx hb hr hH rfl rfl dX8_judge_67 hlocks
      · obtain ⟨z12, hzz12, hH, hl⟩ := hX
        have hF := kAx_l hF hzz12
        refine lv_bipush (v := -9) hx hb dX8_judge_93 (by decide) ?_
        subst hF
        exact kb_iret hx hb hr hH rfl rfl dX8_judge_95 hlocks
    · rw [if_pos c2] at hF
      refine lv_bipush (v := -2) hx hb dX8_judge_28 (by decide) ?_
      subst hF
      exact kb_iret hx hb hr hH rfl rfl dX8_judge_30 hlocks
def f_X8_see (V : OV) (x0 : Int32) (x1 : Int32) : (Int32 × OV) := (if (f_X8_isCock V x0) = 0 then ((-1 : Int32), V) else (if (f_X8_in (x1.toInt64) (0 : Int64) (1 : Int64)) = 0 then ((-2 : Int32), V) else (if (V.2.1 25) = (6 : Int32) then ((-4 : Int32), V) else (((V.2.1 25) + (1 : Int32)), (oI (oA (oA V 26 (upd (V.1 26) (V.2.1 25).toNatClampNeg x0)) 27 (upd (V.1 27) (V.2.1 25).toNatClampNeg x1)) 25 ((V.2.1 25) + (1 : Int32)))))))
def d_X8_see (V : OV) (x0 : Int32) (x1 : Int32) : Prop := (¬ ((f_X8_isCock V x0) = 0) → (¬ ((f_X8_in (x1.toInt64) (0 : Int64) (1 : Int64)) = 0) → (¬ ((V.2.1 25) = (6 : Int32)) → (vp_in (V.2.1 25) 6 ∧ vp_in (V.2.1 25) 6))))
set_option maxHeartbeats 4000000 in
set_option maxRecDepth 100000 in
theorem c_X8_see (l : Launch) (G : Ge) (g : Nat → Nat) (V : OV) (x0 : Int32) (x1 : Int32) (hD : d_X8_see V x0 x1) {F : (Int32 × OV)} (hF : f_X8_see V x0 x1 = F) : CI l yX8_see wsX8_see { frames := 2, cells := 0, slots := 0, locals := 46 } [.ref (g 0), .int x0, .int x1] G (w_O8 G g V) (w_O8 G g F.2) F.1 := by
  intro sz
  refine Met.ofW (cc := cX8_see) (maxL := 3) (ret := (some .int)) (by decide) rfl ?_
  intro p e s m args below meth c s₁ B hml hv
  obtain ⟨rfl, hpre⟩ := hv
  obtain ⟨hsz, hH, hK, hN, hA⟩ := kb_start hpre
  subst hsz
  have hx := B.exec
  have hb := B.bytes
  have hr := B.returns
  have hts := atoms_spec (ws := wsX8_see) B.pre
  have hown : s.vm.findClass RX8 = some m.cls := findClass_of_methodNamed B.named
  have hlocks := B.notSynchronized
  generalize hAe : va_A (List.flatten (w_O8 G g V)) s.heap.size = A at hH hA ⊢
  have hl := lv_entry ([.ref (g 0), .int x0, .int x1]) (n := 3) (Nat.le_of_ble_eq_true rfl)
  rw [lg_entry_eq]
  generalize (lg_sl ([.ref (g 0), .int x0, .int x1]) ++ List.replicate (3 - (lg_sl ([.ref (g 0), .int x0, .int x1])).length) Slot.unset).toArray = ls at hl ⊢
  have hl : lv_has ls 3 [(0, .ref (g 0)), (1, .int x0), (2, .int x1)] := hl
  have hH : HP G A s.heap (w_O8 G g V) s.heap [] := hH
  have hin8 : ∀ w ∈ u_ws RX8 TX8 31, w ∈ wsX8_see := fun w h => List.mem_cons_of_mem _ (List.mem_append_right _ h)
  have hF : (if (f_X8_isCock V x0) = 0 then ((-1 : Int32), V) else (if (f_X8_in (x1.toInt64) (0 : Int64) (1 : Int64)) = 0 then ((-2 : Int32), V) else (if (V.2.1 25) = (6 : Int32) then ((-4 : Int32), V) else (((V.2.1 25) + (1 : Int32)), (oI (oA (oA V 26 (upd (V.1 26) (V.2.1 25).toNatClampNeg x0)) 27 (upd (V.1 27) (V.2.1 25).toNatClampNeg x1)) 25 ((V.2.1 25) + (1 : Int32))))))) = F := hF
  have hD : (¬ ((f_X8_isCock V x0) = 0) → (¬ ((f_X8_in (x1.toInt64) (0 : Int64) (1 : Int64)) = 0) → (¬ ((V.2.1 25) = (6 : Int32)) → (vp_in (V.2.1 25) 6 ∧ vp_in (V.2.1 25) 6)))) := hD
  refine lv_aload_n hx hb dX8_see_0 rfl (lv_at hl 0 rfl) ?_
  refine lv_iload_n hx hb dX8_see_1 rfl (lv_at hl 1 rfl) ?_
  refine kb_ci hH hA [0, 1, 2, 3, 4, 5, 6, 7, 8, 9, 10, 11, 12, 13, 14] (Wc := (w_O8 G g V)) (Wc' := (w_O8 G g V)) (WS' := (w_O8 G g V)) rfl (by decide) rfl rfl (va_runV (As := [.int x0]) (rest := []) ⟨hx, hb, hml, hown, hts⟩ (c_X8_isCock l G g V x0 rfl _) (cwV 1 hts gX8_see_X8_isCock rfl rfl rfl he_X8_isCock ⟨Nat.le_of_ble_eq_true rfl, Nat.le_of_ble_eq_true rfl⟩) (kb_preV hH hK hN [0, 1, 2, 3, 4, 5, 6, 7, 8, 9, 10, 11, 12, 13, 14] rfl (by decide) 0 rfl rfl rfl rfl) rfl rfl hl.1 rfl (lv_room (Nat.le_of_ble_eq_true rfl)) dX8_see_2 ⟨Nat.le_of_ble_eq_true rfl, Nat.le_of_ble_eq_true rfl⟩) (fun H locs hH => ?_)
  refine lv_if_ne (tgt := 10) hx hb dX8_see_5 (by decide) (fun c1 => ?_) (fun c1 => ?_)
  · have hD := hD c1
    rw [if_neg c1] at hF
    refine lv_iload_n hx hb dX8_see_10 rfl (lv_at hl 2 rfl) ?_
    refine lv_i2l (v := (x1.toInt64)) hx hb dX8_see_11 rfl ?_
    refine lv_lconst (v := 0) hx hb dX8_see_12 (by decide) ?_
    refine lv_lconst (v := 1) hx hb dX8_see_13 (by decide) ?_
    refine kb_ci hH hA [] (Wc := ([] : List va_W)) (Wc' := ([] : List va_W)) (WS' := (w_O8 G g V)) rfl (by decide) rfl rfl (va_runS (As := [.long (x1.toInt64), .long (0 : Int64), .long (1 : Int64)]) (rest := []) ⟨hx, hb, hml, hown, hts⟩ (c_X8_in l G (x1.toInt64) (0 : Int64) (1 : Int64) rfl _) (va_cwS 3 hts gX8_see_X8_in rfl rfl rfl hd_X8_in ⟨Nat.le_of_ble_eq_true rfl, Nat.le_of_ble_eq_true rfl⟩) (kb_preS hH hK hN [] rfl (by decide)) rfl rfl hl.1 rfl (lv_room (Nat.le_of_ble_eq_true rfl)) dX8_see_14 ⟨Nat.le_of_ble_eq_true rfl, Nat.le_of_ble_eq_true rfl⟩) (fun H locs hH => ?_)
    refine lv_if_ne (tgt := 23) hx hb dX8_see_17 (by decide) (fun c2 => ?_) (fun c2 => ?_)
    · have hD := hD c2
      rw [if_neg c2] at hF
      refine lv_aload_n hx hb dX8_see_23 rfl (lv_at hl 0 rfl) ?_
      refine kb_get (v := .int (V.2.1 25)) hx hb hts hin8 hown hK hH 0 rfl rfl rfl 25 (by decide) (hts (.fieldLink RX8 189 "CockWarModel" "seen" "I") (List.mem_of_getElem? (i := 1) rfl)) (fun _ h9 => h9) rfl dX8_see_24 ?_
      refine lv_bipush (v := 6) hx hb dX8_see_27 (by decide) ?_
      refine lv_icmp_ne (tgt := 35) hx hb dX8_see_29 (by decide) (fun c3 => ?_) (fun c3 => ?_)
      · have hD := hD c3
        rw [if_neg c3] at hF
        refine lv_aload_n hx hb dX8_see_35 rfl (lv_at hl 0 rfl) ?_
        refine kb_get (v := .ref (g 27)) hx hb hts hin8 hown hK hH 0 rfl rfl rfl 26 (by decide) (hts (.fieldLink RX8 40 "CockWarModel" "seenOf" "[I") (List.mem_of_getElem? (i := 2) rfl)) (fun _ h9 => h9) rfl dX8_see_36 ?_
        refine lv_aload_n hx hb dX8_see_39 rfl (lv_at hl 0 rfl) ?_
        refine kb_get (v := .int (V.2.1 25)) hx hb hts hin8 hown hK hH 0 rfl rfl rfl 25 (by decide) (hts (.fieldLink RX8 189 "CockWarModel" "seen" "I") (List.mem_of_getElem? (i := 1) rfl)) (fun _ h9 => h9) rfl dX8_see_40 ?_
        refine lv_iload_n hx hb dX8_see_43 rfl (lv_at hl 1 rfl) ?_
        obtain ⟨hz4, hD⟩ := hD
        refine kb_iast (WS' := (w_O8 G g (oA V 26 (upd (V.1 26) (V.2.1 25).toNatClampNeg x0)))) hx hb hK hH 11 rfl hz4 rfl dX8_see_44 (fun H locs hH => ?_)
        refine lv_aload_n hx hb dX8_see_45 rfl (lv_at hl 0 rfl) ?_
        refine kb_get (v := .ref (g 28)) hx hb hts hin8 hown hK hH 0 rfl rfl rfl 27 (by decide) (hts (.fieldLink RX8 43 "CockWarModel" "seenTo" "[I") (List.mem_of_getElem? (i := 3) rfl)) (fun _ h9 => h9) rfl dX8_see_46 ?_
        refine lv_aload_n hx hb dX8_see_49 rfl (lv_at hl 0 rfl) ?_
        refine kb_get (v := .int (V.2.1 25)) hx hb hts hin8 hown hK hH 0 rfl rfl rfl 25 (by decide) (hts (.fieldLink RX8 189 "CockWarModel" "seen" "I") (List.mem_of_getElem? (i := 1) rfl)) (fun _ h9 => h9) rfl dX8_see_50 ?_
        refine lv_iload_n hx hb dX8_see_53 rfl (lv_at hl 2 rfl) ?_
        have hz5 := hD
        refine kb_iast (WS' := (w_O8 G g (oA (oA V 26 (upd (V.1 26) (V.2.1 25).toNatClampNeg x0)) 27 (upd (V.1 27) (V.2.1 25).toNatClampNeg x1)))) hx hb hK hH 12 rfl hz5 rfl dX8_see_54 (fun H locs hH => ?_)
        refine lv_aload_n hx hb dX8_see_55 rfl (lv_at hl 0 rfl) ?_
        refine lv_dup hx hb dX8_see_56 rfl ?_
        refine kb_get (v := .int (V.2.1 25)) hx hb hts hin8 hown hK hH 0 rfl rfl rfl 25 (by decide) (hts (.fieldLink RX8 189 "CockWarModel" "seen" "I") (List.mem_of_getElem? (i := 1) rfl)) (fun _ h9 => h9) rfl dX8_see_57 ?_
        refine lv_iconst (v := 1) hx hb dX8_see_60 (by decide) ?_
        refine lv_iadd hx hb dX8_see_61 ?_
        refine kb_put (ty := .int) (v := .int ((V.2.1 25) + (1 : Int32))) (WS' := (w_O8 G g (oI (oA (oA V 26 (upd (V.1 26) (V.2.1 25).toNatClampNeg x0)) 27 (upd (V.1 27) (V.2.1 25).toNatClampNeg x1)) 25 ((V.2.1 25) + (1 : Int32))))) hx hb hts hin8 tyX8 tyX8_ok nmX8 hown hK hH 0 rfl rfl 25 (by decide) (hts (.fieldLink RX8 189 "CockWarModel" "seen" "I") (List.mem_of_getElem? (i := 1) rfl)) (fun _ h9 => h9) rfl (by decide +kernel) rfl rfl (Nat.le_of_ble_eq_true rfl) rfl dX8_see_62 (fun H locs hH => ?_)
        refine lv_aload_n hx hb dX8_see_65 rfl (lv_at hl 0 rfl) ?_
        refine kb_get (v := .int ((V.2.1 25) + (1 : Int32))) hx hb hts hin8 hown hK hH 0 rfl rfl rfl 25 (by decide) (hts (.fieldLink RX8 189 "CockWarModel" "seen" "I") (List.mem_of_getElem? (i := 1) rfl)) (fun _ h9 => h9) rfl dX8_see_66 ?_
        subst hF
        exact kb_iret hx hb hr hH rfl rfl dX8_see_69 hlocks
      · rw [if_pos c3] at hF
        refine lv_bipush (v := -4) hx hb dX8_see_32 (by decide) ?_
        subst hF
        exact kb_iret hx hb hr hH rfl rfl dX8_see_34 hlocks
    · rw [if_pos c2] at hF
      refine lv_bipush (v := -2) hx hb dX8_see_20 (by decide) ?_
      subst hF
      exact kb_iret hx hb hr hH rfl rfl dX8_see_22 hlocks
  · rw [if_pos c1] at hF
    refine lv_iconst (v := -1) hx hb dX8_see_8 (by decide) ?_
    subst hF
    exact kb_iret hx hb hr hH rfl rfl dX8_see_9 hlocks
def f_X8_unsee (V : OV) : (Int32 × OV) := ((V.2.1 25), (oI V 25 (0 : Int32)))
set_option maxHeartbeats 4000000 in
set_option maxRecDepth 100000 in
theorem c_X8_unsee (l : Launch) (G : Ge) (g : Nat → Nat) (V : OV) {F : (Int32 × OV)} (hF : f_X8_unsee V = F) : CI l yX8_unsee wsX8_unsee { frames := 0, cells := 0, slots := 0, locals := 0 } [.ref (g 0)] G (w_O8 G g V) (w_O8 G g F.2) F.1 := by
  intro sz
  refine Met.ofW (cc := cX8_unsee) (maxL := 2) (ret := (some .int)) (by decide) rfl ?_
  intro p e s m args below meth c s₁ B hml hv
  obtain ⟨rfl, hpre⟩ := hv
  obtain ⟨hsz, hH, hK, hN, hA⟩ := kb_start hpre
  subst hsz
  have hx := B.exec
  have hb := B.bytes
  have hr := B.returns
  have hts := atoms_spec (ws := wsX8_unsee) B.pre
  have hown : s.vm.findClass RX8 = some m.cls := findClass_of_methodNamed B.named
  have hlocks := B.notSynchronized
  generalize hAe : va_A (List.flatten (w_O8 G g V)) s.heap.size = A at hH hA ⊢
  have hl := lv_entry ([.ref (g 0)]) (n := 2) (Nat.le_of_ble_eq_true rfl)
  rw [lg_entry_eq]
  generalize (lg_sl ([.ref (g 0)]) ++ List.replicate (2 - (lg_sl ([.ref (g 0)])).length) Slot.unset).toArray = ls at hl ⊢
  have hl : lv_has ls 2 [(0, .ref (g 0))] := hl
  have hH : HP G A s.heap (w_O8 G g V) s.heap [] := hH
  have hin8 : ∀ w ∈ u_ws RX8 TX8 31, w ∈ wsX8_unsee := fun w h => List.mem_cons_of_mem _ (List.mem_append_right _ h)
  have hF : ((V.2.1 25), (oI V 25 (0 : Int32))) = F := hF
  refine lv_aload_n hx hb dX8_unsee_0 rfl (lv_at hl 0 rfl) ?_
  refine kb_get (v := .int (V.2.1 25)) hx hb hts hin8 hown hK hH 0 rfl rfl rfl 25 (by decide) (hts (.fieldLink RX8 189 "CockWarModel" "seen" "I") (List.mem_of_getElem? (i := 1) rfl)) (fun _ h9 => h9) rfl dX8_unsee_1 ?_
  refine lv_istore_n (lv' := [(1, .int (V.2.1 25)), (0, .ref (g 0))]) hx hb dX8_unsee_4 rfl hl (by decide) rfl (fun ls hl => ?_)
  refine lv_aload_n hx hb dX8_unsee_5 rfl (lv_at hl 1 rfl) ?_
  refine lv_iconst (v := 0) hx hb dX8_unsee_6 (by decide) ?_
  refine kb_put (ty := .int) (v := .int (0 : Int32)) (WS' := (w_O8 G g (oI V 25 (0 : Int32)))) hx hb hts hin8 tyX8 tyX8_ok nmX8 hown hK hH 0 rfl rfl 25 (by decide) (hts (.fieldLink RX8 189 "CockWarModel" "seen" "I") (List.mem_of_getElem? (i := 1) rfl)) (fun _ h9 => h9) rfl (by decide +kernel) rfl rfl (Nat.le_of_ble_eq_true rfl) rfl dX8_unsee_7 (fun H locs hH => ?_)
  refine lv_iload_n hx hb dX8_unsee_10 rfl (lv_at hl 0 rfl) ?_
  subst hF
  exact kb_iret hx hb hr hH rfl rfl dX8_unsee_11 hlocks
