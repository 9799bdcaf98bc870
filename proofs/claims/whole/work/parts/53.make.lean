/-! making objects: a constructor's world is the new object alone, with all its fields at their defaults; it leaves the object with what it has made -/
def PREA (G : Ge) (WS : List va_W) (sz : Nat) (U : State) : Prop := PRE G WS sz U ∧ va_AO RX2 U
theorem kb_blindA {G : Ge} {As : List Value} {WS : List va_W} {sz : Nat} : FrameBlind (va_Pc As (PREA G WS sz)) := fun a U g mk q => by
  obtain ⟨q0, q1, q2⟩ := q
  have h := kb_blind (G := G) (As := As) (WS := WS) (sz := sz) a U g mk ⟨q0, q1⟩
  exact ⟨h.1, h.2, va_AO.moved (u := U) (U := U.calling g mk a) (Vm.Alike.refl U.vm) q2⟩
/-- addresses by number -/
def gL {α : Type} (d : α) : List α → Nat → α
  | [], _ => d
  | x :: _, 0 => x
  | _ :: t, k + 1 => gL d t k
/-- all at zero -/
def oZ : OV := (fun _ _ => 0, fun _ => 0, fun _ => 0)
abbrev CN {σ : Type} (l : Launch) (y : MethodName) (ws : List Cond) (rm : Room) (G : Ge) (ci : Nat) (fs : List Value) (ok : Nat → σ → Prop) (mk : σ → va_W) (mc ms : Nat) : Prop := ∀ a sz : Nat, Met l y ws rm (va_Pc [.ref a] (PREA G [[(a, .inr (ci, fs))]] sz)) (va_Qv (ok a) (fun g => PST G [mk g] (va_A [(a, .inr (ci, fs))] sz)) (va_A [(a, .inr (ci, fs))] sz)) mc ms (va_A [(a, .inr (ci, fs))] sz)
section KN
variable {p : Program} {l : Launch} {e : Env} {R : Room} {s : State} {m : MethodId} {args : Array Value} {below : List Frame} {meth : Method} {c : Code} {H : Heap} {locs : List Loc} {cells slots : Nat} {Q : State → Prop} {cc : ByteArray} {pc : Nat} {ls : Array Slot} {rest st0 : List Value} {G : Ge} {A : Nat → Prop} {WS : List va_W} {a : Nat} {av : Array Value}
theorem kb_preA {ci : Nat} {fs : List Value} (hH : HP G A s.heap WS H locs) (hK : va_K G.1 vwCl (TY G) s) (hN : NW s) (hO : va_AO RX2 s) (i : Nat) (hB : WS[i]? = some [(a, .inr (ci, fs))]) : PreS s H (va_Pc [.ref a] (PREA G [[(a, .inr (ci, fs))]] H.size)) [.ref a] := by
  have h := kb_sub hH [i] (Wc := [[(a, .inr (ci, fs))]]) (by simp [hB]) (by simp [va_nd])
  exact ⟨kb_blindA, fun U hU hW => ⟨rfl, ⟨by rw [hU], by rw [hU]; exact h.1, va_K.moved hW.alike hK, h.2, kb_NW_warm hW hN⟩, va_AO.moved hW.alike hO⟩⟩
theorem kb_cn {σ : Type} {ok : σ → Prop} {mk : σ → va_W} {mc ms : Nat} (hH : HP G A s.heap WS H locs) (hA : ∀ q, s.heap.size ≤ q → A q) (i : Nat) {ci : Nat} {fs : List Value} (hB : WS[i]? = some [(a, .inr (ci, fs))])
    (hr : va_Run p l e R s m args below meth c H locs cells slots mc ms (F0 m pc ls st0) rest (va_Qv ok (fun g => PST G [mk g] (va_A [(a, .inr (ci, fs))] H.size)) (va_A [(a, .inr (ci, fs))] H.size) av) (va_A [(a, .inr (ci, fs))] H.size))
    (kk : ∀ (g : σ) (H1 : Heap) (locs1 : List Loc), ok g → HP G A s.heap (WS.set i (mk g)) H1 locs1 → W p l e R s m args below meth c H1 locs1 (cells + mc) (slots + ms) Q (F0 m (pc + 3) ls rest)) : W p l e R s m args below meth c H locs cells slots Q (F0 m pc ls st0) := by
  have hc : [i].map (fun i => WS[i]?) = [[((a, .inr (ci, fs)) : Nat × va_E)]].map some := by simp [hB]
  have hF : ∀ q, va_A [((a, .inr (ci, fs)) : Nat × va_E)] H.size q → A q := kb_free hH hA [i] hc (by simp [va_nd])
  refine va_callv hr hH.2.2 (fun q _ h => hF q h) hF (fun u t H1 locs1 ht hvm hw hB2 hz1 hk1 hS => ?_)
  obtain ⟨hP1, hD1⟩ := hB2
  rw [ht] at hP1
  have hj := kb_join (Wc := [[((a, .inr (ci, fs)) : Nat × va_E)]]) (Wc' := [mk u]) hH [i] hc (by simp [va_nd]) rfl hk1 hF hP1 hD1
  exact kk u H1 locs1 hw ⟨hj.1, hj.2, hS⟩
theorem kb_putF (hx : p.tables.exec = Jvm.exec) (hb : c.code = cc) {own ref C : String} {T : u_T} {N ci index : Nat} {Ts : List Cond} (hts : ∀ w ∈ Ts, w.before args s = true) (hin : ∀ w ∈ u_ws C T N, w ∈ Ts) (ty0 : Nat → FieldType) (hty : ∀ k, k < N → parseFieldDescriptor (T k).2.2.1 = some (ty0 k)) (hnm : ∀ a, a < N → ∀ b, b < N → a ≠ b → (T a).2.1 ≠ (T b).2.1) (hown : s.vm.findClass own = some m.cls) (hK : va_K G.1 vwCl (TY G) s) (hH : HP G A s.heap WS H locs) (i : Nat) {fs : List Value} (hB : WS[i]? = some [(a, .inr (ci, fs))]) (hc : vwCl[ci]? = some (C, T, N)) (k : Nat) (hk : k < N) (hlink : (Cond.fieldLink own index ref (T k).2.1 (T k).2.2.1).before args s = true) (hsame : ∀ x, s.fieldFound? (T k).1 (T k).2.1 (T k).2.2.1 = some x → s.fieldFound? ref (T k).2.1 (T k).2.2.1 = some x) (hfin : (T k).2.2.2 = true) (hin2 : meth.name = "<init>") (hdecl : (T k).1 = own) {ty : FieldType} {v : Value} (hd : parseFieldDescriptor (T k).2.2.1 = some ty) (hn : narrow ty v = v) (hfit : fits ty v = true) (hl : k < fs.length) {WS' : List va_W} (hW' : WS.set i [(a, .inr (ci, fs.set k v))] = WS')
    (hdg : decode cc pc = .ok (.putfield index, 3)) (kk : ∀ (H1 : Heap) (locs1 : List Loc), HP G A s.heap WS' H1 locs1 → W p l e R s m args below meth c H1 locs1 cells slots Q (F0 m (pc + 3) ls rest)) : W p l e R s m args below meth c H locs cells slots Q (F0 m pc ls (v :: .ref a :: rest)) := by
  obtain ⟨z, hz⟩ := kb_at hH i hB 0 rfl
  refine va_putF hx hb hts hin ty0 hty hnm hown hK hH.1 hH.2.1 hH.2.2 z hz hc k hk hlink hsame hfin hin2 hdecl hd hn hfit hl hdg (fun H1 locs1 hP hD hS => ?_)
  have h := kb_setp hz i hB hH.2.1 hP hD
  rw [hW'] at h
  exact kk H1 locs1 ⟨h.1, h.2, hS⟩
theorem kb_newi (hx : p.tables.exec = Jvm.exec) (hb : c.code = cc) (harr : (Cond.arrayClass .int).before args s = true) (hK : va_K G.1 vwCl (TY G) s) (hH : HP G A s.heap WS H locs) (hA : ∀ q, s.heap.size ≤ q → A q) {n : Int32} {N' : Nat} (hn : ¬ n < 0) (hN : n.toNatClampNeg = N') (hbytes : N' * componentBytes .int ≤ 536870912) (hcells : cells + 1 ≤ R.cells) (hslots : slots + N' ≤ R.slots) (hdg : decode cc pc = .ok (.newarray .int, 2))
    (kk : ∀ (q : Nat) (H1 : Heap), HP G A s.heap (WS ++ [b_arr G q N' (fun _ => 0)]) H1 locs → W p l e R s m args below meth c H1 locs (cells + 1) (slots + N') Q (F0 m (pc + 2) ls (.ref q :: rest))) : W p l e R s m args below meth c H locs cells slots Q (F0 m pc ls (.int n :: rest)) := by
  refine va_newa (atype := .int) (ty := .int) (a0 := (N', .inl (fun _ => 0))) hx hb harr rfl hK hH.1 hH.2.1 hH.2.2 hA (fun _ => rfl) hn hN hbytes hcells hslots hdg (fun q cA H1 hK1 hP hD hS => ?_)
  have e1 := (hK1.2 3 (cA, .int) rfl).2
  have e2 := (hK.2 0 (G.2.1, .int) rfl).2
  dsimp only [va_RA] at e1 e2
  have e : cA = G.2.1 := Option.some.inj (e1.symm.trans e2)
  subst e
  refine kk q H1 ⟨?_, ?_, hS⟩
  · rw [List.flatten_append]; exact hP
  · rw [List.flatten_append]; exact hD
theorem kb_newz (hx : p.tables.exec = Jvm.exec) (hb : c.code = cc) (harr : (Cond.arrayClass .boolean).before args s = true) (hK : va_K G.1 vwCl (TY G) s) (hH : HP G A s.heap WS H locs) (hA : ∀ q, s.heap.size ≤ q → A q) {n : Int32} {N' : Nat} (hn : ¬ n < 0) (hN : n.toNatClampNeg = N') (hbytes : N' * componentBytes .boolean ≤ 536870912) (hcells : cells + 1 ≤ R.cells) (hslots : slots + N' ≤ R.slots) (hdg : decode cc pc = .ok (.newarray .boolean, 2))
    (kk : ∀ (q : Nat) (H1 : Heap), HP G A s.heap (WS ++ [b_zarr G q N' (fun _ => 0)]) H1 locs → W p l e R s m args below meth c H1 locs (cells + 1) (slots + N') Q (F0 m (pc + 2) ls (.ref q :: rest))) : W p l e R s m args below meth c H locs cells slots Q (F0 m pc ls (.int n :: rest)) := by
  refine va_newa (atype := .boolean) (ty := .boolean) (a0 := (N', .inl (fun _ => 0))) hx hb harr rfl hK hH.1 hH.2.1 hH.2.2 hA (fun _ => rfl) hn hN hbytes hcells hslots hdg (fun q cA H1 hK1 hP hD hS => ?_)
  have e1 := (hK1.2 3 (cA, .boolean) rfl).2
  have e2 := (hK.2 1 (G.2.2.1, .boolean) rfl).2
  dsimp only [va_RA] at e1 e2
  have e : cA = G.2.2.1 := Option.some.inj (e1.symm.trans e2)
  subst e
  refine kk q H1 ⟨?_, ?_, hS⟩
  · rw [List.flatten_append]; exact hP
  · rw [List.flatten_append]; exact hD
theorem kb_newr (hx : p.tables.exec = Jvm.exec) (hb : c.code = cc) {own : String} {index : Nat} (hown : s.vm.findClass own = some m.cls) (hclink : (Cond.classLink own index RX2).before args s = true) (hover : va_AO RX2 s) (hK : va_K G.1 vwCl (TY G) s) (hH : HP G A s.heap WS H locs) (hA : ∀ q, s.heap.size ≤ q → A q) {n : Int32} {N' : Nat} (hn : ¬ n < 0) (hN : n.toNatClampNeg = N') (hbytes : N' * 4 ≤ 536870912) (hcells : cells + 1 ≤ R.cells) (hslots : slots + N' ≤ R.slots) (hdg : decode cc pc = .ok (.anewarray index, 3))
    (kk : ∀ (q : Nat) (H1 : Heap), HP G A s.heap (WS ++ [[(q, .inl (G.2.2.2, N', .inr (.inr (.inr (.inr (fun _ => none))))))]]) H1 locs → W p l e R s m args below meth c H1 locs (cells + 1) (slots + N') Q (F0 m (pc + 3) ls (.ref q :: rest))) : W p l e R s m args below meth c H locs cells slots Q (F0 m pc ls (.int n :: rest)) := by
  refine va_newq (C := RX2) hx hb hown hclink hover hK hH.1 hH.2.1 hH.2.2 hA hn hN hbytes hcells hslots hdg (fun q cA H1 hK1 hP hD hS => ?_)
  obtain ⟨_, _, _, _, _, e1⟩ := (hK1.2 3 (cA, .object RX2) rfl).2
  obtain ⟨_, _, _, _, _, e2⟩ := (hK.2 2 (G.2.2.2, .object RX2) rfl).2
  have e : cA = G.2.2.2 := Option.some.inj (e1.symm.trans e2)
  subst e
  refine kk q H1 ⟨?_, ?_, hS⟩
  · rw [List.flatten_append]; exact hP
  · rw [List.flatten_append]; exact hD
theorem kb_newo (hx : p.tables.exec = Jvm.exec) (hb : c.code = cc) {own C : String} {T : u_T} {N ci index : Nat} {Ts : List Cond} (hts : ∀ w ∈ Ts, w.before args s = true) (hin : ∀ w ∈ u_ws C T N, w ∈ Ts) (ty : Nat → FieldType) (hty : ∀ k, k < N → parseFieldDescriptor (T k).2.2.1 = some (ty k)) (hown : s.vm.findClass own = some m.cls) (hcl : (Cond.classLink own index C).before args s = true) (hinst : (Cond.instantiable C N).before args s = true) (hini : (Cond.initialized C).before args s = true)
    (hK : va_K G.1 vwCl (TY G) s) (hH : HP G A s.heap WS H locs) (hA : ∀ q, s.heap.size ≤ q → A q) (hc : vwCl[ci]? = some (C, T, N)) {fs : List Value} (hfs : ∀ j, j < N → defaultValue (ty j) = vp_V fs j) (hcells : cells + 1 ≤ R.cells) (hslots : slots + N ≤ R.slots) (hdg : decode cc pc = .ok (.new index, 3))
    (kk : ∀ (q : Nat) (H1 : Heap), HP G A s.heap (WS ++ [[(q, .inr (ci, fs))]]) H1 locs → W p l e R s m args below meth c H1 locs (cells + 1) (slots + N) Q (F0 m (pc + 3) ls (.ref q :: rest))) : W p l e R s m args below meth c H locs cells slots Q (F0 m pc ls rest) := by
  refine va_new hx hb hts hin ty hty hown hcl hinst hini hK hH.1 hH.2.1 hH.2.2 hA hc hfs hcells hslots hdg (fun q H1 hP hD hS => ?_)
  refine kk q H1 ⟨?_, ?_, hS⟩
  · rw [List.flatten_append]; exact hP
  · rw [List.flatten_append]; exact hD
theorem kb_aast (hx : p.tables.exec = Jvm.exec) (hb : c.code = cc) (hK : va_K G.1 vwCl (TY G) s) (hH : HP G A s.heap WS H locs) (i k : Nat) {n v : Nat} {f : Nat → Option Nat} (hB : WS[i]? = some [(a, .inl (G.2.2.2, n, .inr (.inr (.inr (.inr f)))))]) {B : va_W} (hBk : WS[k]? = some B) {vs : List Value} (hv : B[0]? = some (v, .inr (2, vs))) {x : Int32} (hin : vp_in x n) {WS' : List va_W} (hW' : WS.set i [(a, .inl (G.2.2.2, n, .inr (.inr (.inr (.inr (va_up f x.toNatClampNeg (some v)))))))] = WS') (hdg : decode cc pc = .ok (.aastore, 1))
    (kk : ∀ (H1 : Heap) (locs1 : List Loc), HP G A s.heap WS' H1 locs1 → W p l e R s m args below meth c H1 locs1 cells slots Q (F0 m (pc + 1) ls rest)) : W p l e R s m args below meth c H locs cells slots Q (F0 m pc ls (.ref v :: .int x :: .ref a :: rest)) := by
  obtain ⟨z, hz⟩ := kb_at hH i hB 0 rfl
  obtain ⟨zk, hzk⟩ := kb_at hH k hBk 0 hv
  refine va_astq (r := (RX2, TX2, 11)) hx hb hK hH.1 hH.2.1 hH.2.2 z 2 zk 2 hz rfl hzk rfl hin hdg (fun H1 locs1 hP hD hS => ?_)
  have h := kb_setp hz i hB hH.2.1 hP hD
  rw [hW'] at h
  exact kk H1 locs1 ⟨h.1, h.2, hS⟩
theorem kb_nret {σ : Type} {ok : σ → Prop} {mk : σ → va_W} (g : σ) (hx : p.tables.exec = Jvm.exec) (hb : c.code = cc) (hr : meth.sig.returnType = none) (hH : HP G A s.heap WS H locs) (hW : WS.flatten = mk g) (hg : ok g) (hdg : decode cc pc = .ok (.return_, 1)) (hlocks : meth.locks = false) :
    W p l e R s m args below meth c H locs cells slots (MQ below (va_Qv ok (fun g => PST G [mk g] A) A) args s cells slots A) (F0 m pc ls []) := by
  have h : HP G A s.heap [mk g] H locs := kb_perm (by simp [hW]) hH
  exact W.vret hx hb hr (fun t ht hW => ⟨⟨g, rfl, hg, by rw [ht]; exact h.1, h.2.1⟩, h.2.2.F ht⟩) h.2.2.2.2 hdg hlocks
end KN
theorem kb_arrq {G : Ge} {A : Nat → Prop} {H0 H : Heap} {WS : List va_W} {locs : List Loc} {a n : Nat} {cA : ClassId} {f f' : Nat → Option Nat} (i : Nat) (hB : WS[i]? = some [(a, .inl (cA, n, .inr (.inr (.inr (.inr f)))))]) (hf : ∀ j, j < n → f j = f' j) (hH : HP G A H0 WS H locs) : HP G A H0 (WS.set i [(a, .inl (cA, n, .inr (.inr (.inr (.inr f')))))]) H locs := by
  obtain ⟨z, hz⟩ := kb_at hH i hB 0 rfl
  have h0 : H[a]? = some (vp_cell cA (n, .inr (.inr (.inr (.inr f))))) := hH.1 z _ hz
  have e : vp_cell cA (n, .inr (.inr (.inr (.inr f)))) = vp_cell cA (n, .inr (.inr (.inr (.inr f')))) := by
    rw [vp_cell_q, vp_cell_q]
    unfold arrV
    have : (fun j : Fin n => va_rf (f j.val)) = (fun j : Fin n => va_rf (f' j.val)) := by funext j; rw [hf j.val j.isLt]
    rw [this]
  rw [e] at h0
  have h := kb_setp hz i hB hH.2.1 (hH.1.set (e := .inl (cA, n, .inr (.inr (.inr (.inr f'))))) hH.2.1 hz h0 (fun _ _ => rfl)) (hH.2.1.set hz)
  exact ⟨h.1, h.2, hH.2.2⟩
theorem kb_hset {G : Ge} {i : Nat} {gh : Nat → Nat → Nat} {g : Nat → Nat} {VH : Nat → OV} : b_hills G (i + 1) (va_up gh i g) VH = b_hills G i gh VH ++ (w_O2 G g (VH i)).flatten := by
  unfold b_hills
  rw [List.range_succ, List.flatMap_append]
  congr 1
  · rw [List.flatMap_def, List.flatMap_def]
    congr 1
    refine List.map_congr_left (fun j hj => ?_)
    rw [va_up_ne _ _ (Nat.ne_of_lt (List.mem_range.mp hj))]
  · simp [va_up_self]
theorem hd_X2_init : yX2_init.cls ≠ "java/lang/invoke/MethodHandle" ∧ yX2_init.cls ≠ "java/lang/invoke/VarHandle" ∧ (parseMethodDescriptor yX2_init.desc).map (fun d => d.parameters.length) = some 0 := by decide +kernel
theorem hd_X1_init : yX1_init.cls ≠ "java/lang/invoke/MethodHandle" ∧ yX1_init.cls ≠ "java/lang/invoke/VarHandle" ∧ (parseMethodDescriptor yX1_init.desc).map (fun d => d.parameters.length) = some 0 := by decide +kernel
theorem hd_X5_init : yX5_init.cls ≠ "java/lang/invoke/MethodHandle" ∧ yX5_init.cls ≠ "java/lang/invoke/VarHandle" ∧ (parseMethodDescriptor yX5_init.desc).map (fun d => d.parameters.length) = some 0 := by decide +kernel
theorem hd_X8_init : yX8_init.cls ≠ "java/lang/invoke/MethodHandle" ∧ yX8_init.cls ≠ "java/lang/invoke/VarHandle" ∧ (parseMethodDescriptor yX8_init.desc).map (fun d => d.parameters.length) = some 0 := by decide +kernel
theorem hd_X4_init : yX4_init.cls ≠ "java/lang/invoke/MethodHandle" ∧ yX4_init.cls ≠ "java/lang/invoke/VarHandle" ∧ (parseMethodDescriptor yX4_init.desc).map (fun d => d.parameters.length) = some 0 := by decide +kernel
theorem hd_X3_init : yX3_init.cls ≠ "java/lang/invoke/MethodHandle" ∧ yX3_init.cls ≠ "java/lang/invoke/VarHandle" ∧ (parseMethodDescriptor yX3_init.desc).map (fun d => d.parameters.length) = some 0 := by decide +kernel
theorem hd_X0_init : yX0_init.cls ≠ "java/lang/invoke/MethodHandle" ∧ yX0_init.cls ≠ "java/lang/invoke/VarHandle" ∧ (parseMethodDescriptor yX0_init.desc).map (fun d => d.parameters.length) = some 0 := by decide +kernel
theorem hd_X6_init : yX6_init.cls ≠ "java/lang/invoke/MethodHandle" ∧ yX6_init.cls ≠ "java/lang/invoke/VarHandle" ∧ (parseMethodDescriptor yX6_init.desc).map (fun d => d.parameters.length) = some 0 := by decide +kernel
theorem hd_X7_init : yX7_init.cls ≠ "java/lang/invoke/MethodHandle" ∧ yX7_init.cls ≠ "java/lang/invoke/VarHandle" ∧ (parseMethodDescriptor yX7_init.desc).map (fun d => d.parameters.length) = some 0 := by decide +kernel
abbrev w_C7 (G : Ge) (γ : Nat → Nat → Nat) (γh : Nat → Nat → Nat → Nat) : List va_W := w_O7 G (γ 0) (γ 1 0) (γ 4 0) (γ 5 0) (γ 6 0) (γ 7 0) (γ 8 0) (γ 9 0) (γ 11 0) oZ ++ w_O4 G (γ 1) (γ 2 0) (γ 3 0) oZ ++ w_O2 G (γ 2) oZ ++ w_O1 G (γ 3) oZ ++ w_O2 G (γ 4) oZ ++ w_O1 G (γ 5) oZ ++ w_O0 G (γ 6) (γh 0) oZ (fun _ => oZ) ++ w_O5 G (γ 7) oZ ++ w_O6 G (γ 8) (γh 1) oZ (fun _ => oZ) ++ w_O3 G (γ 9) (γ 10 0) oZ ++ w_O2 G (γ 10) oZ ++ w_O2 G (γ 11) oZ
set_option maxHeartbeats 4000000 in
set_option maxRecDepth 100000 in
theorem c_X2_init (l : Launch) (G : Ge) : CN (σ := (Nat → Nat)) l yX2_init wsX2_init { frames := 1, cells := 5, slots := 34, locals := 12 } G 2 [.null, .null, .null, .null, .null, .int 0, .int 0, .int 0, .int 0, .int 0, .int 0] (fun a g => g 0 = a) (fun g => (w_O2 G g oZ).flatten) 5 34 := by
  intro a sz
  refine Met.ofW (cc := cX2_init) (maxL := 1) (ret := none) (by decide) rfl ?_
  intro p e s m args below meth c s₁ B hml hv
  obtain ⟨rfl, hpre, hO⟩ := hv
  obtain ⟨hsz, hH, hK, hN, hA⟩ := kb_start hpre
  subst hsz
  have hx := B.exec
  have hb := B.bytes
  have hr := B.returns
  have hts := atoms_spec (ws := wsX2_init) B.pre
  have hown : s.vm.findClass RX2 = some m.cls := findClass_of_methodNamed B.named
  have hlocks := B.notSynchronized
  have hin : meth.name = "<init>" := (name_of_methodNamed B.named B.method).1
  have hH : HP G (va_A [(a, .inr (2, [.null, .null, .null, .null, .null, .int 0, .int 0, .int 0, .int 0, .int 0, .int 0]))] s.heap.size) s.heap [[(a, .inr (2, [.null, .null, .null, .null, .null, .int 0, .int 0, .int 0, .int 0, .int 0, .int 0]))]] s.heap [] := hH
  have hA : ∀ q, s.heap.size ≤ q → va_A [(a, .inr (2, [.null, .null, .null, .null, .null, .int 0, .int 0, .int 0, .int 0, .int 0, .int 0]))] s.heap.size q := hA
  generalize hAe : va_A [(a, .inr (2, [.null, .null, .null, .null, .null, .int 0, .int 0, .int 0, .int 0, .int 0, .int 0]))] s.heap.size = A at hH hA ⊢
  have hl := lv_entry ([.ref a]) (n := 1) (Nat.le_of_ble_eq_true rfl)
  rw [lg_entry_eq]
  generalize (lg_sl ([.ref a]) ++ List.replicate (1 - (lg_sl ([.ref a])).length) Slot.unset).toArray = ls at hl ⊢
  have hl : lv_has ls 1 [(0, .ref a)] := hl
  have hin2 : ∀ w ∈ u_ws RX2 TX2 11, w ∈ wsX2_init := fun w h => List.mem_cons_of_mem _ (List.mem_append_right _ h)
  refine lv_aload_n hx hb dX2_init_0 rfl (lv_at hl 0 rfl) ?_
  refine W.objInit hx hb hown (hts (.methodLink RX2 3 objectInit) (List.mem_of_getElem? (i := 1) rfl)) (hts (.instanceMethod objectInit) (List.mem_of_getElem? (i := 2) rfl)) (hts _ (List.mem_of_getElem? (i := 3) rfl)) rfl (by rw [hml]; exact hl.1) rfl dX2_init_1 (Nat.le_of_ble_eq_true rfl) (Nat.le_of_ble_eq_true rfl) ?_
  refine W.eq (g2 := F0 m 4 ls []) rfl ?_
  refine lv_aload_n hx hb dX2_init_4 rfl (lv_at hl 0 rfl) ?_
  refine lv_bipush (v := 10) hx hb dX2_init_5 (by decide) ?_
  refine kb_newi (N' := 10) hx hb (hts (.arrayClass .int) (List.mem_of_getElem? (i := 4) rfl)) hK hH hA (by decide) (by decide) (by decide) (Nat.le_of_ble_eq_true rfl) (Nat.le_of_ble_eq_true rfl) dX2_init_7 (fun q7 H hH => ?_)
  have hH : HP G A s.heap [[(a, .inr (2, [.null, .null, .null, .null, .null, .int 0, .int 0, .int 0, .int 0, .int 0, .int 0]))], b_arr G q7 10 (fun _ => 0)] H _ := hH
  refine kb_putF (ty := .array .int) (v := .ref q7) (WS' := [[(a, .inr (2, [.ref q7, .null, .null, .null, .null, .int 0, .int 0, .int 0, .int 0, .int 0, .int 0]))], b_arr G q7 10 (fun _ => 0)]) hx hb hts hin2 tyX2 tyX2_ok nmX2 hown hK hH 0 rfl rfl 0 (by decide) (hts (.fieldLink RX2 9 "CockWar$Hill" "trees" "[I") (List.mem_of_getElem? (i := 5) rfl)) (fun _ h9 => h9) rfl hin rfl (by decide +kernel) rfl rfl (Nat.le_of_ble_eq_true rfl) rfl dX2_init_9 (fun H locs hH => ?_)
  refine lv_aload_n hx hb dX2_init_12 rfl (lv_at hl 0 rfl) ?_
  refine lv_bipush (v := 6) hx hb dX2_init_13 (by decide) ?_
  refine kb_newi (N' := 6) hx hb (hts (.arrayClass .int) (List.mem_of_getElem? (i := 4) rfl)) hK hH hA (by decide) (by decide) (by decide) (Nat.le_of_ble_eq_true rfl) (Nat.le_of_ble_eq_true rfl) dX2_init_15 (fun q15 H hH => ?_)
  have hH : HP G A s.heap [[(a, .inr (2, [.ref q7, .null, .null, .null, .null, .int 0, .int 0, .int 0, .int 0, .int 0, .int 0]))], b_arr G q7 10 (fun _ => 0), b_arr G q15 6 (fun _ => 0)] H _ := hH
  refine kb_putF (ty := .array .int) (v := .ref q15) (WS' := [[(a, .inr (2, [.ref q7, .ref q15, .null, .null, .null, .int 0, .int 0, .int 0, .int 0, .int 0, .int 0]))], b_arr G q7 10 (fun _ => 0), b_arr G q15 6 (fun _ => 0)]) hx hb hts hin2 tyX2 tyX2_ok nmX2 hown hK hH 0 rfl rfl 1 (by decide) (hts (.fieldLink RX2 15 "CockWar$Hill" "cells" "[I") (List.mem_of_getElem? (i := 6) rfl)) (fun _ h9 => h9) rfl hin rfl (by decide +kernel) rfl rfl (Nat.le_of_ble_eq_true rfl) rfl dX2_init_17 (fun H locs hH => ?_)
  refine lv_aload_n hx hb dX2_init_20 rfl (lv_at hl 0 rfl) ?_
  refine lv_bipush (v := 6) hx hb dX2_init_21 (by decide) ?_
  refine kb_newi (N' := 6) hx hb (hts (.arrayClass .int) (List.mem_of_getElem? (i := 4) rfl)) hK hH hA (by decide) (by decide) (by decide) (Nat.le_of_ble_eq_true rfl) (Nat.le_of_ble_eq_true rfl) dX2_init_23 (fun q23 H hH => ?_)
  have hH : HP G A s.heap [[(a, .inr (2, [.ref q7, .ref q15, .null, .null, .null, .int 0, .int 0, .int 0, .int 0, .int 0, .int 0]))], b_arr G q7 10 (fun _ => 0), b_arr G q15 6 (fun _ => 0), b_arr G q23 6 (fun _ => 0)] H _ := hH
  refine kb_putF (ty := .array .int) (v := .ref q23) (WS' := [[(a, .inr (2, [.ref q7, .ref q15, .ref q23, .null, .null, .int 0, .int 0, .int 0, .int 0, .int 0, .int 0]))], b_arr G q7 10 (fun _ => 0), b_arr G q15 6 (fun _ => 0), b_arr G q23 6 (fun _ => 0)]) hx hb hts hin2 tyX2 tyX2_ok nmX2 hown hK hH 0 rfl rfl 2 (by decide) (hts (.fieldLink RX2 18 "CockWar$Hill" "heights" "[I") (List.mem_of_getElem? (i := 7) rfl)) (fun _ h9 => h9) rfl hin rfl (by decide +kernel) rfl rfl (Nat.le_of_ble_eq_true rfl) rfl dX2_init_25 (fun H locs hH => ?_)
  refine lv_aload_n hx hb dX2_init_28 rfl (lv_at hl 0 rfl) ?_
  refine lv_bipush (v := 6) hx hb dX2_init_29 (by decide) ?_
  refine kb_newi (N' := 6) hx hb (hts (.arrayClass .int) (List.mem_of_getElem? (i := 4) rfl)) hK hH hA (by decide) (by decide) (by decide) (Nat.le_of_ble_eq_true rfl) (Nat.le_of_ble_eq_true rfl) dX2_init_31 (fun q31 H hH => ?_)
  have hH : HP G A s.heap [[(a, .inr (2, [.ref q7, .ref q15, .ref q23, .null, .null, .int 0, .int 0, .int 0, .int 0, .int 0, .int 0]))], b_arr G q7 10 (fun _ => 0), b_arr G q15 6 (fun _ => 0), b_arr G q23 6 (fun _ => 0), b_arr G q31 6 (fun _ => 0)] H _ := hH
  refine kb_putF (ty := .array .int) (v := .ref q31) (WS' := [[(a, .inr (2, [.ref q7, .ref q15, .ref q23, .ref q31, .null, .int 0, .int 0, .int 0, .int 0, .int 0, .int 0]))], b_arr G q7 10 (fun _ => 0), b_arr G q15 6 (fun _ => 0), b_arr G q23 6 (fun _ => 0), b_arr G q31 6 (fun _ => 0)]) hx hb hts hin2 tyX2 tyX2_ok nmX2 hown hK hH 0 rfl rfl 3 (by decide) (hts (.fieldLink RX2 21 "CockWar$Hill" "rusts" "[I") (List.mem_of_getElem? (i := 8) rfl)) (fun _ h9 => h9) rfl hin rfl (by decide +kernel) rfl rfl (Nat.le_of_ble_eq_true rfl) rfl dX2_init_33 (fun H locs hH => ?_)
  refine lv_aload_n hx hb dX2_init_36 rfl (lv_at hl 0 rfl) ?_
  refine lv_bipush (v := 6) hx hb dX2_init_37 (by decide) ?_
  refine kb_newi (N' := 6) hx hb (hts (.arrayClass .int) (List.mem_of_getElem? (i := 4) rfl)) hK hH hA (by decide) (by decide) (by decide) (Nat.le_of_ble_eq_true rfl) (Nat.le_of_ble_eq_true rfl) dX2_init_39 (fun q39 H hH => ?_)
  have hH : HP G A s.heap [[(a, .inr (2, [.ref q7, .ref q15, .ref q23, .ref q31, .null, .int 0, .int 0, .int 0, .int 0, .int 0, .int 0]))], b_arr G q7 10 (fun _ => 0), b_arr G q15 6 (fun _ => 0), b_arr G q23 6 (fun _ => 0), b_arr G q31 6 (fun _ => 0), b_arr G q39 6 (fun _ => 0)] H _ := hH
  refine kb_putF (ty := .array .int) (v := .ref q39) (WS' := [[(a, .inr (2, [.ref q7, .ref q15, .ref q23, .ref q31, .ref q39, .int 0, .int 0, .int 0, .int 0, .int 0, .int 0]))], b_arr G q7 10 (fun _ => 0), b_arr G q15 6 (fun _ => 0), b_arr G q23 6 (fun _ => 0), b_arr G q31 6 (fun _ => 0), b_arr G q39 6 (fun _ => 0)]) hx hb hts hin2 tyX2 tyX2_ok nmX2 hown hK hH 0 rfl rfl 4 (by decide) (hts (.fieldLink RX2 24 "CockWar$Hill" "weights" "[I") (List.mem_of_getElem? (i := 9) rfl)) (fun _ h9 => h9) rfl hin rfl (by decide +kernel) rfl rfl (Nat.le_of_ble_eq_true rfl) rfl dX2_init_41 (fun H locs hH => ?_)
  refine kb_nret (gL 0 [a, q7, q15, q23, q31, q39, 0, 0, 0, 0, 0, 0]) hx hb hr hH ?_ rfl dX2_init_44 hlocks
  rfl
set_option maxHeartbeats 4000000 in
set_option maxRecDepth 100000 in
theorem c_X1_init (l : Launch) (G : Ge) : CN (σ := (Nat → Nat)) l yX1_init wsX1_init { frames := 1, cells := 3, slots := 12, locals := 12 } G 1 [.null, .null, .null, .int 0] (fun a g => g 0 = a) (fun g => (w_O1 G g oZ).flatten) 3 12 := by
  intro a sz
  refine Met.ofW (cc := cX1_init) (maxL := 1) (ret := none) (by decide) rfl ?_
  intro p e s m args below meth c s₁ B hml hv
  obtain ⟨rfl, hpre, hO⟩ := hv
  obtain ⟨hsz, hH, hK, hN, hA⟩ := kb_start hpre
  subst hsz
  have hx := B.exec
  have hb := B.bytes
  have hr := B.returns
  have hts := atoms_spec (ws := wsX1_init) B.pre
  have hown : s.vm.findClass RX1 = some m.cls := findClass_of_methodNamed B.named
  have hlocks := B.notSynchronized
  have hin : meth.name = "<init>" := (name_of_methodNamed B.named B.method).1
  have hH : HP G (va_A [(a, .inr (1, [.null, .null, .null, .int 0]))] s.heap.size) s.heap [[(a, .inr (1, [.null, .null, .null, .int 0]))]] s.heap [] := hH
  have hA : ∀ q, s.heap.size ≤ q → va_A [(a, .inr (1, [.null, .null, .null, .int 0]))] s.heap.size q := hA
  generalize hAe : va_A [(a, .inr (1, [.null, .null, .null, .int 0]))] s.heap.size = A at hH hA ⊢
  have hl := lv_entry ([.ref a]) (n := 1) (Nat.le_of_ble_eq_true rfl)
  rw [lg_entry_eq]
  generalize (lg_sl ([.ref a]) ++ List.replicate (1 - (lg_sl ([.ref a])).length) Slot.unset).toArray = ls at hl ⊢
  have hl : lv_has ls 1 [(0, .ref a)] := hl
  have hin1 : ∀ w ∈ u_ws RX1 TX1 4, w ∈ wsX1_init := fun w h => List.mem_cons_of_mem _ (List.mem_append_right _ h)
  refine lv_aload_n hx hb dX1_init_0 rfl (lv_at hl 0 rfl) ?_
  refine W.objInit hx hb hown (hts (.methodLink RX1 3 objectInit) (List.mem_of_getElem? (i := 1) rfl)) (hts (.instanceMethod objectInit) (List.mem_of_getElem? (i := 2) rfl)) (hts _ (List.mem_of_getElem? (i := 3) rfl)) rfl (by rw [hml]; exact hl.1) rfl dX1_init_1 (Nat.le_of_ble_eq_true rfl) (Nat.le_of_ble_eq_true rfl) ?_
  refine W.eq (g2 := F0 m 4 ls []) rfl ?_
  refine lv_aload_n hx hb dX1_init_4 rfl (lv_at hl 0 rfl) ?_
  refine lv_iconst (v := 4) hx hb dX1_init_5 (by decide) ?_
  refine kb_newi (N' := 4) hx hb (hts (.arrayClass .int) (List.mem_of_getElem? (i := 4) rfl)) hK hH hA (by decide) (by decide) (by decide) (Nat.le_of_ble_eq_true rfl) (Nat.le_of_ble_eq_true rfl) dX1_init_6 (fun q6 H hH => ?_)
  have hH : HP G A s.heap [[(a, .inr (1, [.null, .null, .null, .int 0]))], b_arr G q6 4 (fun _ => 0)] H _ := hH
  refine kb_putF (ty := .array .int) (v := .ref q6) (WS' := [[(a, .inr (1, [.ref q6, .null, .null, .int 0]))], b_arr G q6 4 (fun _ => 0)]) hx hb hts hin1 tyX1 tyX1_ok nmX1 hown hK hH 0 rfl rfl 0 (by decide) (hts (.fieldLink RX1 9 "CockWar$Air" "goals" "[I") (List.mem_of_getElem? (i := 5) rfl)) (fun _ h9 => h9) rfl hin rfl (by decide +kernel) rfl rfl (Nat.le_of_ble_eq_true rfl) rfl dX1_init_8 (fun H locs hH => ?_)
  refine lv_aload_n hx hb dX1_init_11 rfl (lv_at hl 0 rfl) ?_
  refine lv_iconst (v := 4) hx hb dX1_init_12 (by decide) ?_
  refine kb_newi (N' := 4) hx hb (hts (.arrayClass .int) (List.mem_of_getElem? (i := 4) rfl)) hK hH hA (by decide) (by decide) (by decide) (Nat.le_of_ble_eq_true rfl) (Nat.le_of_ble_eq_true rfl) dX1_init_13 (fun q13 H hH => ?_)
  have hH : HP G A s.heap [[(a, .inr (1, [.ref q6, .null, .null, .int 0]))], b_arr G q6 4 (fun _ => 0), b_arr G q13 4 (fun _ => 0)] H _ := hH
  refine kb_putF (ty := .array .int) (v := .ref q13) (WS' := [[(a, .inr (1, [.ref q6, .ref q13, .null, .int 0]))], b_arr G q6 4 (fun _ => 0), b_arr G q13 4 (fun _ => 0)]) hx hb hts hin1 tyX1 tyX1_ok nmX1 hown hK hH 0 rfl rfl 1 (by decide) (hts (.fieldLink RX1 15 "CockWar$Air" "strengths" "[I") (List.mem_of_getElem? (i := 6) rfl)) (fun _ h9 => h9) rfl hin rfl (by decide +kernel) rfl rfl (Nat.le_of_ble_eq_true rfl) rfl dX1_init_15 (fun H locs hH => ?_)
  refine lv_aload_n hx hb dX1_init_18 rfl (lv_at hl 0 rfl) ?_
  refine lv_iconst (v := 4) hx hb dX1_init_19 (by decide) ?_
  refine kb_newi (N' := 4) hx hb (hts (.arrayClass .int) (List.mem_of_getElem? (i := 4) rfl)) hK hH hA (by decide) (by decide) (by decide) (Nat.le_of_ble_eq_true rfl) (Nat.le_of_ble_eq_true rfl) dX1_init_20 (fun q20 H hH => ?_)
  have hH : HP G A s.heap [[(a, .inr (1, [.ref q6, .ref q13, .null, .int 0]))], b_arr G q6 4 (fun _ => 0), b_arr G q13 4 (fun _ => 0), b_arr G q20 4 (fun _ => 0)] H _ := hH
  refine kb_putF (ty := .array .int) (v := .ref q20) (WS' := [[(a, .inr (1, [.ref q6, .ref q13, .ref q20, .int 0]))], b_arr G q6 4 (fun _ => 0), b_arr G q13 4 (fun _ => 0), b_arr G q20 4 (fun _ => 0)]) hx hb hts hin1 tyX1 tyX1_ok nmX1 hown hK hH 0 rfl rfl 2 (by decide) (hts (.fieldLink RX1 18 "CockWar$Air" "days" "[I") (List.mem_of_getElem? (i := 7) rfl)) (fun _ h9 => h9) rfl hin rfl (by decide +kernel) rfl rfl (Nat.le_of_ble_eq_true rfl) rfl dX1_init_22 (fun H locs hH => ?_)
  refine kb_nret (gL 0 [a, q6, q13, q20, 0]) hx hb hr hH ?_ rfl dX1_init_25 hlocks
  rfl
set_option maxHeartbeats 4000000 in
set_option maxRecDepth 100000 in
theorem c_X5_init (l : Launch) (G : Ge) : CN (σ := (Nat → Nat)) l yX5_init wsX5_init { frames := 1, cells := 2, slots := 12, locals := 12 } G 5 [.null, .null, .int 0] (fun a g => g 0 = a) (fun g => (w_O5 G g oZ).flatten) 2 12 := by
  intro a sz
  refine Met.ofW (cc := cX5_init) (maxL := 1) (ret := none) (by decide) rfl ?_
  intro p e s m args below meth c s₁ B hml hv
  obtain ⟨rfl, hpre, hO⟩ := hv
  obtain ⟨hsz, hH, hK, hN, hA⟩ := kb_start hpre
  subst hsz
  have hx := B.exec
  have hb := B.bytes
  have hr := B.returns
  have hts := atoms_spec (ws := wsX5_init) B.pre
  have hown : s.vm.findClass RX5 = some m.cls := findClass_of_methodNamed B.named
  have hlocks := B.notSynchronized
  have hin : meth.name = "<init>" := (name_of_methodNamed B.named B.method).1
  have hH : HP G (va_A [(a, .inr (5, [.null, .null, .int 0]))] s.heap.size) s.heap [[(a, .inr (5, [.null, .null, .int 0]))]] s.heap [] := hH
  have hA : ∀ q, s.heap.size ≤ q → va_A [(a, .inr (5, [.null, .null, .int 0]))] s.heap.size q := hA
  generalize hAe : va_A [(a, .inr (5, [.null, .null, .int 0]))] s.heap.size = A at hH hA ⊢
  have hl := lv_entry ([.ref a]) (n := 1) (Nat.le_of_ble_eq_true rfl)
  rw [lg_entry_eq]
  generalize (lg_sl ([.ref a]) ++ List.replicate (1 - (lg_sl ([.ref a])).length) Slot.unset).toArray = ls at hl ⊢
  have hl : lv_has ls 1 [(0, .ref a)] := hl
  have hin5 : ∀ w ∈ u_ws RX5 TX5 3, w ∈ wsX5_init := fun w h => List.mem_cons_of_mem _ (List.mem_append_right _ h)
  refine lv_aload_n hx hb dX5_init_0 rfl (lv_at hl 0 rfl) ?_
  refine W.objInit hx hb hown (hts (.methodLink RX5 3 objectInit) (List.mem_of_getElem? (i := 1) rfl)) (hts (.instanceMethod objectInit) (List.mem_of_getElem? (i := 2) rfl)) (hts _ (List.mem_of_getElem? (i := 3) rfl)) rfl (by rw [hml]; exact hl.1) rfl dX5_init_1 (Nat.le_of_ble_eq_true rfl) (Nat.le_of_ble_eq_true rfl) ?_
  refine W.eq (g2 := F0 m 4 ls []) rfl ?_
  refine lv_aload_n hx hb dX5_init_4 rfl (lv_at hl 0 rfl) ?_
  refine lv_bipush (v := 6) hx hb dX5_init_5 (by decide) ?_
  refine kb_newi (N' := 6) hx hb (hts (.arrayClass .int) (List.mem_of_getElem? (i := 4) rfl)) hK hH hA (by decide) (by decide) (by decide) (Nat.le_of_ble_eq_true rfl) (Nat.le_of_ble_eq_true rfl) dX5_init_7 (fun q7 H hH => ?_)
  have hH : HP G A s.heap [[(a, .inr (5, [.null, .null, .int 0]))], b_arr G q7 6 (fun _ => 0)] H _ := hH
  refine kb_putF (ty := .array .int) (v := .ref q7) (WS' := [[(a, .inr (5, [.ref q7, .null, .int 0]))], b_arr G q7 6 (fun _ => 0)]) hx hb hts hin5 tyX5 tyX5_ok nmX5 hown hK hH 0 rfl rfl 0 (by decide) (hts (.fieldLink RX5 9 "CockWar$Sights" "cocks" "[I") (List.mem_of_getElem? (i := 5) rfl)) (fun _ h9 => h9) rfl hin rfl (by decide +kernel) rfl rfl (Nat.le_of_ble_eq_true rfl) rfl dX5_init_9 (fun H locs hH => ?_)
  refine lv_aload_n hx hb dX5_init_12 rfl (lv_at hl 0 rfl) ?_
  refine lv_bipush (v := 6) hx hb dX5_init_13 (by decide) ?_
  refine kb_newi (N' := 6) hx hb (hts (.arrayClass .int) (List.mem_of_getElem? (i := 4) rfl)) hK hH hA (by decide) (by decide) (by decide) (Nat.le_of_ble_eq_true rfl) (Nat.le_of_ble_eq_true rfl) dX5_init_15 (fun q15 H hH => ?_)
  have hH : HP G A s.heap [[(a, .inr (5, [.ref q7, .null, .int 0]))], b_arr G q7 6 (fun _ => 0), b_arr G q15 6 (fun _ => 0)] H _ := hH
  refine kb_putF (ty := .array .int) (v := .ref q15) (WS' := [[(a, .inr (5, [.ref q7, .ref q15, .int 0]))], b_arr G q7 6 (fun _ => 0), b_arr G q15 6 (fun _ => 0)]) hx hb hts hin5 tyX5 tyX5_ok nmX5 hown hK hH 0 rfl rfl 1 (by decide) (hts (.fieldLink RX5 15 "CockWar$Sights" "ways" "[I") (List.mem_of_getElem? (i := 6) rfl)) (fun _ h9 => h9) rfl hin rfl (by decide +kernel) rfl rfl (Nat.le_of_ble_eq_true rfl) rfl dX5_init_17 (fun H locs hH => ?_)
  refine kb_nret (gL 0 [a, q7, q15, 0]) hx hb hr hH ?_ rfl dX5_init_20 hlocks
  rfl
set_option maxHeartbeats 4000000 in
set_option maxRecDepth 100000 in
theorem c_X8_init (l : Launch) (G : Ge) : CN (σ := (Nat → Nat)) l yX8_init wsX8_init { frames := 1, cells := 14, slots := 639, locals := 12 } G 8 [.int 0, .int 0, .null, .null, .null, .null, .null, .null, .null, .null, .int 0, .int 0, .int 0, .int 0, .null, .int 0, .int 0, .int 0, .int 0, .int 0, .null, .int 0, .int 0, .int 0, .int 0, .int 0, .null, .null, .long 0, .null, .null] (fun a g => g 0 = a) (fun g => (w_O8 G g oZ).flatten) 14 639 := by
  intro a sz
  refine Met.ofW (cc := cX8_init) (maxL := 1) (ret := none) (by decide) rfl ?_
  intro p e s m args below meth c s₁ B hml hv
  obtain ⟨rfl, hpre, hO⟩ := hv
  obtain ⟨hsz, hH, hK, hN, hA⟩ := kb_start hpre
  subst hsz
  have hx := B.exec
  have hb := B.bytes
  have hr := B.returns
  have hts := atoms_spec (ws := wsX8_init) B.pre
  have hown : s.vm.findClass RX8 = some m.cls := findClass_of_methodNamed B.named
  have hlocks := B.notSynchronized
  have hin : meth.name = "<init>" := (name_of_methodNamed B.named B.method).1
  have hH : HP G (va_A [(a, .inr (8, [.int 0, .int 0, .null, .null, .null, .null, .null, .null, .null, .null, .int 0, .int 0, .int 0, .int 0, .null, .int 0, .int 0, .int 0, .int 0, .int 0, .null, .int 0, .int 0, .int 0, .int 0, .int 0, .null, .null, .long 0, .null, .null]))] s.heap.size) s.heap [[(a, .inr (8, [.int 0, .int 0, .null, .null, .null, .null, .null, .null, .null, .null, .int 0, .int 0, .int 0, .int 0, .null, .int 0, .int 0, .int 0, .int 0, .int 0, .null, .int 0, .int 0, .int 0, .int 0, .int 0, .null, .null, .long 0, .null, .null]))]] s.heap [] := hH
  have hA : ∀ q, s.heap.size ≤ q → va_A [(a, .inr (8, [.int 0, .int 0, .null, .null, .null, .null, .null, .null, .null, .null, .int 0, .int 0, .int 0, .int 0, .null, .int 0, .int 0, .int 0, .int 0, .int 0, .null, .int 0, .int 0, .int 0, .int 0, .int 0, .null, .null, .long 0, .null, .null]))] s.heap.size q := hA
  generalize hAe : va_A [(a, .inr (8, [.int 0, .int 0, .null, .null, .null, .null, .null, .null, .null, .null, .int 0, .int 0, .int 0, .int 0, .null, .int 0, .int 0, .int 0, .int 0, .int 0, .null, .int 0, .int 0, .int 0, .int 0, .int 0, .null, .null, .long 0, .null, .null]))] s.heap.size = A at hH hA ⊢
  have hl := lv_entry ([.ref a]) (n := 1) (Nat.le_of_ble_eq_true rfl)
  rw [lg_entry_eq]
  generalize (lg_sl ([.ref a]) ++ List.replicate (1 - (lg_sl ([.ref a])).length) Slot.unset).toArray = ls at hl ⊢
  have hl : lv_has ls 1 [(0, .ref a)] := hl
  have hin8 : ∀ w ∈ u_ws RX8 TX8 31, w ∈ wsX8_init := fun w h => List.mem_cons_of_mem _ (List.mem_append_right _ h)
  refine lv_aload_n hx hb dX8_init_0 rfl (lv_at hl 0 rfl) ?_
  refine W.objInit hx hb hown (hts (.methodLink RX8 1 objectInit) (List.mem_of_getElem? (i := 1) rfl)) (hts (.instanceMethod objectInit) (List.mem_of_getElem? (i := 2) rfl)) (hts _ (List.mem_of_getElem? (i := 3) rfl)) rfl (by rw [hml]; exact hl.1) rfl dX8_init_1 (Nat.le_of_ble_eq_true rfl) (Nat.le_of_ble_eq_true rfl) ?_
  refine W.eq (g2 := F0 m 4 ls []) rfl ?_
  refine lv_aload_n hx hb dX8_init_4 rfl (lv_at hl 0 rfl) ?_
  refine lv_bipush (v := 6) hx hb dX8_init_5 (by decide) ?_
  refine kb_newi (N' := 6) hx hb (hts (.arrayClass .int) (List.mem_of_getElem? (i := 4) rfl)) hK hH hA (by decide) (by decide) (by decide) (Nat.le_of_ble_eq_true rfl) (Nat.le_of_ble_eq_true rfl) dX8_init_7 (fun q7 H hH => ?_)
  have hH : HP G A s.heap [[(a, .inr (8, [.int 0, .int 0, .null, .null, .null, .null, .null, .null, .null, .null, .int 0, .int 0, .int 0, .int 0, .null, .int 0, .int 0, .int 0, .int 0, .int 0, .null, .int 0, .int 0, .int 0, .int 0, .int 0, .null, .null, .long 0, .null, .null]))], b_arr G q7 6 (fun _ => 0)] H _ := hH
  refine kb_putF (ty := .array .int) (v := .ref q7) (WS' := [[(a, .inr (8, [.int 0, .int 0, .ref q7, .null, .null, .null, .null, .null, .null, .null, .int 0, .int 0, .int 0, .int 0, .null, .int 0, .int 0, .int 0, .int 0, .int 0, .null, .int 0, .int 0, .int 0, .int 0, .int 0, .null, .null, .long 0, .null, .null]))], b_arr G q7 6 (fun _ => 0)]) hx hb hts hin8 tyX8 tyX8_ok nmX8 hown hK hH 0 rfl rfl 2 (by decide) (hts (.fieldLink RX8 7 "CockWarModel" "high" "[I") (List.mem_of_getElem? (i := 5) rfl)) (fun _ h9 => h9) rfl hin rfl (by decide +kernel) rfl rfl (Nat.le_of_ble_eq_true rfl) rfl dX8_init_9 (fun H locs hH => ?_)
  refine lv_aload_n hx hb dX8_init_12 rfl (lv_at hl 0 rfl) ?_
  refine lv_bipush (v := 6) hx hb dX8_init_13 (by decide) ?_
  refine kb_newi (N' := 6) hx hb (hts (.arrayClass .int) (List.mem_of_getElem? (i := 4) rfl)) hK hH hA (by decide) (by decide) (by decide) (Nat.le_of_ble_eq_true rfl) (Nat.le_of_ble_eq_true rfl) dX8_init_15 (fun q15 H hH => ?_)
  have hH : HP G A s.heap [[(a, .inr (8, [.int 0, .int 0, .ref q7, .null, .null, .null, .null, .null, .null, .null, .int 0, .int 0, .int 0, .int 0, .null, .int 0, .int 0, .int 0, .int 0, .int 0, .null, .int 0, .int 0, .int 0, .int 0, .int 0, .null, .null, .long 0, .null, .null]))], b_arr G q7 6 (fun _ => 0), b_arr G q15 6 (fun _ => 0)] H _ := hH
  refine kb_putF (ty := .array .int) (v := .ref q15) (WS' := [[(a, .inr (8, [.int 0, .int 0, .ref q7, .ref q15, .null, .null, .null, .null, .null, .null, .int 0, .int 0, .int 0, .int 0, .null, .int 0, .int 0, .int 0, .int 0, .int 0, .null, .int 0, .int 0, .int 0, .int 0, .int 0, .null, .null, .long 0, .null, .null]))], b_arr G q7 6 (fun _ => 0), b_arr G q15 6 (fun _ => 0)]) hx hb hts hin8 tyX8 tyX8_ok nmX8 hown hK hH 0 rfl rfl 3 (by decide) (hts (.fieldLink RX8 13 "CockWarModel" "weight" "[I") (List.mem_of_getElem? (i := 6) rfl)) (fun _ h9 => h9) rfl hin rfl (by decide +kernel) rfl rfl (Nat.le_of_ble_eq_true rfl) rfl dX8_init_17 (fun H locs hH => ?_)
  refine lv_aload_n hx hb dX8_init_20 rfl (lv_at hl 0 rfl) ?_
  refine lv_bipush (v := 12) hx hb dX8_init_21 (by decide) ?_
  refine kb_newi (N' := 12) hx hb (hts (.arrayClass .int) (List.mem_of_getElem? (i := 4) rfl)) hK hH hA (by decide) (by decide) (by decide) (Nat.le_of_ble_eq_true rfl) (Nat.le_of_ble_eq_true rfl) dX8_init_23 (fun q23 H hH => ?_)
  have hH : HP G A s.heap [[(a, .inr (8, [.int 0, .int 0, .ref q7, .ref q15, .null, .null, .null, .null, .null, .null, .int 0, .int 0, .int 0, .int 0, .null, .int 0, .int 0, .int 0, .int 0, .int 0, .null, .int 0, .int 0, .int 0, .int 0, .int 0, .null, .null, .long 0, .null, .null]))], b_arr G q7 6 (fun _ => 0), b_arr G q15 6 (fun _ => 0), b_arr G q23 12 (fun _ => 0)] H _ := hH
  refine kb_putF (ty := .array .int) (v := .ref q23) (WS' := [[(a, .inr (8, [.int 0, .int 0, .ref q7, .ref q15, .ref q23, .null, .null, .null, .null, .null, .int 0, .int 0, .int 0, .int 0, .null, .int 0, .int 0, .int 0, .int 0, .int 0, .null, .int 0, .int 0, .int 0, .int 0, .int 0, .null, .null, .long 0, .null, .null]))], b_arr G q7 6 (fun _ => 0), b_arr G q15 6 (fun _ => 0), b_arr G q23 12 (fun _ => 0)]) hx hb hts hin8 tyX8 tyX8_ok nmX8 hown hK hH 0 rfl rfl 4 (by decide) (hts (.fieldLink RX8 16 "CockWarModel" "wind" "[I") (List.mem_of_getElem? (i := 7) rfl)) (fun _ h9 => h9) rfl hin rfl (by decide +kernel) rfl rfl (Nat.le_of_ble_eq_true rfl) rfl dX8_init_25 (fun H locs hH => ?_)
  refine lv_aload_n hx hb dX8_init_28 rfl (lv_at hl 0 rfl) ?_
  refine lv_bipush (v := 54) hx hb dX8_init_29 (by decide) ?_
  refine kb_newi (N' := 54) hx hb (hts (.arrayClass .int) (List.mem_of_getElem? (i := 4) rfl)) hK hH hA (by decide) (by decide) (by decide) (Nat.le_of_ble_eq_true rfl) (Nat.le_of_ble_eq_true rfl) dX8_init_31 (fun q31 H hH => ?_)
  have hH : HP G A s.heap [[(a, .inr (8, [.int 0, .int 0, .ref q7, .ref q15, .ref q23, .null, .null, .null, .null, .null, .int 0, .int 0, .int 0, .int 0, .null, .int 0, .int 0, .int 0, .int 0, .int 0, .null, .int 0, .int 0, .int 0, .int 0, .int 0, .null, .null, .long 0, .null, .null]))], b_arr G q7 6 (fun _ => 0), b_arr G q15 6 (fun _ => 0), b_arr G q23 12 (fun _ => 0), b_arr G q31 54 (fun _ => 0)] H _ := hH
  refine kb_putF (ty := .array .int) (v := .ref q31) (WS' := [[(a, .inr (8, [.int 0, .int 0, .ref q7, .ref q15, .ref q23, .ref q31, .null, .null, .null, .null, .int 0, .int 0, .int 0, .int 0, .null, .int 0, .int 0, .int 0, .int 0, .int 0, .null, .int 0, .int 0, .int 0, .int 0, .int 0, .null, .null, .long 0, .null, .null]))], b_arr G q7 6 (fun _ => 0), b_arr G q15 6 (fun _ => 0), b_arr G q23 12 (fun _ => 0), b_arr G q31 54 (fun _ => 0)]) hx hb hts hin8 tyX8 tyX8_ok nmX8 hown hK hH 0 rfl rfl 5 (by decide) (hts (.fieldLink RX8 19 "CockWarModel" "now" "[I") (List.mem_of_getElem? (i := 8) rfl)) (fun _ h9 => h9) rfl hin rfl (by decide +kernel) rfl rfl (Nat.le_of_ble_eq_true rfl) rfl dX8_init_33 (fun H locs hH => ?_)
  refine lv_aload_n hx hb dX8_init_36 rfl (lv_at hl 0 rfl) ?_
  refine lv_bipush (v := 27) hx hb dX8_init_37 (by decide) ?_
  refine kb_newi (N' := 27) hx hb (hts (.arrayClass .int) (List.mem_of_getElem? (i := 4) rfl)) hK hH hA (by decide) (by decide) (by decide) (Nat.le_of_ble_eq_true rfl) (Nat.le_of_ble_eq_true rfl) dX8_init_39 (fun q39 H hH => ?_)
  have hH : HP G A s.heap [[(a, .inr (8, [.int 0, .int 0, .ref q7, .ref q15, .ref q23, .ref q31, .null, .null, .null, .null, .int 0, .int 0, .int 0, .int 0, .null, .int 0, .int 0, .int 0, .int 0, .int 0, .null, .int 0, .int 0, .int 0, .int 0, .int 0, .null, .null, .long 0, .null, .null]))], b_arr G q7 6 (fun _ => 0), b_arr G q15 6 (fun _ => 0), b_arr G q23 12 (fun _ => 0), b_arr G q31 54 (fun _ => 0), b_arr G q39 27 (fun _ => 0)] H _ := hH
  refine kb_putF (ty := .array .int) (v := .ref q39) (WS' := [[(a, .inr (8, [.int 0, .int 0, .ref q7, .ref q15, .ref q23, .ref q31, .ref q39, .null, .null, .null, .int 0, .int 0, .int 0, .int 0, .null, .int 0, .int 0, .int 0, .int 0, .int 0, .null, .int 0, .int 0, .int 0, .int 0, .int 0, .null, .null, .long 0, .null, .null]))], b_arr G q7 6 (fun _ => 0), b_arr G q15 6 (fun _ => 0), b_arr G q23 12 (fun _ => 0), b_arr G q31 54 (fun _ => 0), b_arr G q39 27 (fun _ => 0)]) hx hb hts hin8 tyX8 tyX8_ok nmX8 hown hK hH 0 rfl rfl 6 (by decide) (hts (.fieldLink RX8 22 "CockWarModel" "read" "[I") (List.mem_of_getElem? (i := 9) rfl)) (fun _ h9 => h9) rfl hin rfl (by decide +kernel) rfl rfl (Nat.le_of_ble_eq_true rfl) rfl dX8_init_41 (fun H locs hH => ?_)
  refine lv_aload_n hx hb dX8_init_44 rfl (lv_at hl 0 rfl) ?_
  refine lv_bipush (v := 6) hx hb dX8_init_45 (by decide) ?_
  refine kb_newi (N' := 6) hx hb (hts (.arrayClass .int) (List.mem_of_getElem? (i := 4) rfl)) hK hH hA (by decide) (by decide) (by decide) (Nat.le_of_ble_eq_true rfl) (Nat.le_of_ble_eq_true rfl) dX8_init_47 (fun q47 H hH => ?_)
  have hH : HP G A s.heap [[(a, .inr (8, [.int 0, .int 0, .ref q7, .ref q15, .ref q23, .ref q31, .ref q39, .null, .null, .null, .int 0, .int 0, .int 0, .int 0, .null, .int 0, .int 0, .int 0, .int 0, .int 0, .null, .int 0, .int 0, .int 0, .int 0, .int 0, .null, .null, .long 0, .null, .null]))], b_arr G q7 6 (fun _ => 0), b_arr G q15 6 (fun _ => 0), b_arr G q23 12 (fun _ => 0), b_arr G q31 54 (fun _ => 0), b_arr G q39 27 (fun _ => 0), b_arr G q47 6 (fun _ => 0)] H _ := hH
  refine kb_putF (ty := .array .int) (v := .ref q47) (WS' := [[(a, .inr (8, [.int 0, .int 0, .ref q7, .ref q15, .ref q23, .ref q31, .ref q39, .ref q47, .null, .null, .int 0, .int 0, .int 0, .int 0, .null, .int 0, .int 0, .int 0, .int 0, .int 0, .null, .int 0, .int 0, .int 0, .int 0, .int 0, .null, .null, .long 0, .null, .null]))], b_arr G q7 6 (fun _ => 0), b_arr G q15 6 (fun _ => 0), b_arr G q23 12 (fun _ => 0), b_arr G q31 54 (fun _ => 0), b_arr G q39 27 (fun _ => 0), b_arr G q47 6 (fun _ => 0)]) hx hb hts hin8 tyX8 tyX8_ok nmX8 hown hK hH 0 rfl rfl 7 (by decide) (hts (.fieldLink RX8 25 "CockWarModel" "readHigh" "[I") (List.mem_of_getElem? (i := 10) rfl)) (fun _ h9 => h9) rfl hin rfl (by decide +kernel) rfl rfl (Nat.le_of_ble_eq_true rfl) rfl dX8_init_49 (fun H locs hH => ?_)
  refine lv_aload_n hx hb dX8_init_52 rfl (lv_at hl 0 rfl) ?_
  refine lv_bipush (v := 6) hx hb dX8_init_53 (by decide) ?_
  refine kb_newi (N' := 6) hx hb (hts (.arrayClass .int) (List.mem_of_getElem? (i := 4) rfl)) hK hH hA (by decide) (by decide) (by decide) (Nat.le_of_ble_eq_true rfl) (Nat.le_of_ble_eq_true rfl) dX8_init_55 (fun q55 H hH => ?_)
  have hH : HP G A s.heap [[(a, .inr (8, [.int 0, .int 0, .ref q7, .ref q15, .ref q23, .ref q31, .ref q39, .ref q47, .null, .null, .int 0, .int 0, .int 0, .int 0, .null, .int 0, .int 0, .int 0, .int 0, .int 0, .null, .int 0, .int 0, .int 0, .int 0, .int 0, .null, .null, .long 0, .null, .null]))], b_arr G q7 6 (fun _ => 0), b_arr G q15 6 (fun _ => 0), b_arr G q23 12 (fun _ => 0), b_arr G q31 54 (fun _ => 0), b_arr G q39 27 (fun _ => 0), b_arr G q47 6 (fun _ => 0), b_arr G q55 6 (fun _ => 0)] H _ := hH
  refine kb_putF (ty := .array .int) (v := .ref q55) (WS' := [[(a, .inr (8, [.int 0, .int 0, .ref q7, .ref q15, .ref q23, .ref q31, .ref q39, .ref q47, .ref q55, .null, .int 0, .int 0, .int 0, .int 0, .null, .int 0, .int 0, .int 0, .int 0, .int 0, .null, .int 0, .int 0, .int 0, .int 0, .int 0, .null, .null, .long 0, .null, .null]))], b_arr G q7 6 (fun _ => 0), b_arr G q15 6 (fun _ => 0), b_arr G q23 12 (fun _ => 0), b_arr G q31 54 (fun _ => 0), b_arr G q39 27 (fun _ => 0), b_arr G q47 6 (fun _ => 0), b_arr G q55 6 (fun _ => 0)]) hx hb hts hin8 tyX8 tyX8_ok nmX8 hown hK hH 0 rfl rfl 8 (by decide) (hts (.fieldLink RX8 28 "CockWarModel" "readWeight" "[I") (List.mem_of_getElem? (i := 11) rfl)) (fun _ h9 => h9) rfl hin rfl (by decide +kernel) rfl rfl (Nat.le_of_ble_eq_true rfl) rfl dX8_init_57 (fun H locs hH => ?_)
  refine lv_aload_n hx hb dX8_init_60 rfl (lv_at hl 0 rfl) ?_
  refine lv_bipush (v := 12) hx hb dX8_init_61 (by decide) ?_
  refine kb_newi (N' := 12) hx hb (hts (.arrayClass .int) (List.mem_of_getElem? (i := 4) rfl)) hK hH hA (by decide) (by decide) (by decide) (Nat.le_of_ble_eq_true rfl) (Nat.le_of_ble_eq_true rfl) dX8_init_63 (fun q63 H hH => ?_)
  have hH : HP G A s.heap [[(a, .inr (8, [.int 0, .int 0, .ref q7, .ref q15, .ref q23, .ref q31, .ref q39, .ref q47, .ref q55, .null, .int 0, .int 0, .int 0, .int 0, .null, .int 0, .int 0, .int 0, .int 0, .int 0, .null, .int 0, .int 0, .int 0, .int 0, .int 0, .null, .null, .long 0, .null, .null]))], b_arr G q7 6 (fun _ => 0), b_arr G q15 6 (fun _ => 0), b_arr G q23 12 (fun _ => 0), b_arr G q31 54 (fun _ => 0), b_arr G q39 27 (fun _ => 0), b_arr G q47 6 (fun _ => 0), b_arr G q55 6 (fun _ => 0), b_arr G q63 12 (fun _ => 0)] H _ := hH
  refine kb_putF (ty := .array .int) (v := .ref q63) (WS' := [[(a, .inr (8, [.int 0, .int 0, .ref q7, .ref q15, .ref q23, .ref q31, .ref q39, .ref q47, .ref q55, .ref q63, .int 0, .int 0, .int 0, .int 0, .null, .int 0, .int 0, .int 0, .int 0, .int 0, .null, .int 0, .int 0, .int 0, .int 0, .int 0, .null, .null, .long 0, .null, .null]))], b_arr G q7 6 (fun _ => 0), b_arr G q15 6 (fun _ => 0), b_arr G q23 12 (fun _ => 0), b_arr G q31 54 (fun _ => 0), b_arr G q39 27 (fun _ => 0), b_arr G q47 6 (fun _ => 0), b_arr G q55 6 (fun _ => 0), b_arr G q63 12 (fun _ => 0)]) hx hb hts hin8 tyX8 tyX8_ok nmX8 hown hK hH 0 rfl rfl 9 (by decide) (hts (.fieldLink RX8 31 "CockWarModel" "readWind" "[I") (List.mem_of_getElem? (i := 12) rfl)) (fun _ h9 => h9) rfl hin rfl (by decide +kernel) rfl rfl (Nat.le_of_ble_eq_true rfl) rfl dX8_init_65 (fun H locs hH => ?_)
  refine lv_aload_n hx hb dX8_init_68 rfl (lv_at hl 0 rfl) ?_
  refine lv_bipush (v := 64) hx hb dX8_init_69 (by decide) ?_
  refine kb_newi (N' := 64) hx hb (hts (.arrayClass .int) (List.mem_of_getElem? (i := 4) rfl)) hK hH hA (by decide) (by decide) (by decide) (Nat.le_of_ble_eq_true rfl) (Nat.le_of_ble_eq_true rfl) dX8_init_71 (fun q71 H hH => ?_)
  have hH : HP G A s.heap [[(a, .inr (8, [.int 0, .int 0, .ref q7, .ref q15, .ref q23, .ref q31, .ref q39, .ref q47, .ref q55, .ref q63, .int 0, .int 0, .int 0, .int 0, .null, .int 0, .int 0, .int 0, .int 0, .int 0, .null, .int 0, .int 0, .int 0, .int 0, .int 0, .null, .null, .long 0, .null, .null]))], b_arr G q7 6 (fun _ => 0), b_arr G q15 6 (fun _ => 0), b_arr G q23 12 (fun _ => 0), b_arr G q31 54 (fun _ => 0), b_arr G q39 27 (fun _ => 0), b_arr G q47 6 (fun _ => 0), b_arr G q55 6 (fun _ => 0), b_arr G q63 12 (fun _ => 0), b_arr G q71 64 (fun _ => 0)] H _ := hH
  refine kb_putF (ty := .array .int) (v := .ref q71) (WS' := [[(a, .inr (8, [.int 0, .int 0, .ref q7, .ref q15, .ref q23, .ref q31, .ref q39, .ref q47, .ref q55, .ref q63, .int 0, .int 0, .int 0, .int 0, .ref q71, .int 0, .int 0, .int 0, .int 0, .int 0, .null, .int 0, .int 0, .int 0, .int 0, .int 0, .null, .null, .long 0, .null, .null]))], b_arr G q7 6 (fun _ => 0), b_arr G q15 6 (fun _ => 0), b_arr G q23 12 (fun _ => 0), b_arr G q31 54 (fun _ => 0), b_arr G q39 27 (fun _ => 0), b_arr G q47 6 (fun _ => 0), b_arr G q55 6 (fun _ => 0), b_arr G q63 12 (fun _ => 0), b_arr G q71 64 (fun _ => 0)]) hx hb hts hin8 tyX8 tyX8_ok nmX8 hown hK hH 0 rfl rfl 14 (by decide) (hts (.fieldLink RX8 34 "CockWarModel" "text" "[I") (List.mem_of_getElem? (i := 13) rfl)) (fun _ h9 => h9) rfl hin rfl (by decide +kernel) rfl rfl (Nat.le_of_ble_eq_true rfl) rfl dX8_init_73 (fun H locs hH => ?_)
  refine lv_aload_n hx hb dX8_init_76 rfl (lv_at hl 0 rfl) ?_
  refine lv_sipush (v := 378) hx hb dX8_init_77 (by decide) ?_
  refine kb_newi (N' := 378) hx hb (hts (.arrayClass .int) (List.mem_of_getElem? (i := 4) rfl)) hK hH hA (by decide) (by decide) (by decide) (Nat.le_of_ble_eq_true rfl) (Nat.le_of_ble_eq_true rfl) dX8_init_80 (fun q80 H hH => ?_)
  have hH : HP G A s.heap [[(a, .inr (8, [.int 0, .int 0, .ref q7, .ref q15, .ref q23, .ref q31, .ref q39, .ref q47, .ref q55, .ref q63, .int 0, .int 0, .int 0, .int 0, .ref q71, .int 0, .int 0, .int 0, .int 0, .int 0, .null, .int 0, .int 0, .int 0, .int 0, .int 0, .null, .null, .long 0, .null, .null]))], b_arr G q7 6 (fun _ => 0), b_arr G q15 6 (fun _ => 0), b_arr G q23 12 (fun _ => 0), b_arr G q31 54 (fun _ => 0), b_arr G q39 27 (fun _ => 0), b_arr G q47 6 (fun _ => 0), b_arr G q55 6 (fun _ => 0), b_arr G q63 12 (fun _ => 0), b_arr G q71 64 (fun _ => 0), b_arr G q80 378 (fun _ => 0)] H _ := hH
  refine kb_putF (ty := .array .int) (v := .ref q80) (WS' := [[(a, .inr (8, [.int 0, .int 0, .ref q7, .ref q15, .ref q23, .ref q31, .ref q39, .ref q47, .ref q55, .ref q63, .int 0, .int 0, .int 0, .int 0, .ref q71, .int 0, .int 0, .int 0, .int 0, .int 0, .ref q80, .int 0, .int 0, .int 0, .int 0, .int 0, .null, .null, .long 0, .null, .null]))], b_arr G q7 6 (fun _ => 0), b_arr G q15 6 (fun _ => 0), b_arr G q23 12 (fun _ => 0), b_arr G q31 54 (fun _ => 0), b_arr G q39 27 (fun _ => 0), b_arr G q47 6 (fun _ => 0), b_arr G q55 6 (fun _ => 0), b_arr G q63 12 (fun _ => 0), b_arr G q71 64 (fun _ => 0), b_arr G q80 378 (fun _ => 0)]) hx hb hts hin8 tyX8 tyX8_ok nmX8 hown hK hH 0 rfl rfl 20 (by decide) (hts (.fieldLink RX8 37 "CockWarModel" "row" "[I") (List.mem_of_getElem? (i := 14) rfl)) (fun _ h9 => h9) rfl hin rfl (by decide +kernel) rfl rfl (Nat.le_of_ble_eq_true rfl) rfl dX8_init_82 (fun H locs hH => ?_)
  refine lv_aload_n hx hb dX8_init_85 rfl (lv_at hl 0 rfl) ?_
  refine lv_bipush (v := 6) hx hb dX8_init_86 (by decide) ?_
  refine kb_newi (N' := 6) hx hb (hts (.arrayClass .int) (List.mem_of_getElem? (i := 4) rfl)) hK hH hA (by decide) (by decide) (by decide) (Nat.le_of_ble_eq_true rfl) (Nat.le_of_ble_eq_true rfl) dX8_init_88 (fun q88 H hH => ?_)
  have hH : HP G A s.heap [[(a, .inr (8, [.int 0, .int 0, .ref q7, .ref q15, .ref q23, .ref q31, .ref q39, .ref q47, .ref q55, .ref q63, .int 0, .int 0, .int 0, .int 0, .ref q71, .int 0, .int 0, .int 0, .int 0, .int 0, .ref q80, .int 0, .int 0, .int 0, .int 0, .int 0, .null, .null, .long 0, .null, .null]))], b_arr G q7 6 (fun _ => 0), b_arr G q15 6 (fun _ => 0), b_arr G q23 12 (fun _ => 0), b_arr G q31 54 (fun _ => 0), b_arr G q39 27 (fun _ => 0), b_arr G q47 6 (fun _ => 0), b_arr G q55 6 (fun _ => 0), b_arr G q63 12 (fun _ => 0), b_arr G q71 64 (fun _ => 0), b_arr G q80 378 (fun _ => 0), b_arr G q88 6 (fun _ => 0)] H _ := hH
  refine kb_putF (ty := .array .int) (v := .ref q88) (WS' := [[(a, .inr (8, [.int 0, .int 0, .ref q7, .ref q15, .ref q23, .ref q31, .ref q39, .ref q47, .ref q55, .ref q63, .int 0, .int 0, .int 0, .int 0, .ref q71, .int 0, .int 0, .int 0, .int 0, .int 0, .ref q80, .int 0, .int 0, .int 0, .int 0, .int 0, .ref q88, .null, .long 0, .null, .null]))], b_arr G q7 6 (fun _ => 0), b_arr G q15 6 (fun _ => 0), b_arr G q23 12 (fun _ => 0), b_arr G q31 54 (fun _ => 0), b_arr G q39 27 (fun _ => 0), b_arr G q47 6 (fun _ => 0), b_arr G q55 6 (fun _ => 0), b_arr G q63 12 (fun _ => 0), b_arr G q71 64 (fun _ => 0), b_arr G q80 378 (fun _ => 0), b_arr G q88 6 (fun _ => 0)]) hx hb hts hin8 tyX8 tyX8_ok nmX8 hown hK hH 0 rfl rfl 26 (by decide) (hts (.fieldLink RX8 40 "CockWarModel" "seenOf" "[I") (List.mem_of_getElem? (i := 15) rfl)) (fun _ h9 => h9) rfl hin rfl (by decide +kernel) rfl rfl (Nat.le_of_ble_eq_true rfl) rfl dX8_init_90 (fun H locs hH => ?_)
  refine lv_aload_n hx hb dX8_init_93 rfl (lv_at hl 0 rfl) ?_
  refine lv_bipush (v := 6) hx hb dX8_init_94 (by decide) ?_
  refine kb_newi (N' := 6) hx hb (hts (.arrayClass .int) (List.mem_of_getElem? (i := 4) rfl)) hK hH hA (by decide) (by decide) (by decide) (Nat.le_of_ble_eq_true rfl) (Nat.le_of_ble_eq_true rfl) dX8_init_96 (fun q96 H hH => ?_)
  have hH : HP G A s.heap [[(a, .inr (8, [.int 0, .int 0, .ref q7, .ref q15, .ref q23, .ref q31, .ref q39, .ref q47, .ref q55, .ref q63, .int 0, .int 0, .int 0, .int 0, .ref q71, .int 0, .int 0, .int 0, .int 0, .int 0, .ref q80, .int 0, .int 0, .int 0, .int 0, .int 0, .ref q88, .null, .long 0, .null, .null]))], b_arr G q7 6 (fun _ => 0), b_arr G q15 6 (fun _ => 0), b_arr G q23 12 (fun _ => 0), b_arr G q31 54 (fun _ => 0), b_arr G q39 27 (fun _ => 0), b_arr G q47 6 (fun _ => 0), b_arr G q55 6 (fun _ => 0), b_arr G q63 12 (fun _ => 0), b_arr G q71 64 (fun _ => 0), b_arr G q80 378 (fun _ => 0), b_arr G q88 6 (fun _ => 0), b_arr G q96 6 (fun _ => 0)] H _ := hH
  refine kb_putF (ty := .array .int) (v := .ref q96) (WS' := [[(a, .inr (8, [.int 0, .int 0, .ref q7, .ref q15, .ref q23, .ref q31, .ref q39, .ref q47, .ref q55, .ref q63, .int 0, .int 0, .int 0, .int 0, .ref q71, .int 0, .int 0, .int 0, .int 0, .int 0, .ref q80, .int 0, .int 0, .int 0, .int 0, .int 0, .ref q88, .ref q96, .long 0, .null, .null]))], b_arr G q7 6 (fun _ => 0), b_arr G q15 6 (fun _ => 0), b_arr G q23 12 (fun _ => 0), b_arr G q31 54 (fun _ => 0), b_arr G q39 27 (fun _ => 0), b_arr G q47 6 (fun _ => 0), b_arr G q55 6 (fun _ => 0), b_arr G q63 12 (fun _ => 0), b_arr G q71 64 (fun _ => 0), b_arr G q80 378 (fun _ => 0), b_arr G q88 6 (fun _ => 0), b_arr G q96 6 (fun _ => 0)]) hx hb hts hin8 tyX8 tyX8_ok nmX8 hown hK hH 0 rfl rfl 27 (by decide) (hts (.fieldLink RX8 43 "CockWarModel" "seenTo" "[I") (List.mem_of_getElem? (i := 16) rfl)) (fun _ h9 => h9) rfl hin rfl (by decide +kernel) rfl rfl (Nat.le_of_ble_eq_true rfl) rfl dX8_init_98 (fun H locs hH => ?_)
  refine lv_aload_n hx hb dX8_init_101 rfl (lv_at hl 0 rfl) ?_
  refine lv_iconst (v := 2) hx hb dX8_init_102 (by decide) ?_
  refine kb_newz (N' := 2) hx hb (hts (.arrayClass .boolean) (List.mem_of_getElem? (i := 17) rfl)) hK hH hA (by decide) (by decide) (by decide) (Nat.le_of_ble_eq_true rfl) (Nat.le_of_ble_eq_true rfl) dX8_init_103 (fun q103 H hH => ?_)
  have hH : HP G A s.heap [[(a, .inr (8, [.int 0, .int 0, .ref q7, .ref q15, .ref q23, .ref q31, .ref q39, .ref q47, .ref q55, .ref q63, .int 0, .int 0, .int 0, .int 0, .ref q71, .int 0, .int 0, .int 0, .int 0, .int 0, .ref q80, .int 0, .int 0, .int 0, .int 0, .int 0, .ref q88, .ref q96, .long 0, .null, .null]))], b_arr G q7 6 (fun _ => 0), b_arr G q15 6 (fun _ => 0), b_arr G q23 12 (fun _ => 0), b_arr G q31 54 (fun _ => 0), b_arr G q39 27 (fun _ => 0), b_arr G q47 6 (fun _ => 0), b_arr G q55 6 (fun _ => 0), b_arr G q63 12 (fun _ => 0), b_arr G q71 64 (fun _ => 0), b_arr G q80 378 (fun _ => 0), b_arr G q88 6 (fun _ => 0), b_arr G q96 6 (fun _ => 0), b_zarr G q103 2 (fun _ => 0)] H _ := hH
  refine kb_putF (ty := .array .boolean) (v := .ref q103) (WS' := [[(a, .inr (8, [.int 0, .int 0, .ref q7, .ref q15, .ref q23, .ref q31, .ref q39, .ref q47, .ref q55, .ref q63, .int 0, .int 0, .int 0, .int 0, .ref q71, .int 0, .int 0, .int 0, .int 0, .int 0, .ref q80, .int 0, .int 0, .int 0, .int 0, .int 0, .ref q88, .ref q96, .long 0, .ref q103, .null]))], b_arr G q7 6 (fun _ => 0), b_arr G q15 6 (fun _ => 0), b_arr G q23 12 (fun _ => 0), b_arr G q31 54 (fun _ => 0), b_arr G q39 27 (fun _ => 0), b_arr G q47 6 (fun _ => 0), b_arr G q55 6 (fun _ => 0), b_arr G q63 12 (fun _ => 0), b_arr G q71 64 (fun _ => 0), b_arr G q80 378 (fun _ => 0), b_arr G q88 6 (fun _ => 0), b_arr G q96 6 (fun _ => 0), b_zarr G q103 2 (fun _ => 0)]) hx hb hts hin8 tyX8 tyX8_ok nmX8 hown hK hH 0 rfl rfl 29 (by decide) (hts (.fieldLink RX8 46 "CockWarModel" "isKept" "[Z") (List.mem_of_getElem? (i := 18) rfl)) (fun _ h9 => h9) rfl hin rfl (by decide +kernel) rfl rfl (Nat.le_of_ble_eq_true rfl) rfl dX8_init_105 (fun H locs hH => ?_)
  refine lv_aload_n hx hb dX8_init_108 rfl (lv_at hl 0 rfl) ?_
  refine lv_bipush (v := 54) hx hb dX8_init_109 (by decide) ?_
  refine kb_newi (N' := 54) hx hb (hts (.arrayClass .int) (List.mem_of_getElem? (i := 4) rfl)) hK hH hA (by decide) (by decide) (by decide) (Nat.le_of_ble_eq_true rfl) (Nat.le_of_ble_eq_true rfl) dX8_init_111 (fun q111 H hH => ?_)
  have hH : HP G A s.heap [[(a, .inr (8, [.int 0, .int 0, .ref q7, .ref q15, .ref q23, .ref q31, .ref q39, .ref q47, .ref q55, .ref q63, .int 0, .int 0, .int 0, .int 0, .ref q71, .int 0, .int 0, .int 0, .int 0, .int 0, .ref q80, .int 0, .int 0, .int 0, .int 0, .int 0, .ref q88, .ref q96, .long 0, .ref q103, .null]))], b_arr G q7 6 (fun _ => 0), b_arr G q15 6 (fun _ => 0), b_arr G q23 12 (fun _ => 0), b_arr G q31 54 (fun _ => 0), b_arr G q39 27 (fun _ => 0), b_arr G q47 6 (fun _ => 0), b_arr G q55 6 (fun _ => 0), b_arr G q63 12 (fun _ => 0), b_arr G q71 64 (fun _ => 0), b_arr G q80 378 (fun _ => 0), b_arr G q88 6 (fun _ => 0), b_arr G q96 6 (fun _ => 0), b_zarr G q103 2 (fun _ => 0), b_arr G q111 54 (fun _ => 0)] H _ := hH
  refine kb_putF (ty := .array .int) (v := .ref q111) (WS' := [[(a, .inr (8, [.int 0, .int 0, .ref q7, .ref q15, .ref q23, .ref q31, .ref q39, .ref q47, .ref q55, .ref q63, .int 0, .int 0, .int 0, .int 0, .ref q71, .int 0, .int 0, .int 0, .int 0, .int 0, .ref q80, .int 0, .int 0, .int 0, .int 0, .int 0, .ref q88, .ref q96, .long 0, .ref q103, .ref q111]))], b_arr G q7 6 (fun _ => 0), b_arr G q15 6 (fun _ => 0), b_arr G q23 12 (fun _ => 0), b_arr G q31 54 (fun _ => 0), b_arr G q39 27 (fun _ => 0), b_arr G q47 6 (fun _ => 0), b_arr G q55 6 (fun _ => 0), b_arr G q63 12 (fun _ => 0), b_arr G q71 64 (fun _ => 0), b_arr G q80 378 (fun _ => 0), b_arr G q88 6 (fun _ => 0), b_arr G q96 6 (fun _ => 0), b_zarr G q103 2 (fun _ => 0), b_arr G q111 54 (fun _ => 0)]) hx hb hts hin8 tyX8 tyX8_ok nmX8 hown hK hH 0 rfl rfl 30 (by decide) (hts (.fieldLink RX8 50 "CockWarModel" "kept" "[I") (List.mem_of_getElem? (i := 19) rfl)) (fun _ h9 => h9) rfl hin rfl (by decide +kernel) rfl rfl (Nat.le_of_ble_eq_true rfl) rfl dX8_init_113 (fun H locs hH => ?_)
  refine lv_aload_n hx hb dX8_init_116 rfl (lv_at hl 0 rfl) ?_
  refine lv_iconst (v := 0) hx hb dX8_init_117 (by decide) ?_
  refine kb_put (ty := .int) (v := .int 0) (WS' := [[(a, .inr (8, [.int 0, .int 0, .ref q7, .ref q15, .ref q23, .ref q31, .ref q39, .ref q47, .ref q55, .ref q63, .int 0, .int 0, .int 0, .int 0, .ref q71, .int 0, .int 0, .int 0, .int 0, .int 0, .ref q80, .int 0, .int 0, .int 0, .int 0, .int 0, .ref q88, .ref q96, .long 0, .ref q103, .ref q111]))], b_arr G q7 6 (fun _ => 0), b_arr G q15 6 (fun _ => 0), b_arr G q23 12 (fun _ => 0), b_arr G q31 54 (fun _ => 0), b_arr G q39 27 (fun _ => 0), b_arr G q47 6 (fun _ => 0), b_arr G q55 6 (fun _ => 0), b_arr G q63 12 (fun _ => 0), b_arr G q71 64 (fun _ => 0), b_arr G q80 378 (fun _ => 0), b_arr G q88 6 (fun _ => 0), b_arr G q96 6 (fun _ => 0), b_zarr G q103 2 (fun _ => 0), b_arr G q111 54 (fun _ => 0)]) hx hb hts hin8 tyX8 tyX8_ok nmX8 hown hK hH 0 rfl rfl 0 (by decide) (hts (.fieldLink RX8 53 "CockWarModel" "cocks" "I") (List.mem_of_getElem? (i := 20) rfl)) (fun _ h9 => h9) rfl (by decide +kernel) rfl rfl (Nat.le_of_ble_eq_true rfl) rfl dX8_init_118 (fun H locs hH => ?_)
  refine kb_nret (gL 0 [a, 0, 0, q7, q15, q23, q31, q39, q47, q55, q63, 0, 0, 0, 0, q71, 0, 0, 0, 0, 0, q80, 0, 0, 0, 0, 0, q88, q96, 0, q103, q111]) hx hb hr hH ?_ rfl dX8_init_121 hlocks
  rfl
set_option maxHeartbeats 4000000 in
set_option maxRecDepth 100000 in
theorem c_X4_init (l : Launch) (G : Ge) : CN (σ := (Nat → Nat → Nat)) l yX4_init wsX4_init { frames := 2, cells := 11, slots := 125, locals := 32 } G 4 [.null, .null, .null, .int 0, .int 0, .int 0] (fun a γ => γ 0 0 = a) (fun γ => (w_O4 G (γ 0) (γ 1 0) (γ 2 0) oZ ++ w_O2 G (γ 1) oZ ++ w_O1 G (γ 2) oZ).flatten) 11 125 := by
  intro a sz
  refine Met.ofW (cc := cX4_init) (maxL := 1) (ret := none) (by decide) rfl ?_
  intro p e s m args below meth c s₁ B hml hv
  obtain ⟨rfl, hpre, hO⟩ := hv
  obtain ⟨hsz, hH, hK, hN, hA⟩ := kb_start hpre
  subst hsz
  have hx := B.exec
  have hb := B.bytes
  have hr := B.returns
  have hts := atoms_spec (ws := wsX4_init) B.pre
  have hown : s.vm.findClass RX4 = some m.cls := findClass_of_methodNamed B.named
  have hlocks := B.notSynchronized
  have hin : meth.name = "<init>" := (name_of_methodNamed B.named B.method).1
  have hH : HP G (va_A [(a, .inr (4, [.null, .null, .null, .int 0, .int 0, .int 0]))] s.heap.size) s.heap [[(a, .inr (4, [.null, .null, .null, .int 0, .int 0, .int 0]))]] s.heap [] := hH
  have hA : ∀ q, s.heap.size ≤ q → va_A [(a, .inr (4, [.null, .null, .null, .int 0, .int 0, .int 0]))] s.heap.size q := hA
  generalize hAe : va_A [(a, .inr (4, [.null, .null, .null, .int 0, .int 0, .int 0]))] s.heap.size = A at hH hA ⊢
  have hl := lv_entry ([.ref a]) (n := 1) (Nat.le_of_ble_eq_true rfl)
  rw [lg_entry_eq]
  generalize (lg_sl ([.ref a]) ++ List.replicate (1 - (lg_sl ([.ref a])).length) Slot.unset).toArray = ls at hl ⊢
  have hl : lv_has ls 1 [(0, .ref a)] := hl
  have hin4 : ∀ w ∈ u_ws RX4 TX4 6, w ∈ wsX4_init := fun w h => List.mem_cons_of_mem _ (List.mem_append_left _ (List.mem_append_left _ (List.mem_append_right _ h)))
  have hin2 : ∀ w ∈ u_ws RX2 TX2 11, w ∈ wsX4_init := fun w h => List.mem_cons_of_mem _ (List.mem_append_left _ (List.mem_append_right _ h))
  have hin1 : ∀ w ∈ u_ws RX1 TX1 4, w ∈ wsX4_init := fun w h => List.mem_cons_of_mem _ (List.mem_append_right _ h)
  refine lv_aload_n hx hb dX4_init_0 rfl (lv_at hl 0 rfl) ?_
  refine W.objInit hx hb hown (hts (.methodLink RX4 3 objectInit) (List.mem_of_getElem? (i := 1) rfl)) (hts (.instanceMethod objectInit) (List.mem_of_getElem? (i := 2) rfl)) (hts _ (List.mem_of_getElem? (i := 3) rfl)) rfl (by rw [hml]; exact hl.1) rfl dX4_init_1 (Nat.le_of_ble_eq_true rfl) (Nat.le_of_ble_eq_true rfl) ?_
  refine W.eq (g2 := F0 m 4 ls []) rfl ?_
  refine lv_aload_n hx hb dX4_init_4 rfl (lv_at hl 0 rfl) ?_
  refine lv_bipush (v := 64) hx hb dX4_init_5 (by decide) ?_
  refine kb_newi (N' := 64) hx hb (hts (.arrayClass .int) (List.mem_of_getElem? (i := 4) rfl)) hK hH hA (by decide) (by decide) (by decide) (Nat.le_of_ble_eq_true rfl) (Nat.le_of_ble_eq_true rfl) dX4_init_7 (fun q7 H hH => ?_)
  have hH : HP G A s.heap [[(a, .inr (4, [.null, .null, .null, .int 0, .int 0, .int 0]))], b_arr G q7 64 (fun _ => 0)] H _ := hH
  refine kb_putF (ty := .array .int) (v := .ref q7) (WS' := [[(a, .inr (4, [.ref q7, .null, .null, .int 0, .int 0, .int 0]))], b_arr G q7 64 (fun _ => 0)]) hx hb hts hin4 tyX4 tyX4_ok nmX4 hown hK hH 0 rfl rfl 0 (by decide) (hts (.fieldLink RX4 9 "CockWar$Reader" "letters" "[I") (List.mem_of_getElem? (i := 5) rfl)) (fun _ h9 => h9) rfl hin rfl (by decide +kernel) rfl rfl (Nat.le_of_ble_eq_true rfl) rfl dX4_init_9 (fun H locs hH => ?_)
  refine lv_aload_n hx hb dX4_init_12 rfl (lv_at hl 0 rfl) ?_
  refine kb_newo (ci := 2) (fs := [.null, .null, .null, .null, .null, .int 0, .int 0, .int 0, .int 0, .int 0, .int 0]) (C := RX2) (T := TX2) (N := 11) hx hb hts hin2 tyX2 tyX2_ok hown (hts (.classLink RX4 15 RX2) (List.mem_of_getElem? (i := 6) rfl)) (hts (.instantiable RX2 11) (List.mem_of_getElem? (i := 7) rfl)) (hts (.initialized RX2) (List.mem_of_getElem? (i := 8) rfl)) hK hH hA rfl (fun j hj => by rcases (show j = 0 ∨ j = 1 ∨ j = 2 ∨ j = 3 ∨ j = 4 ∨ j = 5 ∨ j = 6 ∨ j = 7 ∨ j = 8 ∨ j = 9 ∨ j = 10 by omega) with rfl | rfl | rfl | rfl | rfl | rfl | rfl | rfl | rfl | rfl | rfl <;> rfl) (Nat.le_of_ble_eq_true rfl) (Nat.le_of_ble_eq_true rfl) dX4_init_13 (fun q13 H hH => ?_)
  have hH : HP G A s.heap [[(a, .inr (4, [.ref q7, .null, .null, .int 0, .int 0, .int 0]))], b_arr G q7 64 (fun _ => 0), [(q13, .inr (2, [.null, .null, .null, .null, .null, .int 0, .int 0, .int 0, .int 0, .int 0, .int 0]))]] H _ := hH
  refine lv_dup hx hb dX4_init_16 rfl ?_
  refine kb_cn hH hA 2 rfl (va_runIN (As := []) (rest := [.ref q13, .ref a]) ⟨hx, hb, hml, hown, hts⟩ (c_X2_init l G q13 H.size) ⟨va_cnB 0 hts gX4_init_X2_init_n17 rfl rfl rfl (kb_NM hN 1 rfl) (hts (.initialized RX2) (List.mem_of_getElem? (i := 8) rfl)) hd_X2_init ⟨Nat.le_of_ble_eq_true rfl, Nat.le_of_ble_eq_true rfl⟩, rfl, (hts (.instanceMethod yX2_init) (List.mem_of_getElem? (i := 14) rfl))⟩ (kb_preA hH hK hN hO 2 rfl) rfl rfl hl.1 rfl (lv_room (Nat.le_of_ble_eq_true rfl)) dX4_init_17 ⟨Nat.le_of_ble_eq_true rfl, Nat.le_of_ble_eq_true rfl⟩) (fun g17 H locs hg17 hH => ?_)
  have hg17 : g17 0 = q13 := hg17
  subst hg17
  have hH : HP G A s.heap [[(a, .inr (4, [.ref q7, .null, .null, .int 0, .int 0, .int 0]))], b_arr G q7 64 (fun _ => 0), (w_O2 G g17 oZ).flatten] H _ := hH
  refine kb_putF (ty := .object RX2) (v := .ref (g17 0)) (WS' := [[(a, .inr (4, [.ref q7, .ref (g17 0), .null, .int 0, .int 0, .int 0]))], b_arr G q7 64 (fun _ => 0), (w_O2 G g17 oZ).flatten]) hx hb hts hin4 tyX4 tyX4_ok nmX4 hown hK hH 0 rfl rfl 1 (by decide) (hts (.fieldLink RX4 18 "CockWar$Reader" "ground" "LCockWar$Hill;") (List.mem_of_getElem? (i := 9) rfl)) (fun _ h9 => h9) rfl hin rfl (by decide +kernel) rfl rfl (Nat.le_of_ble_eq_true rfl) rfl dX4_init_20 (fun H locs hH => ?_)
  refine lv_aload_n hx hb dX4_init_23 rfl (lv_at hl 0 rfl) ?_
  refine kb_newo (ci := 1) (fs := [.null, .null, .null, .int 0]) (C := RX1) (T := TX1) (N := 4) hx hb hts hin1 tyX1 tyX1_ok hown (hts (.classLink RX4 22 RX1) (List.mem_of_getElem? (i := 10) rfl)) (hts (.instantiable RX1 4) (List.mem_of_getElem? (i := 11) rfl)) (hts (.initialized RX1) (List.mem_of_getElem? (i := 12) rfl)) hK hH hA rfl (fun j hj => by rcases (show j = 0 ∨ j = 1 ∨ j = 2 ∨ j = 3 by omega) with rfl | rfl | rfl | rfl <;> rfl) (Nat.le_of_ble_eq_true rfl) (Nat.le_of_ble_eq_true rfl) dX4_init_24 (fun q24 H hH => ?_)
  have hH : HP G A s.heap [[(a, .inr (4, [.ref q7, .ref (g17 0), .null, .int 0, .int 0, .int 0]))], b_arr G q7 64 (fun _ => 0), (w_O2 G g17 oZ).flatten, [(q24, .inr (1, [.null, .null, .null, .int 0]))]] H _ := hH
  refine lv_dup hx hb dX4_init_27 rfl ?_
  refine kb_cn hH hA 3 rfl (va_runIN (As := []) (rest := [.ref q24, .ref a]) ⟨hx, hb, hml, hown, hts⟩ (c_X1_init l G q24 H.size) ⟨va_cnB 0 hts gX4_init_X1_init_n24 rfl rfl rfl (kb_NM hN 2 rfl) (hts (.initialized RX1) (List.mem_of_getElem? (i := 12) rfl)) hd_X1_init ⟨Nat.le_of_ble_eq_true rfl, Nat.le_of_ble_eq_true rfl⟩, rfl, (hts (.instanceMethod yX1_init) (List.mem_of_getElem? (i := 22) rfl))⟩ (kb_preA hH hK hN hO 3 rfl) rfl rfl hl.1 rfl (lv_room (Nat.le_of_ble_eq_true rfl)) dX4_init_28 ⟨Nat.le_of_ble_eq_true rfl, Nat.le_of_ble_eq_true rfl⟩) (fun g28 H locs hg28 hH => ?_)
  have hg28 : g28 0 = q24 := hg28
  subst hg28
  have hH : HP G A s.heap [[(a, .inr (4, [.ref q7, .ref (g17 0), .null, .int 0, .int 0, .int 0]))], b_arr G q7 64 (fun _ => 0), (w_O2 G g17 oZ).flatten, (w_O1 G g28 oZ).flatten] H _ := hH
  refine kb_putF (ty := .object RX1) (v := .ref (g28 0)) (WS' := [[(a, .inr (4, [.ref q7, .ref (g17 0), .ref (g28 0), .int 0, .int 0, .int 0]))], b_arr G q7 64 (fun _ => 0), (w_O2 G g17 oZ).flatten, (w_O1 G g28 oZ).flatten]) hx hb hts hin4 tyX4 tyX4_ok nmX4 hown hK hH 0 rfl rfl 2 (by decide) (hts (.fieldLink RX4 25 "CockWar$Reader" "air" "LCockWar$Air;") (List.mem_of_getElem? (i := 13) rfl)) (fun _ h9 => h9) rfl hin rfl (by decide +kernel) rfl rfl (Nat.le_of_ble_eq_true rfl) rfl dX4_init_31 (fun H locs hH => ?_)
  refine kb_nret (gL (fun _ => 0) [gL 0 [a, q7], g17, g28]) hx hb hr hH ?_ rfl dX4_init_34 hlocks
  simp only [List.flatten_append, List.flatten_cons, List.flatten_nil, List.append_nil, List.append_assoc]
  rfl
set_option maxHeartbeats 4000000 in
set_option maxRecDepth 100000 in
theorem c_X3_init (l : Launch) (G : Ge) : CN (σ := (Nat → Nat → Nat)) l yX3_init wsX3_init { frames := 2, cells := 6, slots := 45, locals := 32 } G 3 [.null, .int 0, .int 0, .int 0, .int 0] (fun a γ => γ 0 0 = a) (fun γ => (w_O3 G (γ 0) (γ 1 0) oZ ++ w_O2 G (γ 1) oZ).flatten) 6 45 := by
  intro a sz
  refine Met.ofW (cc := cX3_init) (maxL := 1) (ret := none) (by decide) rfl ?_
  intro p e s m args below meth c s₁ B hml hv
  obtain ⟨rfl, hpre, hO⟩ := hv
  obtain ⟨hsz, hH, hK, hN, hA⟩ := kb_start hpre
  subst hsz
  have hx := B.exec
  have hb := B.bytes
  have hr := B.returns
  have hts := atoms_spec (ws := wsX3_init) B.pre
  have hown : s.vm.findClass RX3 = some m.cls := findClass_of_methodNamed B.named
  have hlocks := B.notSynchronized
  have hin : meth.name = "<init>" := (name_of_methodNamed B.named B.method).1
  have hH : HP G (va_A [(a, .inr (3, [.null, .int 0, .int 0, .int 0, .int 0]))] s.heap.size) s.heap [[(a, .inr (3, [.null, .int 0, .int 0, .int 0, .int 0]))]] s.heap [] := hH
  have hA : ∀ q, s.heap.size ≤ q → va_A [(a, .inr (3, [.null, .int 0, .int 0, .int 0, .int 0]))] s.heap.size q := hA
  generalize hAe : va_A [(a, .inr (3, [.null, .int 0, .int 0, .int 0, .int 0]))] s.heap.size = A at hH hA ⊢
  have hl := lv_entry ([.ref a]) (n := 1) (Nat.le_of_ble_eq_true rfl)
  rw [lg_entry_eq]
  generalize (lg_sl ([.ref a]) ++ List.replicate (1 - (lg_sl ([.ref a])).length) Slot.unset).toArray = ls at hl ⊢
  have hl : lv_has ls 1 [(0, .ref a)] := hl
  have hin2 : ∀ w ∈ u_ws RX2 TX2 11, w ∈ wsX3_init := fun w h => List.mem_cons_of_mem _ (List.mem_append_left _ (List.mem_append_right _ h))
  have hin3 : ∀ w ∈ u_ws RX3 TX3 5, w ∈ wsX3_init := fun w h => List.mem_cons_of_mem _ (List.mem_append_right _ h)
  refine lv_aload_n hx hb dX3_init_0 rfl (lv_at hl 0 rfl) ?_
  refine W.objInit hx hb hown (hts (.methodLink RX3 3 objectInit) (List.mem_of_getElem? (i := 1) rfl)) (hts (.instanceMethod objectInit) (List.mem_of_getElem? (i := 2) rfl)) (hts _ (List.mem_of_getElem? (i := 3) rfl)) rfl (by rw [hml]; exact hl.1) rfl dX3_init_1 (Nat.le_of_ble_eq_true rfl) (Nat.le_of_ble_eq_true rfl) ?_
  refine W.eq (g2 := F0 m 4 ls []) rfl ?_
  refine lv_aload_n hx hb dX3_init_4 rfl (lv_at hl 0 rfl) ?_
  refine kb_newo (ci := 2) (fs := [.null, .null, .null, .null, .null, .int 0, .int 0, .int 0, .int 0, .int 0, .int 0]) (C := RX2) (T := TX2) (N := 11) hx hb hts hin2 tyX2 tyX2_ok hown (hts (.classLink RX3 9 RX2) (List.mem_of_getElem? (i := 4) rfl)) (hts (.instantiable RX2 11) (List.mem_of_getElem? (i := 5) rfl)) (hts (.initialized RX2) (List.mem_of_getElem? (i := 6) rfl)) hK hH hA rfl (fun j hj => by rcases (show j = 0 ∨ j = 1 ∨ j = 2 ∨ j = 3 ∨ j = 4 ∨ j = 5 ∨ j = 6 ∨ j = 7 ∨ j = 8 ∨ j = 9 ∨ j = 10 by omega) with rfl | rfl | rfl | rfl | rfl | rfl | rfl | rfl | rfl | rfl | rfl <;> rfl) (Nat.le_of_ble_eq_true rfl) (Nat.le_of_ble_eq_true rfl) dX3_init_5 (fun q5 H hH => ?_)
  have hH : HP G A s.heap [[(a, .inr (3, [.null, .int 0, .int 0, .int 0, .int 0]))], [(q5, .inr (2, [.null, .null, .null, .null, .null, .int 0, .int 0, .int 0, .int 0, .int 0, .int 0]))]] H _ := hH
  refine lv_dup hx hb dX3_init_8 rfl ?_
  refine kb_cn hH hA 1 rfl (va_runIN (As := []) (rest := [.ref q5, .ref a]) ⟨hx, hb, hml, hown, hts⟩ (c_X2_init l G q5 H.size) ⟨va_cnB 0 hts gX3_init_X2_init_n11 rfl rfl rfl (kb_NM hN 11 rfl) (hts (.initialized RX2) (List.mem_of_getElem? (i := 6) rfl)) hd_X2_init ⟨Nat.le_of_ble_eq_true rfl, Nat.le_of_ble_eq_true rfl⟩, rfl, (hts (.instanceMethod yX2_init) (List.mem_of_getElem? (i := 8) rfl))⟩ (kb_preA hH hK hN hO 1 rfl) rfl rfl hl.1 rfl (lv_room (Nat.le_of_ble_eq_true rfl)) dX3_init_9 ⟨Nat.le_of_ble_eq_true rfl, Nat.le_of_ble_eq_true rfl⟩) (fun g9 H locs hg9 hH => ?_)
  have hg9 : g9 0 = q5 := hg9
  subst hg9
  have hH : HP G A s.heap [[(a, .inr (3, [.null, .int 0, .int 0, .int 0, .int 0]))], (w_O2 G g9 oZ).flatten] H _ := hH
  refine kb_putF (ty := .object RX2) (v := .ref (g9 0)) (WS' := [[(a, .inr (3, [.ref (g9 0), .int 0, .int 0, .int 0, .int 0]))], (w_O2 G g9 oZ).flatten]) hx hb hts hin3 tyX3 tyX3_ok nmX3 hown hK hH 0 rfl rfl 0 (by decide) (hts (.fieldLink RX3 12 "CockWar$Plan" "trial" "LCockWar$Hill;") (List.mem_of_getElem? (i := 7) rfl)) (fun _ h9 => h9) rfl hin rfl (by decide +kernel) rfl rfl (Nat.le_of_ble_eq_true rfl) rfl dX3_init_12 (fun H locs hH => ?_)
  refine kb_nret (gL (fun _ => 0) [gL 0 [a], g9]) hx hb hr hH ?_ rfl dX3_init_15 hlocks
  simp only [List.flatten_append, List.flatten_cons, List.flatten_nil, List.append_nil, List.append_assoc]
  rfl
set_option maxHeartbeats 4000000 in
set_option maxRecDepth 100000 in
theorem c_X0_init (l : Launch) (G : Ge) : CN (σ := ((Nat → Nat) × (Nat → Nat → Nat))) l yX0_init wsX0_init { frames := 2, cells := 85, slots := 644, locals := 32 } G 0 [.null, .int 0, .int 0] (fun a γ => γ.1 0 = a) (fun γ => (w_O0 G γ.1 γ.2 oZ (fun _ => oZ)).flatten) 85 644 := by
  intro a sz
  refine Met.ofW (cc := cX0_init) (maxL := 2) (ret := none) (by decide) rfl ?_
  intro p e s m args below meth c s₁ B hml hv
  obtain ⟨rfl, hpre, hO⟩ := hv
  obtain ⟨hsz, hH, hK, hN, hA⟩ := kb_start hpre
  subst hsz
  have hx := B.exec
  have hb := B.bytes
  have hr := B.returns
  have hts := atoms_spec (ws := wsX0_init) B.pre
  have hown : s.vm.findClass RX0 = some m.cls := findClass_of_methodNamed B.named
  have hlocks := B.notSynchronized
  have hin : meth.name = "<init>" := (name_of_methodNamed B.named B.method).1
  have hH : HP G (va_A [(a, .inr (0, [.null, .int 0, .int 0]))] s.heap.size) s.heap [[(a, .inr (0, [.null, .int 0, .int 0]))]] s.heap [] := hH
  have hA : ∀ q, s.heap.size ≤ q → va_A [(a, .inr (0, [.null, .int 0, .int 0]))] s.heap.size q := hA
  generalize hAe : va_A [(a, .inr (0, [.null, .int 0, .int 0]))] s.heap.size = A at hH hA ⊢
  have hl := lv_entry ([.ref a]) (n := 2) (Nat.le_of_ble_eq_true rfl)
  rw [lg_entry_eq]
  generalize (lg_sl ([.ref a]) ++ List.replicate (2 - (lg_sl ([.ref a])).length) Slot.unset).toArray = ls at hl ⊢
  have hl : lv_has ls 2 [(0, .ref a)] := hl
  have hin0 : ∀ w ∈ u_ws RX0 TX0 3, w ∈ wsX0_init := fun w h => List.mem_cons_of_mem _ (List.mem_append_left _ (List.mem_append_right _ h))
  have hin2 : ∀ w ∈ u_ws RX2 TX2 11, w ∈ wsX0_init := fun w h => List.mem_cons_of_mem _ (List.mem_append_right _ h)
  refine lv_aload_n hx hb dX0_init_0 rfl (lv_at hl 0 rfl) ?_
  refine W.objInit hx hb hown (hts (.methodLink RX0 3 objectInit) (List.mem_of_getElem? (i := 1) rfl)) (hts (.instanceMethod objectInit) (List.mem_of_getElem? (i := 2) rfl)) (hts _ (List.mem_of_getElem? (i := 3) rfl)) rfl (by rw [hml]; exact hl.1) rfl dX0_init_1 (Nat.le_of_ble_eq_true rfl) (Nat.le_of_ble_eq_true rfl) ?_
  refine W.eq (g2 := F0 m 4 ls []) rfl ?_
  refine lv_aload_n hx hb dX0_init_4 rfl (lv_at hl 0 rfl) ?_
  refine lv_bipush (v := 14) hx hb dX0_init_5 (by decide) ?_
  refine kb_newr (N' := 14) hx hb hown (hts (.classLink RX0 9 RX2) (List.mem_of_getElem? (i := 4) rfl)) hO hK hH hA (by decide) (by decide) (by decide) (Nat.le_of_ble_eq_true rfl) (Nat.le_of_ble_eq_true rfl) dX0_init_7 (fun q7 H hH => ?_)
  have hH : HP G A s.heap [[(a, .inr (0, [.null, .int 0, .int 0]))], [(q7, .inl (G.2.2.2, 14, .inr (.inr (.inr (.inr (fun _ => none))))))]] H _ := hH
  refine kb_putF (ty := .array (.object RX2)) (v := .ref q7) (WS' := [[(a, .inr (0, [.ref q7, .int 0, .int 0]))], [(q7, .inl (G.2.2.2, 14, .inr (.inr (.inr (.inr (fun _ => none))))))]]) hx hb hts hin0 tyX0 tyX0_ok nmX0 hown hK hH 0 rfl rfl 0 (by decide) (hts (.fieldLink RX0 11 "CockWar$ActRow" "before" "[LCockWar$Hill;") (List.mem_of_getElem? (i := 5) rfl)) (fun _ h9 => h9) rfl hin rfl (by decide +kernel) rfl rfl (Nat.le_of_ble_eq_true rfl) rfl dX0_init_10 (fun H locs hH => ?_)
  refine lv_iconst (v := 0) hx hb dX0_init_13 (by decide) ?_
  refine lv_istore_n (lv' := [(1, .int (0 : Int32)), (0, .ref a)]) hx hb dX0_init_14 rfl hl (by decide) rfl (fun ls hl => ?_)
  suffices hloop : ∀ (k i : Nat) (gh : Nat → Nat → Nat) (H : Heap) (locs : List Loc) (ls : Array Slot), k + i = 14 → HP G A s.heap [[(a, .inr (0, [.ref q7, .int 0, .int 0]))], [(q7, .inl (G.2.2.2, 14, .inr (.inr (.inr (.inr (fun j => if j < i then some (gh j 0) else none))))))], b_hills G i gh (fun _ => oZ)] H locs → lv_has ls 2 [(1, .int (nI i)), (0, .ref a)] → W p l e { frames := 2, cells := 85, slots := 644, locals := 32 } s m ([.ref a] : List Value).toArray below meth c H locs (1 + 6 * i) (14 + 45 * i) (MQ below (va_Qv (fun γ : ((Nat → Nat) × (Nat → Nat → Nat)) => γ.1 0 = a) (fun γ => PST G [(w_O0 G γ.1 γ.2 oZ (fun _ => oZ)).flatten] A) A) ([.ref a] : List Value).toArray s 85 644 A) (F0 m 15 ls []) by
    refine hloop 14 0 (fun _ _ => 0) H _ ls rfl ?_ hl
    refine kb_perm (List.Perm.of_eq ?_) hH
    simp [b_hills]
  intro k
  induction k with
  | zero =>
    intro i gh H locs ls hi hH hl
    have hi : i = 14 := by omega
    subst hi
    refine lv_iload_n hx hb dX0_init_15 rfl (lv_at hl 0 rfl) ?_
    refine lv_aload_n hx hb dX0_init_16 rfl (lv_at hl 1 rfl) ?_
    refine kb_get (v := .ref q7) hx hb hts hin0 hown hK hH 0 rfl rfl rfl 0 (by decide) (hts (.fieldLink RX0 11 "CockWar$ActRow" "before" "[LCockWar$Hill;") (List.mem_of_getElem? (i := 5) rfl)) (fun _ h9 => h9) rfl dX0_init_17 ?_
    refine kb_alen (v := nI 14) hx hb hK hH 1 2 rfl rfl rfl dX0_init_20 ?_
    refine lv_icmp_ge (tgt := 43) hx hb dX0_init_21 (by decide) (fun _ => ?_) (fun c2 => absurd (nI_le (Nat.le_refl _) (by decide)) c2)
    have hH := kb_arrq (f' := fun j => some (gh j 0)) 1 rfl (fun j hj => by simp [hj]) hH
    refine kb_nret (gL 0 [a, q7], gh) hx hb hr hH ?_ rfl dX0_init_43 hlocks
    rfl
  | succ k ih =>
    intro i gh H locs ls hi hH hl
    have hlt : i < 14 := by omega
    refine lv_iload_n hx hb dX0_init_15 rfl (lv_at hl 0 rfl) ?_
    refine lv_aload_n hx hb dX0_init_16 rfl (lv_at hl 1 rfl) ?_
    refine kb_get (v := .ref q7) hx hb hts hin0 hown hK hH 0 rfl rfl rfl 0 (by decide) (hts (.fieldLink RX0 11 "CockWar$ActRow" "before" "[LCockWar$Hill;") (List.mem_of_getElem? (i := 5) rfl)) (fun _ h9 => h9) rfl dX0_init_17 ?_
    refine kb_alen (v := nI 14) hx hb hK hH 1 2 rfl rfl rfl dX0_init_20 ?_
    refine lv_icmp_ge (tgt := 43) hx hb dX0_init_21 (by decide) (fun c2 => absurd c2 (nI_ge hlt (by decide))) (fun _ => ?_)
    refine lv_aload_n hx hb dX0_init_24 rfl (lv_at hl 1 rfl) ?_
    refine kb_get (v := .ref q7) hx hb hts hin0 hown hK hH 0 rfl rfl rfl 0 (by decide) (hts (.fieldLink RX0 11 "CockWar$ActRow" "before" "[LCockWar$Hill;") (List.mem_of_getElem? (i := 5) rfl)) (fun _ h9 => h9) rfl dX0_init_25 ?_
    refine lv_iload_n hx hb dX0_init_28 rfl (lv_at hl 0 rfl) ?_
    refine kb_newo (ci := 2) (fs := [.null, .null, .null, .null, .null, .int 0, .int 0, .int 0, .int 0, .int 0, .int 0]) (C := RX2) (T := TX2) (N := 11) hx hb hts hin2 tyX2 tyX2_ok hown (hts (.classLink RX0 9 RX2) (List.mem_of_getElem? (i := 4) rfl)) (hts (.instantiable RX2 11) (List.mem_of_getElem? (i := 6) rfl)) (hts (.initialized RX2) (List.mem_of_getElem? (i := 7) rfl)) hK hH hA rfl (fun j hj => by rcases (show j = 0 ∨ j = 1 ∨ j = 2 ∨ j = 3 ∨ j = 4 ∨ j = 5 ∨ j = 6 ∨ j = 7 ∨ j = 8 ∨ j = 9 ∨ j = 10 by omega) with rfl | rfl | rfl | rfl | rfl | rfl | rfl | rfl | rfl | rfl | rfl <;> rfl) (show 1 + 6 * i + 1 ≤ 85 by omega) (show 14 + 45 * i + 11 ≤ 644 by omega) dX0_init_29 (fun qn H hH => ?_)
    have hH : HP G A s.heap [[(a, .inr (0, [.ref q7, .int 0, .int 0]))], [(q7, .inl (G.2.2.2, 14, .inr (.inr (.inr (.inr (fun j => if j < i then some (gh j 0) else none))))))], b_hills G i gh (fun _ => oZ), [(qn, .inr (2, [.null, .null, .null, .null, .null, .int 0, .int 0, .int 0, .int 0, .int 0, .int 0]))]] H _ := hH
    refine lv_dup hx hb dX0_init_32 rfl ?_
    refine kb_cn hH hA 3 rfl (va_runIN (As := []) (rest := [.ref qn, .int (nI i), .ref q7]) ⟨hx, hb, hml, hown, hts⟩ (c_X2_init l G qn H.size) ⟨va_cnB 0 hts gX0_init_X2_init_n17 rfl rfl rfl (kb_NM hN 6 rfl) (hts (.initialized RX2) (List.mem_of_getElem? (i := 7) rfl)) hd_X2_init ⟨Nat.le_of_ble_eq_true rfl, Nat.le_of_ble_eq_true rfl⟩, rfl, (hts (.instanceMethod yX2_init) (List.mem_of_getElem? (i := 8) rfl))⟩ (kb_preA hH hK hN hO 3 rfl) rfl rfl hl.1 rfl (lv_room (Nat.le_of_ble_eq_true rfl)) dX0_init_33 ⟨(show 1 + 6 * i + 1 + 5 ≤ 85 by omega), (show 14 + 45 * i + 11 + 34 ≤ 644 by omega)⟩) (fun gn H locs hgn hH => ?_)
    have hgn : gn 0 = qn := hgn
    subst hgn
    have hH : HP G A s.heap [[(a, .inr (0, [.ref q7, .int 0, .int 0]))], [(q7, .inl (G.2.2.2, 14, .inr (.inr (.inr (.inr (fun j => if j < i then some (gh j 0) else none))))))], b_hills G i gh (fun _ => oZ), (w_O2 G gn oZ).flatten] H _ := hH
    refine kb_aast (WS' := [[(a, .inr (0, [.ref q7, .int 0, .int 0]))], [(q7, .inl (G.2.2.2, 14, .inr (.inr (.inr (.inr (va_up (fun j => if j < i then some (gh j 0) else none) (nI i).toNatClampNeg (some (gn 0))))))))], b_hills G i gh (fun _ => oZ), (w_O2 G gn oZ).flatten]) hx hb hK hH 1 3 rfl rfl rfl (nI_in hlt (by decide)) rfl dX0_init_36 (fun H locs hH => ?_)
    refine lv_iinc (v := (nI (i + 1))) (lv' := [(1, .int (nI (i + 1))), (0, .ref a)]) hx hb dX0_init_37 hl (k := 0) rfl (nI_1 _) (by decide) rfl (fun ls hl => ?_)
    refine lv_goto (tgt := 15) hx hb dX0_init_40 (by decide) ?_
    refine W.widen (k := 1 + 6 * (i + 1)) (n := 14 + 45 * (i + 1)) (by omega) (by omega) ?_
    refine ih (i + 1) (va_up gh i gn) H locs ls (by omega) ?_ hl
    refine kb_perm (List.Perm.of_eq ?_) hH
    have hf : va_up (fun j => if j < i then some (gh j 0) else none) (nI i).toNatClampNeg (some (gn 0)) = (fun j => if j < i + 1 then some (va_up gh i gn j 0) else none) := by
      rw [nI_clamp (by omega)]
      funext j
      by_cases h1 : j = i
      · subst h1; simp [va_up]
      · have h2 : (j < i + 1) = (j < i) := by rw [eq_iff_iff]; omega
        simp [va_up, h1, h2]
    rw [hf, kb_hset]
    simp only [List.flatten_cons, List.flatten_nil, List.append_nil, List.append_assoc]
set_option maxHeartbeats 4000000 in
set_option maxRecDepth 100000 in
theorem c_X6_init (l : Launch) (G : Ge) : CN (σ := ((Nat → Nat) × (Nat → Nat → Nat))) l yX6_init wsX6_init { frames := 2, cells := 13, slots := 92, locals := 32 } G 6 [.null, .int 0] (fun a γ => γ.1 0 = a) (fun γ => (w_O6 G γ.1 γ.2 oZ (fun _ => oZ)).flatten) 13 92 := by
  intro a sz
  refine Met.ofW (cc := cX6_init) (maxL := 2) (ret := none) (by decide) rfl ?_
  intro p e s m args below meth c s₁ B hml hv
  obtain ⟨rfl, hpre, hO⟩ := hv
  obtain ⟨hsz, hH, hK, hN, hA⟩ := kb_start hpre
  subst hsz
  have hx := B.exec
  have hb := B.bytes
  have hr := B.returns
  have hts := atoms_spec (ws := wsX6_init) B.pre
  have hown : s.vm.findClass RX6 = some m.cls := findClass_of_methodNamed B.named
  have hlocks := B.notSynchronized
  have hin : meth.name = "<init>" := (name_of_methodNamed B.named B.method).1
  have hH : HP G (va_A [(a, .inr (6, [.null, .int 0]))] s.heap.size) s.heap [[(a, .inr (6, [.null, .int 0]))]] s.heap [] := hH
  have hA : ∀ q, s.heap.size ≤ q → va_A [(a, .inr (6, [.null, .int 0]))] s.heap.size q := hA
  generalize hAe : va_A [(a, .inr (6, [.null, .int 0]))] s.heap.size = A at hH hA ⊢
  have hl := lv_entry ([.ref a]) (n := 2) (Nat.le_of_ble_eq_true rfl)
  rw [lg_entry_eq]
  generalize (lg_sl ([.ref a]) ++ List.replicate (2 - (lg_sl ([.ref a])).length) Slot.unset).toArray = ls at hl ⊢
  have hl : lv_has ls 2 [(0, .ref a)] := hl
  have hin6 : ∀ w ∈ u_ws RX6 TX6 2, w ∈ wsX6_init := fun w h => List.mem_cons_of_mem _ (List.mem_append_left _ (List.mem_append_right _ h))
  have hin2 : ∀ w ∈ u_ws RX2 TX2 11, w ∈ wsX6_init := fun w h => List.mem_cons_of_mem _ (List.mem_append_right _ h)
  refine lv_aload_n hx hb dX6_init_0 rfl (lv_at hl 0 rfl) ?_
  refine W.objInit hx hb hown (hts (.methodLink RX6 3 objectInit) (List.mem_of_getElem? (i := 1) rfl)) (hts (.instanceMethod objectInit) (List.mem_of_getElem? (i := 2) rfl)) (hts _ (List.mem_of_getElem? (i := 3) rfl)) rfl (by rw [hml]; exact hl.1) rfl dX6_init_1 (Nat.le_of_ble_eq_true rfl) (Nat.le_of_ble_eq_true rfl) ?_
  refine W.eq (g2 := F0 m 4 ls []) rfl ?_
  refine lv_aload_n hx hb dX6_init_4 rfl (lv_at hl 0 rfl) ?_
  refine lv_iconst (v := 2) hx hb dX6_init_5 (by decide) ?_
  refine kb_newr (N' := 2) hx hb hown (hts (.classLink RX6 9 RX2) (List.mem_of_getElem? (i := 4) rfl)) hO hK hH hA (by decide) (by decide) (by decide) (Nat.le_of_ble_eq_true rfl) (Nat.le_of_ble_eq_true rfl) dX6_init_6 (fun q6 H hH => ?_)
  have hH : HP G A s.heap [[(a, .inr (6, [.null, .int 0]))], [(q6, .inl (G.2.2.2, 2, .inr (.inr (.inr (.inr (fun _ => none))))))]] H _ := hH
  refine kb_putF (ty := .array (.object RX2)) (v := .ref q6) (WS' := [[(a, .inr (6, [.ref q6, .int 0]))], [(q6, .inl (G.2.2.2, 2, .inr (.inr (.inr (.inr (fun _ => none))))))]]) hx hb hts hin6 tyX6 tyX6_ok nmX6 hown hK hH 0 rfl rfl 0 (by decide) (hts (.fieldLink RX6 11 "CockWar$Slots" "kept" "[LCockWar$Hill;") (List.mem_of_getElem? (i := 5) rfl)) (fun _ h9 => h9) rfl hin rfl (by decide +kernel) rfl rfl (Nat.le_of_ble_eq_true rfl) rfl dX6_init_9 (fun H locs hH => ?_)
  refine lv_iconst (v := 0) hx hb dX6_init_12 (by decide) ?_
  refine lv_istore_n (lv' := [(1, .int (0 : Int32)), (0, .ref a)]) hx hb dX6_init_13 rfl hl (by decide) rfl (fun ls hl => ?_)
  suffices hloop : ∀ (k i : Nat) (gh : Nat → Nat → Nat) (H : Heap) (locs : List Loc) (ls : Array Slot), k + i = 2 → HP G A s.heap [[(a, .inr (6, [.ref q6, .int 0]))], [(q6, .inl (G.2.2.2, 2, .inr (.inr (.inr (.inr (fun j => if j < i then some (gh j 0) else none))))))], b_hills G i gh (fun _ => oZ)] H locs → lv_has ls 2 [(1, .int (nI i)), (0, .ref a)] → W p l e { frames := 2, cells := 13, slots := 92, locals := 32 } s m ([.ref a] : List Value).toArray below meth c H locs (1 + 6 * i) (2 + 45 * i) (MQ below (va_Qv (fun γ : ((Nat → Nat) × (Nat → Nat → Nat)) => γ.1 0 = a) (fun γ => PST G [(w_O6 G γ.1 γ.2 oZ (fun _ => oZ)).flatten] A) A) ([.ref a] : List Value).toArray s 13 92 A) (F0 m 14 ls []) by
    refine hloop 2 0 (fun _ _ => 0) H _ ls rfl ?_ hl
    refine kb_perm (List.Perm.of_eq ?_) hH
    simp [b_hills]
  intro k
  induction k with
  | zero =>
    intro i gh H locs ls hi hH hl
    have hi : i = 2 := by omega
    subst hi
    refine lv_iload_n hx hb dX6_init_14 rfl (lv_at hl 0 rfl) ?_
    refine lv_aload_n hx hb dX6_init_15 rfl (lv_at hl 1 rfl) ?_
    refine kb_get (v := .ref q6) hx hb hts hin6 hown hK hH 0 rfl rfl rfl 0 (by decide) (hts (.fieldLink RX6 11 "CockWar$Slots" "kept" "[LCockWar$Hill;") (List.mem_of_getElem? (i := 5) rfl)) (fun _ h9 => h9) rfl dX6_init_16 ?_
    refine kb_alen (v := nI 2) hx hb hK hH 1 2 rfl rfl rfl dX6_init_19 ?_
    refine lv_icmp_ge (tgt := 42) hx hb dX6_init_20 (by decide) (fun _ => ?_) (fun c2 => absurd (nI_le (Nat.le_refl _) (by decide)) c2)
    have hH := kb_arrq (f' := fun j => some (gh j 0)) 1 rfl (fun j hj => by simp [hj]) hH
    refine kb_nret (gL 0 [a, q6], gh) hx hb hr hH ?_ rfl dX6_init_42 hlocks
    rfl
  | succ k ih =>
    intro i gh H locs ls hi hH hl
    have hlt : i < 2 := by omega
    refine lv_iload_n hx hb dX6_init_14 rfl (lv_at hl 0 rfl) ?_
    refine lv_aload_n hx hb dX6_init_15 rfl (lv_at hl 1 rfl) ?_
    refine kb_get (v := .ref q6) hx hb hts hin6 hown hK hH 0 rfl rfl rfl 0 (by decide) (hts (.fieldLink RX6 11 "CockWar$Slots" "kept" "[LCockWar$Hill;") (List.mem_of_getElem? (i := 5) rfl)) (fun _ h9 => h9) rfl dX6_init_16 ?_
    refine kb_alen (v := nI 2) hx hb hK hH 1 2 rfl rfl rfl dX6_init_19 ?_
    refine lv_icmp_ge (tgt := 42) hx hb dX6_init_20 (by decide) (fun c2 => absurd c2 (nI_ge hlt (by decide))) (fun _ => ?_)
    refine lv_aload_n hx hb dX6_init_23 rfl (lv_at hl 1 rfl) ?_
    refine kb_get (v := .ref q6) hx hb hts hin6 hown hK hH 0 rfl rfl rfl 0 (by decide) (hts (.fieldLink RX6 11 "CockWar$Slots" "kept" "[LCockWar$Hill;") (List.mem_of_getElem? (i := 5) rfl)) (fun _ h9 => h9) rfl dX6_init_24 ?_
    refine lv_iload_n hx hb dX6_init_27 rfl (lv_at hl 0 rfl) ?_
    refine kb_newo (ci := 2) (fs := [.null, .null, .null, .null, .null, .int 0, .int 0, .int 0, .int 0, .int 0, .int 0]) (C := RX2) (T := TX2) (N := 11) hx hb hts hin2 tyX2 tyX2_ok hown (hts (.classLink RX6 9 RX2) (List.mem_of_getElem? (i := 4) rfl)) (hts (.instantiable RX2 11) (List.mem_of_getElem? (i := 6) rfl)) (hts (.initialized RX2) (List.mem_of_getElem? (i := 7) rfl)) hK hH hA rfl (fun j hj => by rcases (show j = 0 ∨ j = 1 ∨ j = 2 ∨ j = 3 ∨ j = 4 ∨ j = 5 ∨ j = 6 ∨ j = 7 ∨ j = 8 ∨ j = 9 ∨ j = 10 by omega) with rfl | rfl | rfl | rfl | rfl | rfl | rfl | rfl | rfl | rfl | rfl <;> rfl) (show 1 + 6 * i + 1 ≤ 13 by omega) (show 2 + 45 * i + 11 ≤ 92 by omega) dX6_init_28 (fun qn H hH => ?_)
    have hH : HP G A s.heap [[(a, .inr (6, [.ref q6, .int 0]))], [(q6, .inl (G.2.2.2, 2, .inr (.inr (.inr (.inr (fun j => if j < i then some (gh j 0) else none))))))], b_hills G i gh (fun _ => oZ), [(qn, .inr (2, [.null, .null, .null, .null, .null, .int 0, .int 0, .int 0, .int 0, .int 0, .int 0]))]] H _ := hH
    refine lv_dup hx hb dX6_init_31 rfl ?_
    refine kb_cn hH hA 3 rfl (va_runIN (As := []) (rest := [.ref qn, .int (nI i), .ref q6]) ⟨hx, hb, hml, hown, hts⟩ (c_X2_init l G qn H.size) ⟨va_cnB 0 hts gX6_init_X2_init_n17 rfl rfl rfl (kb_NM hN 9 rfl) (hts (.initialized RX2) (List.mem_of_getElem? (i := 7) rfl)) hd_X2_init ⟨Nat.le_of_ble_eq_true rfl, Nat.le_of_ble_eq_true rfl⟩, rfl, (hts (.instanceMethod yX2_init) (List.mem_of_getElem? (i := 8) rfl))⟩ (kb_preA hH hK hN hO 3 rfl) rfl rfl hl.1 rfl (lv_room (Nat.le_of_ble_eq_true rfl)) dX6_init_32 ⟨(show 1 + 6 * i + 1 + 5 ≤ 13 by omega), (show 2 + 45 * i + 11 + 34 ≤ 92 by omega)⟩) (fun gn H locs hgn hH => ?_)
    have hgn : gn 0 = qn := hgn
    subst hgn
    have hH : HP G A s.heap [[(a, .inr (6, [.ref q6, .int 0]))], [(q6, .inl (G.2.2.2, 2, .inr (.inr (.inr (.inr (fun j => if j < i then some (gh j 0) else none))))))], b_hills G i gh (fun _ => oZ), (w_O2 G gn oZ).flatten] H _ := hH
    refine kb_aast (WS' := [[(a, .inr (6, [.ref q6, .int 0]))], [(q6, .inl (G.2.2.2, 2, .inr (.inr (.inr (.inr (va_up (fun j => if j < i then some (gh j 0) else none) (nI i).toNatClampNeg (some (gn 0))))))))], b_hills G i gh (fun _ => oZ), (w_O2 G gn oZ).flatten]) hx hb hK hH 1 3 rfl rfl rfl (nI_in hlt (by decide)) rfl dX6_init_35 (fun H locs hH => ?_)
    refine lv_iinc (v := (nI (i + 1))) (lv' := [(1, .int (nI (i + 1))), (0, .ref a)]) hx hb dX6_init_36 hl (k := 0) rfl (nI_1 _) (by decide) rfl (fun ls hl => ?_)
    refine lv_goto (tgt := 14) hx hb dX6_init_39 (by decide) ?_
    refine W.widen (k := 1 + 6 * (i + 1)) (n := 2 + 45 * (i + 1)) (by omega) (by omega) ?_
    refine ih (i + 1) (va_up gh i gn) H locs ls (by omega) ?_ hl
    refine kb_perm (List.Perm.of_eq ?_) hH
    have hf : va_up (fun j => if j < i then some (gh j 0) else none) (nI i).toNatClampNeg (some (gn 0)) = (fun j => if j < i + 1 then some (va_up gh i gn j 0) else none) := by
      rw [nI_clamp (by omega)]
      funext j
      by_cases h1 : j = i
      · subst h1; simp [va_up]
      · have h2 : (j < i + 1) = (j < i) := by rw [eq_iff_iff]; omega
        simp [va_up, h1, h2]
    rw [hf, kb_hset]
    simp only [List.flatten_cons, List.flatten_nil, List.append_nil, List.append_assoc]
set_option maxHeartbeats 4000000 in
set_option maxRecDepth 100000 in
theorem c_X7_init (l : Launch) (G : Ge) : CN (σ := ((Nat → Nat → Nat) × (Nat → Nat → Nat → Nat))) l yX7_init wsX7_init { frames := 3, cells := 138, slots := 1043, locals := 53 } G 7 [.null, .null, .null, .null, .null, .null, .null, .null, .long 0] (fun a γ => γ.1 0 0 = a) (fun γ => (w_C7 G γ.1 γ.2).flatten) 138 1043 := by
  intro a sz
  refine Met.ofW (cc := cX7_init) (maxL := 1) (ret := none) (by decide) rfl ?_
  intro p e s m args below meth c s₁ B hml hv
  obtain ⟨rfl, hpre, hO⟩ := hv
  obtain ⟨hsz, hH, hK, hN, hA⟩ := kb_start hpre
  subst hsz
  have hx := B.exec
  have hb := B.bytes
  have hr := B.returns
  have hts := atoms_spec (ws := wsX7_init) B.pre
  have hown : s.vm.findClass RX7 = some m.cls := findClass_of_methodNamed B.named
  have hlocks := B.notSynchronized
  have hin : meth.name = "<init>" := (name_of_methodNamed B.named B.method).1
  have hH : HP G (va_A [(a, .inr (7, [.null, .null, .null, .null, .null, .null, .null, .null, .long 0]))] s.heap.size) s.heap [[(a, .inr (7, [.null, .null, .null, .null, .null, .null, .null, .null, .long 0]))]] s.heap [] := hH
  have hA : ∀ q, s.heap.size ≤ q → va_A [(a, .inr (7, [.null, .null, .null, .null, .null, .null, .null, .null, .long 0]))] s.heap.size q := hA
  generalize hAe : va_A [(a, .inr (7, [.null, .null, .null, .null, .null, .null, .null, .null, .long 0]))] s.heap.size = A at hH hA ⊢
  have hl := lv_entry ([.ref a]) (n := 1) (Nat.le_of_ble_eq_true rfl)
  rw [lg_entry_eq]
  generalize (lg_sl ([.ref a]) ++ List.replicate (1 - (lg_sl ([.ref a])).length) Slot.unset).toArray = ls at hl ⊢
  have hl : lv_has ls 1 [(0, .ref a)] := hl
  have hin4 : ∀ w ∈ u_ws RX4 TX4 6, w ∈ wsX7_init := fun w h => List.mem_cons_of_mem _ (List.mem_append_left _ (List.mem_append_left _ (List.mem_append_left _ (List.mem_append_left _ (List.mem_append_left _ (List.mem_append_left _ (List.mem_append_left _ (List.mem_append_right _ h))))))))
  have hin7 : ∀ w ∈ u_ws RX7 TX7 9, w ∈ wsX7_init := fun w h => List.mem_cons_of_mem _ (List.mem_append_left _ (List.mem_append_left _ (List.mem_append_left _ (List.mem_append_left _ (List.mem_append_left _ (List.mem_append_left _ (List.mem_append_right _ h)))))))
  have hin2 : ∀ w ∈ u_ws RX2 TX2 11, w ∈ wsX7_init := fun w h => List.mem_cons_of_mem _ (List.mem_append_left _ (List.mem_append_left _ (List.mem_append_left _ (List.mem_append_left _ (List.mem_append_left _ (List.mem_append_right _ h))))))
  have hin1 : ∀ w ∈ u_ws RX1 TX1 4, w ∈ wsX7_init := fun w h => List.mem_cons_of_mem _ (List.mem_append_left _ (List.mem_append_left _ (List.mem_append_left _ (List.mem_append_left _ (List.mem_append_right _ h)))))
  have hin0 : ∀ w ∈ u_ws RX0 TX0 3, w ∈ wsX7_init := fun w h => List.mem_cons_of_mem _ (List.mem_append_left _ (List.mem_append_left _ (List.mem_append_left _ (List.mem_append_right _ h))))
  have hin5 : ∀ w ∈ u_ws RX5 TX5 3, w ∈ wsX7_init := fun w h => List.mem_cons_of_mem _ (List.mem_append_left _ (List.mem_append_left _ (List.mem_append_right _ h)))
  have hin6 : ∀ w ∈ u_ws RX6 TX6 2, w ∈ wsX7_init := fun w h => List.mem_cons_of_mem _ (List.mem_append_left _ (List.mem_append_right _ h))
  have hin3 : ∀ w ∈ u_ws RX3 TX3 5, w ∈ wsX7_init := fun w h => List.mem_cons_of_mem _ (List.mem_append_right _ h)
  refine lv_aload_n hx hb dX7_init_0 rfl (lv_at hl 0 rfl) ?_
  refine W.objInit hx hb hown (hts (.methodLink RX7 3 objectInit) (List.mem_of_getElem? (i := 1) rfl)) (hts (.instanceMethod objectInit) (List.mem_of_getElem? (i := 2) rfl)) (hts _ (List.mem_of_getElem? (i := 3) rfl)) rfl (by rw [hml]; exact hl.1) rfl dX7_init_1 (Nat.le_of_ble_eq_true rfl) (Nat.le_of_ble_eq_true rfl) ?_
  refine W.eq (g2 := F0 m 4 ls []) rfl ?_
  refine lv_aload_n hx hb dX7_init_4 rfl (lv_at hl 0 rfl) ?_
  refine kb_newo (ci := 4) (fs := [.null, .null, .null, .int 0, .int 0, .int 0]) (C := RX4) (T := TX4) (N := 6) hx hb hts hin4 tyX4 tyX4_ok hown (hts (.classLink RX7 9 RX4) (List.mem_of_getElem? (i := 4) rfl)) (hts (.instantiable RX4 6) (List.mem_of_getElem? (i := 5) rfl)) (hts (.initialized RX4) (List.mem_of_getElem? (i := 6) rfl)) hK hH hA rfl (fun j hj => by rcases (show j = 0 ∨ j = 1 ∨ j = 2 ∨ j = 3 ∨ j = 4 ∨ j = 5 by omega) with rfl | rfl | rfl | rfl | rfl | rfl <;> rfl) (Nat.le_of_ble_eq_true rfl) (Nat.le_of_ble_eq_true rfl) dX7_init_5 (fun q5 H hH => ?_)
  have hH : HP G A s.heap [[(a, .inr (7, [.null, .null, .null, .null, .null, .null, .null, .null, .long 0]))], [(q5, .inr (4, [.null, .null, .null, .int 0, .int 0, .int 0]))]] H _ := hH
  refine lv_dup hx hb dX7_init_8 rfl ?_
  refine kb_cn hH hA 1 rfl (va_runIN (As := []) (rest := [.ref q5, .ref a]) ⟨hx, hb, hml, hown, hts⟩ (c_X4_init l G q5 H.size) ⟨va_cnB 0 hts gX7_init_X4_init_n11 rfl rfl rfl (kb_NM hN 0 rfl) (hts (.initialized RX4) (List.mem_of_getElem? (i := 6) rfl)) hd_X4_init ⟨Nat.le_of_ble_eq_true rfl, Nat.le_of_ble_eq_true rfl⟩, rfl, (hts (.instanceMethod yX4_init) (List.mem_of_getElem? (i := 34) rfl))⟩ (kb_preA hH hK hN hO 1 rfl) rfl rfl hl.1 rfl (lv_room (Nat.le_of_ble_eq_true rfl)) dX7_init_9 ⟨Nat.le_of_ble_eq_true rfl, Nat.le_of_ble_eq_true rfl⟩) (fun g9 H locs hg9 hH => ?_)
  have hg9 : g9 0 0 = q5 := hg9
  subst hg9
  have hH : HP G A s.heap [[(a, .inr (7, [.null, .null, .null, .null, .null, .null, .null, .null, .long 0]))], (w_O4 G (g9 0) (g9 1 0) (g9 2 0) oZ ++ w_O2 G (g9 1) oZ ++ w_O1 G (g9 2) oZ).flatten] H _ := hH
  refine kb_putF (ty := .object RX4) (v := .ref (g9 0 0)) (WS' := [[(a, .inr (7, [.ref (g9 0 0), .null, .null, .null, .null, .null, .null, .null, .long 0]))], (w_O4 G (g9 0) (g9 1 0) (g9 2 0) oZ ++ w_O2 G (g9 1) oZ ++ w_O1 G (g9 2) oZ).flatten]) hx hb hts hin7 tyX7 tyX7_ok nmX7 hown hK hH 0 rfl rfl 0 (by decide) (hts (.fieldLink RX7 12 "CockWar" "reader" "LCockWar$Reader;") (List.mem_of_getElem? (i := 7) rfl)) (fun _ h9 => h9) rfl hin rfl (by decide +kernel) rfl rfl (Nat.le_of_ble_eq_true rfl) rfl dX7_init_12 (fun H locs hH => ?_)
  refine lv_aload_n hx hb dX7_init_15 rfl (lv_at hl 0 rfl) ?_
  refine kb_newo (ci := 2) (fs := [.null, .null, .null, .null, .null, .int 0, .int 0, .int 0, .int 0, .int 0, .int 0]) (C := RX2) (T := TX2) (N := 11) hx hb hts hin2 tyX2 tyX2_ok hown (hts (.classLink RX7 16 RX2) (List.mem_of_getElem? (i := 8) rfl)) (hts (.instantiable RX2 11) (List.mem_of_getElem? (i := 9) rfl)) (hts (.initialized RX2) (List.mem_of_getElem? (i := 10) rfl)) hK hH hA rfl (fun j hj => by rcases (show j = 0 ∨ j = 1 ∨ j = 2 ∨ j = 3 ∨ j = 4 ∨ j = 5 ∨ j = 6 ∨ j = 7 ∨ j = 8 ∨ j = 9 ∨ j = 10 by omega) with rfl | rfl | rfl | rfl | rfl | rfl | rfl | rfl | rfl | rfl | rfl <;> rfl) (Nat.le_of_ble_eq_true rfl) (Nat.le_of_ble_eq_true rfl) dX7_init_16 (fun q16 H hH => ?_)
  have hH : HP G A s.heap [[(a, .inr (7, [.ref (g9 0 0), .null, .null, .null, .null, .null, .null, .null, .long 0]))], (w_O4 G (g9 0) (g9 1 0) (g9 2 0) oZ ++ w_O2 G (g9 1) oZ ++ w_O1 G (g9 2) oZ).flatten, [(q16, .inr (2, [.null, .null, .null, .null, .null, .int 0, .int 0, .int 0, .int 0, .int 0, .int 0]))]] H _ := hH
  refine lv_dup hx hb dX7_init_19 rfl ?_
  refine kb_cn hH hA 2 rfl (va_runIN (As := []) (rest := [.ref q16, .ref a]) ⟨hx, hb, hml, hown, hts⟩ (c_X2_init l G q16 H.size) ⟨va_cnB 0 hts gX7_init_X2_init_n18 rfl rfl rfl (kb_NM hN 3 rfl) (hts (.initialized RX2) (List.mem_of_getElem? (i := 10) rfl)) hd_X2_init ⟨Nat.le_of_ble_eq_true rfl, Nat.le_of_ble_eq_true rfl⟩, rfl, (hts (.instanceMethod yX2_init) (List.mem_of_getElem? (i := 43) rfl))⟩ (kb_preA hH hK hN hO 2 rfl) rfl rfl hl.1 rfl (lv_room (Nat.le_of_ble_eq_true rfl)) dX7_init_20 ⟨Nat.le_of_ble_eq_true rfl, Nat.le_of_ble_eq_true rfl⟩) (fun g20 H locs hg20 hH => ?_)
  have hg20 : g20 0 = q16 := hg20
  subst hg20
  have hH : HP G A s.heap [[(a, .inr (7, [.ref (g9 0 0), .null, .null, .null, .null, .null, .null, .null, .long 0]))], (w_O4 G (g9 0) (g9 1 0) (g9 2 0) oZ ++ w_O2 G (g9 1) oZ ++ w_O1 G (g9 2) oZ).flatten, (w_O2 G g20 oZ).flatten] H _ := hH
  refine kb_putF (ty := .object RX2) (v := .ref (g20 0)) (WS' := [[(a, .inr (7, [.ref (g9 0 0), .ref (g20 0), .null, .null, .null, .null, .null, .null, .long 0]))], (w_O4 G (g9 0) (g9 1 0) (g9 2 0) oZ ++ w_O2 G (g9 1) oZ ++ w_O1 G (g9 2) oZ).flatten, (w_O2 G g20 oZ).flatten]) hx hb hts hin7 tyX7 tyX7_ok nmX7 hown hK hH 0 rfl rfl 1 (by decide) (hts (.fieldLink RX7 19 "CockWar" "now" "LCockWar$Hill;") (List.mem_of_getElem? (i := 11) rfl)) (fun _ h9 => h9) rfl hin rfl (by decide +kernel) rfl rfl (Nat.le_of_ble_eq_true rfl) rfl dX7_init_23 (fun H locs hH => ?_)
  refine lv_aload_n hx hb dX7_init_26 rfl (lv_at hl 0 rfl) ?_
  refine kb_newo (ci := 1) (fs := [.null, .null, .null, .int 0]) (C := RX1) (T := TX1) (N := 4) hx hb hts hin1 tyX1 tyX1_ok hown (hts (.classLink RX7 23 RX1) (List.mem_of_getElem? (i := 12) rfl)) (hts (.instantiable RX1 4) (List.mem_of_getElem? (i := 13) rfl)) (hts (.initialized RX1) (List.mem_of_getElem? (i := 14) rfl)) hK hH hA rfl (fun j hj => by rcases (show j = 0 ∨ j = 1 ∨ j = 2 ∨ j = 3 by omega) with rfl | rfl | rfl | rfl <;> rfl) (Nat.le_of_ble_eq_true rfl) (Nat.le_of_ble_eq_true rfl) dX7_init_27 (fun q27 H hH => ?_)
  have hH : HP G A s.heap [[(a, .inr (7, [.ref (g9 0 0), .ref (g20 0), .null, .null, .null, .null, .null, .null, .long 0]))], (w_O4 G (g9 0) (g9 1 0) (g9 2 0) oZ ++ w_O2 G (g9 1) oZ ++ w_O1 G (g9 2) oZ).flatten, (w_O2 G g20 oZ).flatten, [(q27, .inr (1, [.null, .null, .null, .int 0]))]] H _ := hH
  refine lv_dup hx hb dX7_init_30 rfl ?_
  refine kb_cn hH hA 3 rfl (va_runIN (As := []) (rest := [.ref q27, .ref a]) ⟨hx, hb, hml, hown, hts⟩ (c_X1_init l G q27 H.size) ⟨va_cnB 0 hts gX7_init_X1_init_n25 rfl rfl rfl (kb_NM hN 4 rfl) (hts (.initialized RX1) (List.mem_of_getElem? (i := 14) rfl)) hd_X1_init ⟨Nat.le_of_ble_eq_true rfl, Nat.le_of_ble_eq_true rfl⟩, rfl, (hts (.instanceMethod yX1_init) (List.mem_of_getElem? (i := 51) rfl))⟩ (kb_preA hH hK hN hO 3 rfl) rfl rfl hl.1 rfl (lv_room (Nat.le_of_ble_eq_true rfl)) dX7_init_31 ⟨Nat.le_of_ble_eq_true rfl, Nat.le_of_ble_eq_true rfl⟩) (fun g31 H locs hg31 hH => ?_)
  have hg31 : g31 0 = q27 := hg31
  subst hg31
  have hH : HP G A s.heap [[(a, .inr (7, [.ref (g9 0 0), .ref (g20 0), .null, .null, .null, .null, .null, .null, .long 0]))], (w_O4 G (g9 0) (g9 1 0) (g9 2 0) oZ ++ w_O2 G (g9 1) oZ ++ w_O1 G (g9 2) oZ).flatten, (w_O2 G g20 oZ).flatten, (w_O1 G g31 oZ).flatten] H _ := hH
  refine kb_putF (ty := .object RX1) (v := .ref (g31 0)) (WS' := [[(a, .inr (7, [.ref (g9 0 0), .ref (g20 0), .ref (g31 0), .null, .null, .null, .null, .null, .long 0]))], (w_O4 G (g9 0) (g9 1 0) (g9 2 0) oZ ++ w_O2 G (g9 1) oZ ++ w_O1 G (g9 2) oZ).flatten, (w_O2 G g20 oZ).flatten, (w_O1 G g31 oZ).flatten]) hx hb hts hin7 tyX7 tyX7_ok nmX7 hown hK hH 0 rfl rfl 2 (by decide) (hts (.fieldLink RX7 26 "CockWar" "air" "LCockWar$Air;") (List.mem_of_getElem? (i := 15) rfl)) (fun _ h9 => h9) rfl hin rfl (by decide +kernel) rfl rfl (Nat.le_of_ble_eq_true rfl) rfl dX7_init_34 (fun H locs hH => ?_)
  refine lv_aload_n hx hb dX7_init_37 rfl (lv_at hl 0 rfl) ?_
  refine kb_newo (ci := 0) (fs := [.null, .int 0, .int 0]) (C := RX0) (T := TX0) (N := 3) hx hb hts hin0 tyX0 tyX0_ok hown (hts (.classLink RX7 30 RX0) (List.mem_of_getElem? (i := 16) rfl)) (hts (.instantiable RX0 3) (List.mem_of_getElem? (i := 17) rfl)) (hts (.initialized RX0) (List.mem_of_getElem? (i := 18) rfl)) hK hH hA rfl (fun j hj => by rcases (show j = 0 ∨ j = 1 ∨ j = 2 by omega) with rfl | rfl | rfl <;> rfl) (Nat.le_of_ble_eq_true rfl) (Nat.le_of_ble_eq_true rfl) dX7_init_38 (fun q38 H hH => ?_)
  have hH : HP G A s.heap [[(a, .inr (7, [.ref (g9 0 0), .ref (g20 0), .ref (g31 0), .null, .null, .null, .null, .null, .long 0]))], (w_O4 G (g9 0) (g9 1 0) (g9 2 0) oZ ++ w_O2 G (g9 1) oZ ++ w_O1 G (g9 2) oZ).flatten, (w_O2 G g20 oZ).flatten, (w_O1 G g31 oZ).flatten, [(q38, .inr (0, [.null, .int 0, .int 0]))]] H _ := hH
  refine lv_dup hx hb dX7_init_41 rfl ?_
  refine kb_cn hH hA 4 rfl (va_runIN (As := []) (rest := [.ref q38, .ref a]) ⟨hx, hb, hml, hown, hts⟩ (c_X0_init l G q38 H.size) ⟨va_cnB 0 hts gX7_init_X0_init_n32 rfl rfl rfl (kb_NM hN 5 rfl) (hts (.initialized RX0) (List.mem_of_getElem? (i := 18) rfl)) hd_X0_init ⟨Nat.le_of_ble_eq_true rfl, Nat.le_of_ble_eq_true rfl⟩, rfl, (hts (.instanceMethod yX0_init) (List.mem_of_getElem? (i := 57) rfl))⟩ (kb_preA hH hK hN hO 4 rfl) rfl rfl hl.1 rfl (lv_room (Nat.le_of_ble_eq_true rfl)) dX7_init_42 ⟨Nat.le_of_ble_eq_true rfl, Nat.le_of_ble_eq_true rfl⟩) (fun g42 H locs hg42 hH => ?_)
  have hg42 : g42.1 0 = q38 := hg42
  subst hg42
  have hH : HP G A s.heap [[(a, .inr (7, [.ref (g9 0 0), .ref (g20 0), .ref (g31 0), .null, .null, .null, .null, .null, .long 0]))], (w_O4 G (g9 0) (g9 1 0) (g9 2 0) oZ ++ w_O2 G (g9 1) oZ ++ w_O1 G (g9 2) oZ).flatten, (w_O2 G g20 oZ).flatten, (w_O1 G g31 oZ).flatten, (w_O0 G g42.1 g42.2 oZ (fun _ => oZ)).flatten] H _ := hH
  refine kb_putF (ty := .object RX0) (v := .ref (g42.1 0)) (WS' := [[(a, .inr (7, [.ref (g9 0 0), .ref (g20 0), .ref (g31 0), .ref (g42.1 0), .null, .null, .null, .null, .long 0]))], (w_O4 G (g9 0) (g9 1 0) (g9 2 0) oZ ++ w_O2 G (g9 1) oZ ++ w_O1 G (g9 2) oZ).flatten, (w_O2 G g20 oZ).flatten, (w_O1 G g31 oZ).flatten, (w_O0 G g42.1 g42.2 oZ (fun _ => oZ)).flatten]) hx hb hts hin7 tyX7 tyX7_ok nmX7 hown hK hH 0 rfl rfl 3 (by decide) (hts (.fieldLink RX7 33 "CockWar" "acts" "LCockWar$ActRow;") (List.mem_of_getElem? (i := 19) rfl)) (fun _ h9 => h9) rfl hin rfl (by decide +kernel) rfl rfl (Nat.le_of_ble_eq_true rfl) rfl dX7_init_45 (fun H locs hH => ?_)
  refine lv_aload_n hx hb dX7_init_48 rfl (lv_at hl 0 rfl) ?_
  refine kb_newo (ci := 5) (fs := [.null, .null, .int 0]) (C := RX5) (T := TX5) (N := 3) hx hb hts hin5 tyX5 tyX5_ok hown (hts (.classLink RX7 37 RX5) (List.mem_of_getElem? (i := 20) rfl)) (hts (.instantiable RX5 3) (List.mem_of_getElem? (i := 21) rfl)) (hts (.initialized RX5) (List.mem_of_getElem? (i := 22) rfl)) hK hH hA rfl (fun j hj => by rcases (show j = 0 ∨ j = 1 ∨ j = 2 by omega) with rfl | rfl | rfl <;> rfl) (Nat.le_of_ble_eq_true rfl) (Nat.le_of_ble_eq_true rfl) dX7_init_49 (fun q49 H hH => ?_)
  have hH : HP G A s.heap [[(a, .inr (7, [.ref (g9 0 0), .ref (g20 0), .ref (g31 0), .ref (g42.1 0), .null, .null, .null, .null, .long 0]))], (w_O4 G (g9 0) (g9 1 0) (g9 2 0) oZ ++ w_O2 G (g9 1) oZ ++ w_O1 G (g9 2) oZ).flatten, (w_O2 G g20 oZ).flatten, (w_O1 G g31 oZ).flatten, (w_O0 G g42.1 g42.2 oZ (fun _ => oZ)).flatten, [(q49, .inr (5, [.null, .null, .int 0]))]] H _ := hH
  refine lv_dup hx hb dX7_init_52 rfl ?_
  refine kb_cn hH hA 5 rfl (va_runIN (As := []) (rest := [.ref q49, .ref a]) ⟨hx, hb, hml, hown, hts⟩ (c_X5_init l G q49 H.size) ⟨va_cnB 0 hts gX7_init_X5_init_n39 rfl rfl rfl (kb_NM hN 7 rfl) (hts (.initialized RX5) (List.mem_of_getElem? (i := 22) rfl)) hd_X5_init ⟨Nat.le_of_ble_eq_true rfl, Nat.le_of_ble_eq_true rfl⟩, rfl, (hts (.instanceMethod yX5_init) (List.mem_of_getElem? (i := 62) rfl))⟩ (kb_preA hH hK hN hO 5 rfl) rfl rfl hl.1 rfl (lv_room (Nat.le_of_ble_eq_true rfl)) dX7_init_53 ⟨Nat.le_of_ble_eq_true rfl, Nat.le_of_ble_eq_true rfl⟩) (fun g53 H locs hg53 hH => ?_)
  have hg53 : g53 0 = q49 := hg53
  subst hg53
  have hH : HP G A s.heap [[(a, .inr (7, [.ref (g9 0 0), .ref (g20 0), .ref (g31 0), .ref (g42.1 0), .null, .null, .null, .null, .long 0]))], (w_O4 G (g9 0) (g9 1 0) (g9 2 0) oZ ++ w_O2 G (g9 1) oZ ++ w_O1 G (g9 2) oZ).flatten, (w_O2 G g20 oZ).flatten, (w_O1 G g31 oZ).flatten, (w_O0 G g42.1 g42.2 oZ (fun _ => oZ)).flatten, (w_O5 G g53 oZ).flatten] H _ := hH
  refine kb_putF (ty := .object RX5) (v := .ref (g53 0)) (WS' := [[(a, .inr (7, [.ref (g9 0 0), .ref (g20 0), .ref (g31 0), .ref (g42.1 0), .ref (g53 0), .null, .null, .null, .long 0]))], (w_O4 G (g9 0) (g9 1 0) (g9 2 0) oZ ++ w_O2 G (g9 1) oZ ++ w_O1 G (g9 2) oZ).flatten, (w_O2 G g20 oZ).flatten, (w_O1 G g31 oZ).flatten, (w_O0 G g42.1 g42.2 oZ (fun _ => oZ)).flatten, (w_O5 G g53 oZ).flatten]) hx hb hts hin7 tyX7 tyX7_ok nmX7 hown hK hH 0 rfl rfl 4 (by decide) (hts (.fieldLink RX7 40 "CockWar" "sights" "LCockWar$Sights;") (List.mem_of_getElem? (i := 23) rfl)) (fun _ h9 => h9) rfl hin rfl (by decide +kernel) rfl rfl (Nat.le_of_ble_eq_true rfl) rfl dX7_init_56 (fun H locs hH => ?_)
  refine lv_aload_n hx hb dX7_init_59 rfl (lv_at hl 0 rfl) ?_
  refine kb_newo (ci := 6) (fs := [.null, .int 0]) (C := RX6) (T := TX6) (N := 2) hx hb hts hin6 tyX6 tyX6_ok hown (hts (.classLink RX7 44 RX6) (List.mem_of_getElem? (i := 24) rfl)) (hts (.instantiable RX6 2) (List.mem_of_getElem? (i := 25) rfl)) (hts (.initialized RX6) (List.mem_of_getElem? (i := 26) rfl)) hK hH hA rfl (fun j hj => by rcases (show j = 0 ∨ j = 1 by omega) with rfl | rfl <;> rfl) (Nat.le_of_ble_eq_true rfl) (Nat.le_of_ble_eq_true rfl) dX7_init_60 (fun q60 H hH => ?_)
  have hH : HP G A s.heap [[(a, .inr (7, [.ref (g9 0 0), .ref (g20 0), .ref (g31 0), .ref (g42.1 0), .ref (g53 0), .null, .null, .null, .long 0]))], (w_O4 G (g9 0) (g9 1 0) (g9 2 0) oZ ++ w_O2 G (g9 1) oZ ++ w_O1 G (g9 2) oZ).flatten, (w_O2 G g20 oZ).flatten, (w_O1 G g31 oZ).flatten, (w_O0 G g42.1 g42.2 oZ (fun _ => oZ)).flatten, (w_O5 G g53 oZ).flatten, [(q60, .inr (6, [.null, .int 0]))]] H _ := hH
  refine lv_dup hx hb dX7_init_63 rfl ?_
  refine kb_cn hH hA 6 rfl (va_runIN (As := []) (rest := [.ref q60, .ref a]) ⟨hx, hb, hml, hown, hts⟩ (c_X6_init l G q60 H.size) ⟨va_cnB 0 hts gX7_init_X6_init_n46 rfl rfl rfl (kb_NM hN 8 rfl) (hts (.initialized RX6) (List.mem_of_getElem? (i := 26) rfl)) hd_X6_init ⟨Nat.le_of_ble_eq_true rfl, Nat.le_of_ble_eq_true rfl⟩, rfl, (hts (.instanceMethod yX6_init) (List.mem_of_getElem? (i := 67) rfl))⟩ (kb_preA hH hK hN hO 6 rfl) rfl rfl hl.1 rfl (lv_room (Nat.le_of_ble_eq_true rfl)) dX7_init_64 ⟨Nat.le_of_ble_eq_true rfl, Nat.le_of_ble_eq_true rfl⟩) (fun g64 H locs hg64 hH => ?_)
  have hg64 : g64.1 0 = q60 := hg64
  subst hg64
  have hH : HP G A s.heap [[(a, .inr (7, [.ref (g9 0 0), .ref (g20 0), .ref (g31 0), .ref (g42.1 0), .ref (g53 0), .null, .null, .null, .long 0]))], (w_O4 G (g9 0) (g9 1 0) (g9 2 0) oZ ++ w_O2 G (g9 1) oZ ++ w_O1 G (g9 2) oZ).flatten, (w_O2 G g20 oZ).flatten, (w_O1 G g31 oZ).flatten, (w_O0 G g42.1 g42.2 oZ (fun _ => oZ)).flatten, (w_O5 G g53 oZ).flatten, (w_O6 G g64.1 g64.2 oZ (fun _ => oZ)).flatten] H _ := hH
  refine kb_putF (ty := .object RX6) (v := .ref (g64.1 0)) (WS' := [[(a, .inr (7, [.ref (g9 0 0), .ref (g20 0), .ref (g31 0), .ref (g42.1 0), .ref (g53 0), .ref (g64.1 0), .null, .null, .long 0]))], (w_O4 G (g9 0) (g9 1 0) (g9 2 0) oZ ++ w_O2 G (g9 1) oZ ++ w_O1 G (g9 2) oZ).flatten, (w_O2 G g20 oZ).flatten, (w_O1 G g31 oZ).flatten, (w_O0 G g42.1 g42.2 oZ (fun _ => oZ)).flatten, (w_O5 G g53 oZ).flatten, (w_O6 G g64.1 g64.2 oZ (fun _ => oZ)).flatten]) hx hb hts hin7 tyX7 tyX7_ok nmX7 hown hK hH 0 rfl rfl 5 (by decide) (hts (.fieldLink RX7 47 "CockWar" "slots" "LCockWar$Slots;") (List.mem_of_getElem? (i := 27) rfl)) (fun _ h9 => h9) rfl hin rfl (by decide +kernel) rfl rfl (Nat.le_of_ble_eq_true rfl) rfl dX7_init_67 (fun H locs hH => ?_)
  refine lv_aload_n hx hb dX7_init_70 rfl (lv_at hl 0 rfl) ?_
  refine kb_newo (ci := 3) (fs := [.null, .int 0, .int 0, .int 0, .int 0]) (C := RX3) (T := TX3) (N := 5) hx hb hts hin3 tyX3 tyX3_ok hown (hts (.classLink RX7 51 RX3) (List.mem_of_getElem? (i := 28) rfl)) (hts (.instantiable RX3 5) (List.mem_of_getElem? (i := 29) rfl)) (hts (.initialized RX3) (List.mem_of_getElem? (i := 30) rfl)) hK hH hA rfl (fun j hj => by rcases (show j = 0 ∨ j = 1 ∨ j = 2 ∨ j = 3 ∨ j = 4 by omega) with rfl | rfl | rfl | rfl | rfl <;> rfl) (Nat.le_of_ble_eq_true rfl) (Nat.le_of_ble_eq_true rfl) dX7_init_71 (fun q71 H hH => ?_)
  have hH : HP G A s.heap [[(a, .inr (7, [.ref (g9 0 0), .ref (g20 0), .ref (g31 0), .ref (g42.1 0), .ref (g53 0), .ref (g64.1 0), .null, .null, .long 0]))], (w_O4 G (g9 0) (g9 1 0) (g9 2 0) oZ ++ w_O2 G (g9 1) oZ ++ w_O1 G (g9 2) oZ).flatten, (w_O2 G g20 oZ).flatten, (w_O1 G g31 oZ).flatten, (w_O0 G g42.1 g42.2 oZ (fun _ => oZ)).flatten, (w_O5 G g53 oZ).flatten, (w_O6 G g64.1 g64.2 oZ (fun _ => oZ)).flatten, [(q71, .inr (3, [.null, .int 0, .int 0, .int 0, .int 0]))]] H _ := hH
  refine lv_dup hx hb dX7_init_74 rfl ?_
  refine kb_cn hH hA 7 rfl (va_runIN (As := []) (rest := [.ref q71, .ref a]) ⟨hx, hb, hml, hown, hts⟩ (c_X3_init l G q71 H.size) ⟨va_cnB 0 hts gX7_init_X3_init_n53 rfl rfl rfl (kb_NM hN 10 rfl) (hts (.initialized RX3) (List.mem_of_getElem? (i := 30) rfl)) hd_X3_init ⟨Nat.le_of_ble_eq_true rfl, Nat.le_of_ble_eq_true rfl⟩, rfl, (hts (.instanceMethod yX3_init) (List.mem_of_getElem? (i := 72) rfl))⟩ (kb_preA hH hK hN hO 7 rfl) rfl rfl hl.1 rfl (lv_room (Nat.le_of_ble_eq_true rfl)) dX7_init_75 ⟨Nat.le_of_ble_eq_true rfl, Nat.le_of_ble_eq_true rfl⟩) (fun g75 H locs hg75 hH => ?_)
  have hg75 : g75 0 0 = q71 := hg75
  subst hg75
  have hH : HP G A s.heap [[(a, .inr (7, [.ref (g9 0 0), .ref (g20 0), .ref (g31 0), .ref (g42.1 0), .ref (g53 0), .ref (g64.1 0), .null, .null, .long 0]))], (w_O4 G (g9 0) (g9 1 0) (g9 2 0) oZ ++ w_O2 G (g9 1) oZ ++ w_O1 G (g9 2) oZ).flatten, (w_O2 G g20 oZ).flatten, (w_O1 G g31 oZ).flatten, (w_O0 G g42.1 g42.2 oZ (fun _ => oZ)).flatten, (w_O5 G g53 oZ).flatten, (w_O6 G g64.1 g64.2 oZ (fun _ => oZ)).flatten, (w_O3 G (g75 0) (g75 1 0) oZ ++ w_O2 G (g75 1) oZ).flatten] H _ := hH
  refine kb_putF (ty := .object RX3) (v := .ref (g75 0 0)) (WS' := [[(a, .inr (7, [.ref (g9 0 0), .ref (g20 0), .ref (g31 0), .ref (g42.1 0), .ref (g53 0), .ref (g64.1 0), .ref (g75 0 0), .null, .long 0]))], (w_O4 G (g9 0) (g9 1 0) (g9 2 0) oZ ++ w_O2 G (g9 1) oZ ++ w_O1 G (g9 2) oZ).flatten, (w_O2 G g20 oZ).flatten, (w_O1 G g31 oZ).flatten, (w_O0 G g42.1 g42.2 oZ (fun _ => oZ)).flatten, (w_O5 G g53 oZ).flatten, (w_O6 G g64.1 g64.2 oZ (fun _ => oZ)).flatten, (w_O3 G (g75 0) (g75 1 0) oZ ++ w_O2 G (g75 1) oZ).flatten]) hx hb hts hin7 tyX7 tyX7_ok nmX7 hown hK hH 0 rfl rfl 6 (by decide) (hts (.fieldLink RX7 54 "CockWar" "plan" "LCockWar$Plan;") (List.mem_of_getElem? (i := 31) rfl)) (fun _ h9 => h9) rfl hin rfl (by decide +kernel) rfl rfl (Nat.le_of_ble_eq_true rfl) rfl dX7_init_78 (fun H locs hH => ?_)
  refine lv_aload_n hx hb dX7_init_81 rfl (lv_at hl 0 rfl) ?_
  refine kb_newo (ci := 2) (fs := [.null, .null, .null, .null, .null, .int 0, .int 0, .int 0, .int 0, .int 0, .int 0]) (C := RX2) (T := TX2) (N := 11) hx hb hts hin2 tyX2 tyX2_ok hown (hts (.classLink RX7 16 RX2) (List.mem_of_getElem? (i := 8) rfl)) (hts (.instantiable RX2 11) (List.mem_of_getElem? (i := 9) rfl)) (hts (.initialized RX2) (List.mem_of_getElem? (i := 10) rfl)) hK hH hA rfl (fun j hj => by rcases (show j = 0 ∨ j = 1 ∨ j = 2 ∨ j = 3 ∨ j = 4 ∨ j = 5 ∨ j = 6 ∨ j = 7 ∨ j = 8 ∨ j = 9 ∨ j = 10 by omega) with rfl | rfl | rfl | rfl | rfl | rfl | rfl | rfl | rfl | rfl | rfl <;> rfl) (Nat.le_of_ble_eq_true rfl) (Nat.le_of_ble_eq_true rfl) dX7_init_82 (fun q82 H hH => ?_)
  have hH : HP G A s.heap [[(a, .inr (7, [.ref (g9 0 0), .ref (g20 0), .ref (g31 0), .ref (g42.1 0), .ref (g53 0), .ref (g64.1 0), .ref (g75 0 0), .null, .long 0]))], (w_O4 G (g9 0) (g9 1 0) (g9 2 0) oZ ++ w_O2 G (g9 1) oZ ++ w_O1 G (g9 2) oZ).flatten, (w_O2 G g20 oZ).flatten, (w_O1 G g31 oZ).flatten, (w_O0 G g42.1 g42.2 oZ (fun _ => oZ)).flatten, (w_O5 G g53 oZ).flatten, (w_O6 G g64.1 g64.2 oZ (fun _ => oZ)).flatten, (w_O3 G (g75 0) (g75 1 0) oZ ++ w_O2 G (g75 1) oZ).flatten, [(q82, .inr (2, [.null, .null, .null, .null, .null, .int 0, .int 0, .int 0, .int 0, .int 0, .int 0]))]] H _ := hH
  refine lv_dup hx hb dX7_init_85 rfl ?_
  refine kb_cn hH hA 8 rfl (va_runIN (As := []) (rest := [.ref q82, .ref a]) ⟨hx, hb, hml, hown, hts⟩ (c_X2_init l G q82 H.size) ⟨va_cnB 0 hts gX7_init_X2_init_n18 rfl rfl rfl (kb_NM hN 3 rfl) (hts (.initialized RX2) (List.mem_of_getElem? (i := 10) rfl)) hd_X2_init ⟨Nat.le_of_ble_eq_true rfl, Nat.le_of_ble_eq_true rfl⟩, rfl, (hts (.instanceMethod yX2_init) (List.mem_of_getElem? (i := 43) rfl))⟩ (kb_preA hH hK hN hO 8 rfl) rfl rfl hl.1 rfl (lv_room (Nat.le_of_ble_eq_true rfl)) dX7_init_86 ⟨Nat.le_of_ble_eq_true rfl, Nat.le_of_ble_eq_true rfl⟩) (fun g86 H locs hg86 hH => ?_)
  have hg86 : g86 0 = q82 := hg86
  subst hg86
  have hH : HP G A s.heap [[(a, .inr (7, [.ref (g9 0 0), .ref (g20 0), .ref (g31 0), .ref (g42.1 0), .ref (g53 0), .ref (g64.1 0), .ref (g75 0 0), .null, .long 0]))], (w_O4 G (g9 0) (g9 1 0) (g9 2 0) oZ ++ w_O2 G (g9 1) oZ ++ w_O1 G (g9 2) oZ).flatten, (w_O2 G g20 oZ).flatten, (w_O1 G g31 oZ).flatten, (w_O0 G g42.1 g42.2 oZ (fun _ => oZ)).flatten, (w_O5 G g53 oZ).flatten, (w_O6 G g64.1 g64.2 oZ (fun _ => oZ)).flatten, (w_O3 G (g75 0) (g75 1 0) oZ ++ w_O2 G (g75 1) oZ).flatten, (w_O2 G g86 oZ).flatten] H _ := hH
  refine kb_putF (ty := .object RX2) (v := .ref (g86 0)) (WS' := [[(a, .inr (7, [.ref (g9 0 0), .ref (g20 0), .ref (g31 0), .ref (g42.1 0), .ref (g53 0), .ref (g64.1 0), .ref (g75 0 0), .ref (g86 0), .long 0]))], (w_O4 G (g9 0) (g9 1 0) (g9 2 0) oZ ++ w_O2 G (g9 1) oZ ++ w_O1 G (g9 2) oZ).flatten, (w_O2 G g20 oZ).flatten, (w_O1 G g31 oZ).flatten, (w_O0 G g42.1 g42.2 oZ (fun _ => oZ)).flatten, (w_O5 G g53 oZ).flatten, (w_O6 G g64.1 g64.2 oZ (fun _ => oZ)).flatten, (w_O3 G (g75 0) (g75 1 0) oZ ++ w_O2 G (g75 1) oZ).flatten, (w_O2 G g86 oZ).flatten]) hx hb hts hin7 tyX7 tyX7_ok nmX7 hown hK hH 0 rfl rfl 7 (by decide) (hts (.fieldLink RX7 58 "CockWar" "trial" "LCockWar$Hill;") (List.mem_of_getElem? (i := 32) rfl)) (fun _ h9 => h9) rfl hin rfl (by decide +kernel) rfl rfl (Nat.le_of_ble_eq_true rfl) rfl dX7_init_89 (fun H locs hH => ?_)
  refine lv_aload_n hx hb dX7_init_92 rfl (lv_at hl 0 rfl) ?_
  refine lv_lconst (v := 0) hx hb dX7_init_93 (by decide) ?_
  refine kb_put (ty := .long) (v := .long 0) (WS' := [[(a, .inr (7, [.ref (g9 0 0), .ref (g20 0), .ref (g31 0), .ref (g42.1 0), .ref (g53 0), .ref (g64.1 0), .ref (g75 0 0), .ref (g86 0), .long 0]))], (w_O4 G (g9 0) (g9 1 0) (g9 2 0) oZ ++ w_O2 G (g9 1) oZ ++ w_O1 G (g9 2) oZ).flatten, (w_O2 G g20 oZ).flatten, (w_O1 G g31 oZ).flatten, (w_O0 G g42.1 g42.2 oZ (fun _ => oZ)).flatten, (w_O5 G g53 oZ).flatten, (w_O6 G g64.1 g64.2 oZ (fun _ => oZ)).flatten, (w_O3 G (g75 0) (g75 1 0) oZ ++ w_O2 G (g75 1) oZ).flatten, (w_O2 G g86 oZ).flatten]) hx hb hts hin7 tyX7 tyX7_ok nmX7 hown hK hH 0 rfl rfl 8 (by decide) (hts (.fieldLink RX7 61 "CockWar" "drawn" "J") (List.mem_of_getElem? (i := 33) rfl)) (fun _ h9 => h9) rfl (by decide +kernel) rfl rfl (Nat.le_of_ble_eq_true rfl) rfl dX7_init_94 (fun H locs hH => ?_)
  refine kb_nret (gL (fun _ => 0) [gL 0 [a], g9 0, g9 1, g9 2, g20, g31, g42.1, g53, g64.1, g75 0, g75 1, g86], gL (fun _ _ => 0) [g42.2, g64.2]) hx hb hr hH ?_ rfl dX7_init_97 hlocks
  simp only [w_C7, List.flatten_append, List.flatten_cons, List.flatten_nil, List.append_nil, List.append_assoc]
  rfl
