section KL
variable {p : Program} {l : Launch} {e : Env} {R : Room} {s : State} {m : MethodId} {args : Array Value} {below : List Frame} {meth : Method} {c : Code} {H : Heap} {locs : List Loc} {cells slots : Nat} {Q : State → Prop} {cc : ByteArray} {pc : Nat} {ls : Array Slot} {rest st0 : List Value} {G : Ge} {A : Nat → Prop} {WS : List va_W} {av : Array Value}
theorem kb_PSTf {Wf Wc : List va_W} (h : Wf.flatten = Wc.flatten) : PST G Wf = PST G Wc := by
  funext A t
  unfold PST
  rw [h]
theorem kb_PREf {Wf Wc : List va_W} (h : Wf.flatten = Wc.flatten) : PRE G Wf = PRE G Wc := by
  funext sz U
  unfold PRE
  rw [h]
theorem kb_ciC (hH : HP G A s.heap WS H locs) (hA : ∀ q, s.heap.size ≤ q → A q) (is : List Nat) {Wc Wc' WS' Wf Wf' : List va_W} {r : Int32} (hc : is.map (fun i => WS[i]?) = Wc.map some) (hn : va_nd is = true) (hl : Wc'.length = is.length) (hW' : setAll WS is Wc' = WS') (hf : Wf.flatten = Wc.flatten) (hf' : Wf'.flatten = Wc'.flatten)
    (hr : va_Run p l e R s m args below meth c H locs cells slots 0 0 (F0 m pc ls st0) rest (va_Qi (fun q (_ : Unit) => q = r) (fun _ => PST G Wf' (va_A Wf.flatten H.size)) (va_A Wf.flatten H.size) av) (va_A Wf.flatten H.size))
    (kk : ∀ (H1 : Heap) (locs1 : List Loc), HP G A s.heap WS' H1 locs1 → W p l e R s m args below meth c H1 locs1 cells slots Q (F0 m (pc + 3) ls (.int r :: rest))) : W p l e R s m args below meth c H locs cells slots Q (F0 m pc ls st0) := by
  rw [hf, kb_PSTf hf'] at hr
  exact kb_ci hH hA is hc hn hl hW' hr kk
theorem kb_cjC (hH : HP G A s.heap WS H locs) (hA : ∀ q, s.heap.size ≤ q → A q) (is : List Nat) {Wc Wc' WS' Wf Wf' : List va_W} {r : Int64} (hc : is.map (fun i => WS[i]?) = Wc.map some) (hn : va_nd is = true) (hl : Wc'.length = is.length) (hW' : setAll WS is Wc' = WS') (hf : Wf.flatten = Wc.flatten) (hf' : Wf'.flatten = Wc'.flatten)
    (hr : va_Run p l e R s m args below meth c H locs cells slots 0 0 (F0 m pc ls st0) rest (va_Ql (fun q (_ : Unit) => q = r) (fun _ => PST G Wf' (va_A Wf.flatten H.size)) (va_A Wf.flatten H.size) av) (va_A Wf.flatten H.size))
    (kk : ∀ (H1 : Heap) (locs1 : List Loc), HP G A s.heap WS' H1 locs1 → W p l e R s m args below meth c H1 locs1 cells slots Q (F0 m (pc + 3) ls (.long r :: rest))) : W p l e R s m args below meth c H locs cells slots Q (F0 m pc ls st0) := by
  rw [hf, kb_PSTf hf'] at hr
  exact kb_cj hH hA is hc hn hl hW' hr kk
theorem kb_preVC {As : List Value} {b : Nat} {C : String} {Wc Wf : List va_W} (hH : HP G A s.heap WS H locs) (hK : va_K G.1 vwCl (TY G) s) (hN : NW s) (is : List Nat) (hc : is.map (fun i => WS[i]?) = Wc.map some) (hn : va_nd is = true) (hf : Wf.flatten = Wc.flatten)
    (i : Nat) {B : va_W} (hB : WS[i]? = some B) {ci : Nat} {fs : List Value} (he : B[0]? = some (b, .inr (ci, fs))) {q : vw_C} (hcl : vwCl[ci]? = some q) (hC : q.1 = C) : PreV s H C b (va_Pc (.ref b :: As) (PRE G Wf H.size)) As := by
  rw [kb_PREf hf]
  exact kb_preV hH hK hN is hc hn i hB he hcl hC
end KL
theorem kb_fl1 (a0 : List va_W) : (a0).flatten = [(a0).flatten].flatten := by simp only [List.flatten_append, List.flatten_cons, List.flatten_nil, List.append_nil, List.append_assoc]
theorem kb_fl2 (a0 a1 : List va_W) : (a0 ++ a1).flatten = [(a0).flatten, (a1).flatten].flatten := by simp only [List.flatten_append, List.flatten_cons, List.flatten_nil, List.append_nil, List.append_assoc]
theorem kb_fl3 (a0 a1 a2 : List va_W) : (a0 ++ a1 ++ a2).flatten = [(a0).flatten, (a1).flatten, (a2).flatten].flatten := by simp only [List.flatten_append, List.flatten_cons, List.flatten_nil, List.append_nil, List.append_assoc]
theorem kb_fl4 (a0 a1 a2 a3 : List va_W) : (a0 ++ a1 ++ a2 ++ a3).flatten = [(a0).flatten, (a1).flatten, (a2).flatten, (a3).flatten].flatten := by simp only [List.flatten_append, List.flatten_cons, List.flatten_nil, List.append_nil, List.append_assoc]
theorem kb_fl5 (a0 a1 a2 a3 a4 : List va_W) : (a0 ++ a1 ++ a2 ++ a3 ++ a4).flatten = [(a0).flatten, (a1).flatten, (a2).flatten, (a3).flatten, (a4).flatten].flatten := by simp only [List.flatten_append, List.flatten_cons, List.flatten_nil, List.append_nil, List.append_assoc]
theorem kb_fl6 (a0 a1 a2 a3 a4 a5 : List va_W) : (a0 ++ a1 ++ a2 ++ a3 ++ a4 ++ a5).flatten = [(a0).flatten, (a1).flatten, (a2).flatten, (a3).flatten, (a4).flatten, (a5).flatten].flatten := by simp only [List.flatten_append, List.flatten_cons, List.flatten_nil, List.append_nil, List.append_assoc]
theorem kb_fl7 (a0 a1 a2 a3 a4 a5 a6 : List va_W) : (a0 ++ a1 ++ a2 ++ a3 ++ a4 ++ a5 ++ a6).flatten = [(a0).flatten, (a1).flatten, (a2).flatten, (a3).flatten, (a4).flatten, (a5).flatten, (a6).flatten].flatten := by simp only [List.flatten_append, List.flatten_cons, List.flatten_nil, List.append_nil, List.append_assoc]
theorem kb_fl8 (a0 a1 a2 a3 a4 a5 a6 a7 : List va_W) : (a0 ++ a1 ++ a2 ++ a3 ++ a4 ++ a5 ++ a6 ++ a7).flatten = [(a0).flatten, (a1).flatten, (a2).flatten, (a3).flatten, (a4).flatten, (a5).flatten, (a6).flatten, (a7).flatten].flatten := by simp only [List.flatten_append, List.flatten_cons, List.flatten_nil, List.append_nil, List.append_assoc]
/-! THE LAW: the world of both sides, and what holds at each round of its loop -/
abbrev LW (G : Ge) (γ : Nat → Nat → Nat) (γh : Nat → Nat → Nat → Nat) (g8 : Nat → Nat) (V7 Vr Vg Vga Vn Va Vac : OV) (VHa : Nat → OV) (Vs Vsl : OV) (VHs : Nat → OV) (Vp Vpt Vt M : OV) : List va_W := [(w_O7 G (γ 0) (γ 1 0) (γ 4 0) (γ 5 0) (γ 6 0) (γ 7 0) (γ 8 0) (γ 9 0) (γ 11 0) V7).flatten, (w_O4 G (γ 1) (γ 2 0) (γ 3 0) Vr).flatten, (w_O2 G (γ 2) Vg).flatten, (w_O1 G (γ 3) Vga).flatten, (w_O2 G (γ 4) Vn).flatten, (w_O1 G (γ 5) Va).flatten, (w_O0 G (γ 6) (γh 0) Vac VHa).flatten, (w_O5 G (γ 7) Vs).flatten, (w_O6 G (γ 8) (γh 1) Vsl VHs).flatten, (w_O3 G (γ 9) (γ 10 0) Vp).flatten, (w_O2 G (γ 10) Vpt).flatten, (w_O2 G (γ 11) Vt).flatten, (w_O8 G g8 M).flatten]
def LINV (G : Ge) (γ : Nat → Nat → Nat) (γh : Nat → Nat → Nat → Nat) (g8 : Nat → Nat) (A : Nat → Prop) (H0 : Heap) (T : Nat) (H : Heap) (locs : List Loc) : Prop := ∃ (co wn : Nat) (V7 Vr Vg Vga Vn Va Vac : OV) (VHa : Nat → OV) (Vs Vsl : OV) (VHs : Nat → OV) (Vp Vpt Vt M : OV), RLN T co wn V7 Vr Vn Va Vac Vs Vsl VHa VHs M ∧ HP G A H0 (LW G γ γh g8 V7 Vr Vg Vga Vn Va Vac VHa Vs Vsl VHs Vp Vpt Vt M) H locs
/-- what stays all along -/
def LC (p : Program) (s : State) (m : MethodId) (c : Code) (b L : Nat) (xs : Nat → Int32) (G : Ge) (A : Nat → Prop) : Prop := p.tables.exec = Jvm.exec ∧ c.code = cL_law ∧ c.maxLocals = 4 ∧ s.vm.findClass RL = some m.cls ∧ (∀ w ∈ lw_tbl, w.before #[Value.ref b] s = true) ∧ va_K G.1 vwCl (TY G) s ∧ NW s ∧ va_X b L xs s s.heap ∧ b < s.heap.size ∧ ¬ A b ∧ ∀ q, s.heap.size ≤ q → A q
theorem lg_self (x : Int64) : lg_cmp x x = 0 := by
  have h : ¬ x > x := Int64.lt_irrefl
  unfold lg_cmp
  rw [if_neg h, if_pos rfl]
