/-- the nest mates' fields and methods that the tables link -/
def NFl : List (String × Nat × String × String × String × String) := [(RX3, 66, RX2, "trees", "[I", RX7), (RX4, 78, RX2, "trees", "[I", RX7), (RX7, 102, RX2, "trees", "[I", RX7), (RX3, 44, RX2, "cells", "[I", RX7), (RX7, 113, RX2, "cells", "[I", RX7), (RX7, 123, RX2, "heights", "[I", RX7), (RX7, 126, RX2, "rusts", "[I", RX7), (RX7, 129, RX2, "weights", "[I", RX7), (RX3, 34, RX2, "cocks", "I", RX7), (RX4, 65, RX2, "cocks", "I", RX7), (RX7, 92, RX2, "cocks", "I", RX7), (RX3, 37, RX2, "parishes", "I", RX7), (RX7, 116, RX2, "parishes", "I", RX7), (RX1, 43, RX2, "ways", "I", RX7), (RX7, 132, RX2, "ways", "I", RX7), (RX1, 54, RX2, "held", "I", RX7), (RX7, 135, RX2, "held", "I", RX7), (RX1, 57, RX2, "brook", "I", RX7), (RX7, 255, RX2, "brook", "I", RX7), (RX6, 26, RX2, "days", "I", RX7), (RX1, 60, RX2, "days", "I", RX7), (RX7, 258, RX2, "days", "I", RX7), (RX7, 141, RX1, "goals", "[I", RX7), (RX7, 144, RX1, "strengths", "[I", RX7), (RX7, 147, RX1, "days", "[I", RX7), (RX4, 40, RX1, "winds", "I", RX7), (RX7, 95, RX1, "winds", "I", RX7), (RX7, 77, RX4, "ground", "LCockWar$Hill;", RX7), (RX7, 84, RX4, "air", "LCockWar$Air;", RX7), (RX7, 69, RX4, "length", "I", RX7), (RX7, 262, RX0, "number", "I", RX7), (RX7, 217, RX5, "number", "I", RX7), (RX7, 186, RX3, "days", "I", RX7), (RX7, 188, RX3, "cock", "I", RX7), (RX7, 191, RX3, "cell", "I", RX7), (RX7, 194, RX3, "tree", "I", RX7)]
def NMl : List (String × Nat × MethodName × String) := [(RX7, 11, yX4_init, RX7), (RX4, 17, yX2_init, RX7), (RX4, 24, yX1_init, RX7), (RX7, 18, yX2_init, RX7), (RX7, 25, yX1_init, RX7), (RX7, 32, yX0_init, RX7), (RX0, 17, yX2_init, RX7), (RX7, 39, yX5_init, RX7), (RX7, 46, yX6_init, RX7), (RX6, 17, yX2_init, RX7), (RX7, 53, yX3_init, RX7), (RX3, 11, yX2_init, RX7), (RX7, 65, yX4_append, RX7), (RX4, 33, yX7_put, RX7), (RX7, 73, yX4_firstFault, RX7), (RX4, 37, yX2_clear, RX7), (RX4, 46, yX7_at, RX7), (RX4, 57, yX2_treeCells, RX7), (RX4, 92, yX7_bit, RX7), (RX4, 81, yX2_takenCells, RX7), (RX2, 54, yX7_at, RX7), (RX4, 84, yX2_addCock, RX7), (RX2, 50, yX7_put, RX7), (RX4, 88, yX1_addWind, RX7), (RX1, 29, yX7_put, RX7), (RX7, 80, yX2_copyFrom, RX7), (RX2, 46, yX7_copyRow, RX7), (RX7, 85, yX1_copyFrom, RX7), (RX1, 21, yX7_copyRow, RX7), (RX7, 88, yX0_forget, RX7), (RX7, 91, yX6_forget, RX7), (RX7, 110, yX2_hasCock, RX7), (RX7, 138, yX1_hasWind, RX7), (RX7, 150, yX1_waysBehind, RX7), (RX1, 33, yX7_at, RX7), (RX1, 37, yX2_yieldingTo, RX7), (RX2, 58, yX7_bit, RX7), (RX7, 154, yX0_remember, RX7), (RX0, 25, yX2_copyFrom, RX7), (RX7, 157, yX1_blowOver, RX7), (RX1, 50, yX2_brookBy, RX7), (RX7, 165, yX2_takenCells, RX7), (RX7, 168, yX0_takeBack, RX7), (RX7, 172, yX1_brookUnder, RX7), (RX7, 178, yX1_yearOf, RX7), (RX7, 182, yX3_seek, RX7), (RX3, 22, yX2_copyFrom, RX7), (RX3, 56, yX1_yearOf, RX7), (RX3, 52, yX7_at, RX7), (RX3, 30, yX2_takenCells, RX7), (RX3, 40, yX7_bit, RX7), (RX3, 48, yX7_put, RX7), (RX7, 197, yX2_treeCells, RX7), (RX7, 205, yX2_brookBy, RX7), (RX7, 208, yX2_everyCock, RX7), (RX7, 214, yX5_add, RX7), (RX5, 22, yX7_put, RX7), (RX7, 220, yX5_agree, RX7), (RX5, 26, yX7_at, RX7), (RX5, 30, yX2_hasCock, RX7), (RX5, 36, yX7_bit, RX7), (RX7, 238, yX1_daysInAll, RX7), (RX7, 245, yX1_windOfDay, RX7), (RX7, 248, yX6_store, RX7), (RX6, 22, yX2_copyFrom, RX7), (RX7, 252, yX6_fetch, RX7), (RX6, 29, yX7_bit, RX7), (RX7, 259, yX2_weightFor, RX7)]
def NW (U : State) : Prop := (∀ q ∈ NFl, va_Nw (.fieldLinkNest q.1 q.2.1 q.2.2.1 q.2.2.2.1 q.2.2.2.2.1 q.2.2.2.2.2) U) ∧ (∀ q ∈ NMl, va_Nw (.methodLinkNest q.1 q.2.1 q.2.2.1 q.2.2.2) U)
theorem kb_NW_warm {s U : State} (hW : s.WarmedH U.vm) (h : NW s) : NW U := ⟨fun q hq => va_Nw.warmF hW (h.1 q hq), fun q hq => va_Nw.warmM hW (h.2 q hq)⟩
theorem kb_NW_same {u U : State} (e : u.vm = U.vm) (h : NW u) : NW U := ⟨fun q hq => va_Nw.same rfl e (h.1 q hq), fun q hq => va_Nw.same rfl e (h.2 q hq)⟩
theorem kb_NF {U : State} {args : Array Value} (h : NW U) (i : Nat) {a b c d e : String} {n : Nat} (hi : NFl[i]? = some (a, n, b, c, d, e)) : (Cond.fieldLinkNest a n b c d e).before args U = true := va_Nw.use rfl (h.1 _ (List.mem_of_getElem? hi))
theorem kb_NM {U : State} (h : NW U) (i : Nat) {a e : String} {y : MethodName} {n : Nat} (hi : NMl[i]? = some (a, n, y, e)) : va_Nw (.methodLinkNest a n y e) U := h.2 _ (List.mem_of_getElem? hi)
/-! the classes' geometry: the classes, and the classes of the arrays of int, boolean, Hill -/
abbrev Ge : Type := va_G × ClassId × ClassId × ClassId
abbrev TY (G : Ge) : List (ClassId × FieldType) := [(G.2.1, .int), (G.2.2.1, .boolean), (G.2.2.2, .object RX2)]
def PRE (G : Ge) (WS : List va_W) (sz : Nat) (U : State) : Prop := U.heap.size = sz ∧ va_P G.1 vwCl WS.flatten U.heap ∧ va_K G.1 vwCl (TY G) U ∧ va_D (fun _ => True) WS.flatten ∧ NW U
def PST (G : Ge) (WS : List va_W) (A : Nat → Prop) (t : State) : Prop := va_P G.1 vwCl WS.flatten t.heap ∧ va_D A WS.flatten
def HP (G : Ge) (A : Nat → Prop) (H0 : Heap) (WS : List va_W) (H : Heap) (locs : List Loc) : Prop := va_P G.1 vwCl WS.flatten H ∧ va_D A WS.flatten ∧ va_S A H0 H locs
theorem kb_blind {G : Ge} {As : List Value} {WS : List va_W} {sz : Nat} : FrameBlind (va_Pc As (PRE G WS sz)) := fun a U g mk q => by
  obtain ⟨q0, q1, qP, qK, qD, qN⟩ := q
  exact ⟨q0, q1, qP, va_K.moved (u := U) (U := U.calling g mk a) (Vm.Alike.refl U.vm) qK, qD, kb_NW_same (u := U) rfl qN⟩
/-! worlds as lists of blocks -/
theorem kb_Pm {D : va_G} {cl : List vw_C} {ws : va_W} {H : Heap} : va_P D cl ws H ↔ ∀ q ∈ ws, va_at D cl q H := by
  refine ⟨fun h q hq => ?_, fun h k q hk => h q (List.mem_of_getElem? hk)⟩
  obtain ⟨i, hi⟩ := List.getElem?_of_mem hq
  exact h i q hi
theorem kb_Dn {A : Nat → Prop} {ws : va_W} : va_D A ws ↔ (ws.map Prod.fst).Nodup ∧ ∀ q ∈ ws, A q.1 := by
  refine ⟨fun h => ⟨?_, fun q hq => ?_⟩, fun h => ⟨fun i j p q hi hj e => ?_, fun k q hk => h.2 q (List.mem_of_getElem? hk)⟩⟩
  · rw [List.nodup_iff_pairwise_ne, List.pairwise_iff_getElem]
    intro i j hi hj hij e
    rw [List.length_map] at hi hj
    rw [List.getElem_map, List.getElem_map] at e
    have := h.1 i j _ _ (List.getElem?_eq_getElem hi) (List.getElem?_eq_getElem hj) e
    omega
  · obtain ⟨i, hi⟩ := List.getElem?_of_mem hq
    exact h.2 i q hi
  · have hp := h.1
    rw [List.nodup_iff_pairwise_ne, List.pairwise_iff_getElem] at hp
    have li : i < ws.length := (List.getElem?_eq_some_iff.mp hi).1
    have lj : j < ws.length := (List.getElem?_eq_some_iff.mp hj).1
    have ei : ws[i] = p := (List.getElem?_eq_some_iff.mp hi).2
    have ej : ws[j] = q := (List.getElem?_eq_some_iff.mp hj).2
    rcases Nat.lt_trichotomy i j with z | z | z
    · exact absurd (by rw [List.getElem_map, List.getElem_map, ei, ej]; exact e) (hp i j (by rw [List.length_map]; exact li) (by rw [List.length_map]; exact lj) z)
    · exact z
    · exact absurd (by rw [List.getElem_map, List.getElem_map, ei, ej]; exact e.symm) (hp j i (by rw [List.length_map]; exact lj) (by rw [List.length_map]; exact li) z)
theorem kb_Pperm {D : va_G} {cl : List vw_C} {w1 w2 : va_W} {H : Heap} (p : w1.Perm w2) (h : va_P D cl w1 H) : va_P D cl w2 H := kb_Pm.mpr fun q hq => kb_Pm.mp h q (p.mem_iff.mpr hq)
theorem kb_Dperm {A : Nat → Prop} {w1 w2 : va_W} (p : w1.Perm w2) (h : va_D A w1) : va_D A w2 := by
  have h := kb_Dn.mp h
  exact kb_Dn.mpr ⟨(p.map _).nodup h.1, fun q hq => h.2 q (p.mem_iff.mpr hq)⟩
theorem kb_perm {G : Ge} {A : Nat → Prop} {H0 H : Heap} {W1 W2 : List va_W} {locs : List Loc} (p : W1.flatten.Perm W2.flatten) (h : HP G A H0 W1 H locs) : HP G A H0 W2 H locs := ⟨kb_Pperm p h.1, kb_Dperm p h.2.1, h.2.2⟩
def setAll : List va_W → List Nat → List va_W → List va_W
  | W, i :: is, b :: bs => setAll (W.set i b) is bs
  | W, _, _ => W
theorem kb_len : ∀ (is : List Nat) (W bs : List va_W), (setAll W is bs).length = W.length
  | [], _, _ => by simp [setAll]
  | _ :: _, _, [] => by simp [setAll]
  | i :: is, W, b :: bs => by simp [setAll, kb_len is]
theorem kb_split : ∀ (W : List va_W) (i : Nat) (B : va_W), W[i]? = some B → W.flatten.Perm (B ++ (W.set i []).flatten)
  | [], i, B, h => by simp at h
  | b :: W, 0, B, h => by
    simp at h
    subst h
    simp
  | b :: W, i + 1, B, h => by
    have h : W[i]? = some B := by simpa using h
    have ih := kb_split W i B h
    simp only [List.set_cons_succ, List.flatten_cons]
    exact (ih.append_left b).trans (List.perm_append_comm_assoc _ _ _)
theorem kb_setc : ∀ (is : List Nat) (bs W : List va_W) (i : Nat) (b : va_W), i ∉ is → setAll (W.set i b) is bs = (setAll W is bs).set i b
  | [], _, _, _, _, _ => by simp [setAll]
  | _ :: _, [], _, _, _, _ => by simp [setAll]
  | j :: is, c :: bs, W, i, b, h => by
    simp only [List.mem_cons, not_or] at h
    simp only [setAll]
    rw [List.set_comm _ _ h.1, kb_setc is bs (W.set j c) i b h.2]
theorem kb_out : ∀ (is : List Nat) (W Wc : List va_W), is.map (fun i => W[i]?) = Wc.map some → va_nd is = true → W.flatten.Perm (Wc.flatten ++ (setAll W is (is.map fun _ => [])).flatten)
  | [], W, Wc, h, _ => by
    have : Wc = [] := by cases Wc with | nil => rfl | cons => simp at h
    subst this
    simp [setAll]
  | i :: is, W, [], h, _ => by simp at h
  | i :: is, W, B :: Wc, h, hn => by
    simp only [List.map_cons, List.cons.injEq] at h
    simp only [va_nd, Bool.and_eq_true, decide_eq_true_eq] at hn
    have h1 := kb_split W i B h.1
    have h2 := kb_out is (W.set i []) Wc (by
      rw [← h.2]
      refine List.map_congr_left fun j hj => ?_
      exact List.getElem?_set_ne (fun e : i = j => hn.1 (by rw [e]; exact hj))) hn.2
    simp only [List.map_cons, setAll, List.flatten_cons, List.append_assoc]
    exact h1.trans (h2.append_left B)
theorem kb_in : ∀ (is : List Nat) (W Wc' : List va_W), (∀ i ∈ is, i < W.length) → va_nd is = true → Wc'.length = is.length → (setAll W is Wc').flatten.Perm (Wc'.flatten ++ (setAll W is (is.map fun _ => [])).flatten)
  | [], W, Wc', _, _, hl => by
    have : Wc' = [] := List.length_eq_zero_iff.mp hl
    subst this
    simp [setAll]
  | i :: is, W, [], _, _, hl => by simp at hl
  | i :: is, W, b :: bs, hi, hn, hl => by
    simp only [va_nd, Bool.and_eq_true, decide_eq_true_eq] at hn
    have ih := kb_in is (W.set i b) bs (fun j hj => by rw [List.length_set]; exact hi j (List.mem_cons_of_mem _ hj)) hn.2 (by simpa using hl)
    simp only [List.map_cons, setAll, List.flatten_cons, List.append_assoc]
    refine ih.trans ?_
    rw [kb_setc is _ W i b hn.1, kb_setc is _ W i [] hn.1]
    have hlt : i < (setAll W is (is.map fun _ => [])).length := by rw [kb_len]; exact hi i List.mem_cons_self
    have h3 := kb_split ((setAll W is (is.map fun _ => [])).set i b) i b (by rw [List.getElem?_set_self hlt])
    rw [List.set_set] at h3
    exact (h3.append_left bs.flatten).trans (List.perm_append_comm_assoc _ _ _)
theorem kb_join {G : Ge} {A : Nat → Prop} {H0 H H1 : Heap} {WS Wc Wc' : List va_W} {locs : List Loc} (hH : HP G A H0 WS H locs) (is : List Nat) (hc : is.map (fun i => WS[i]?) = Wc.map some) (hn : va_nd is = true) (hl : Wc'.length = is.length)
    (hk : ∀ q : Nat, q < H.size → ¬ va_A Wc.flatten H.size q → H1[q]? = H[q]?) (hF : ∀ q, va_A Wc.flatten H.size q → A q) (hP1 : va_P G.1 vwCl Wc'.flatten H1) (hD1 : va_D (va_A Wc.flatten H.size) Wc'.flatten) :
    va_P G.1 vwCl (setAll WS is Wc').flatten H1 ∧ va_D A (setAll WS is Wc').flatten := by
  have hi : ∀ i ∈ is, i < WS.length := by
    intro i hi
    have h1 : WS[i]? ∈ is.map (fun i => WS[i]?) := List.mem_map.mpr ⟨i, hi, rfl⟩
    rw [hc] at h1
    obtain ⟨B, -, hB⟩ := List.mem_map.mp h1
    exact (List.getElem?_eq_some_iff.mp hB.symm).1
  have p1 := kb_out is WS Wc hc hn
  have p2 := kb_in is WS Wc' hi hn hl
  generalize (setAll WS is (is.map fun _ => [])).flatten = R at p1 p2
  have hP0 := kb_Pm.mp (kb_Pperm p1 hH.1)
  have hD0 := kb_Dn.mp (kb_Dperm p1 hH.2.1)
  have hD1' := kb_Dn.mp hD1
  rw [List.map_append, List.nodup_append] at hD0
  have apart : ∀ q ∈ R, q.1 < H.size ∧ ¬ va_A Wc.flatten H.size q.1 := by
    intro q hq
    have hlt := (hP0 q (List.mem_append_right _ hq)).lt
    refine ⟨hlt, fun h => ?_⟩
    rcases h with ⟨k, e, h⟩ | h
    · exact hD0.1.2.2 _ (List.mem_map.mpr ⟨_, List.mem_of_getElem? h, rfl⟩) _ (List.mem_map.mpr ⟨q, hq, rfl⟩) rfl
    · omega
  refine ⟨kb_Pperm p2.symm (kb_Pm.mpr fun q hq => ?_), kb_Dperm p2.symm (kb_Dn.mpr ⟨?_, fun q hq => ?_⟩)⟩
  · rcases List.mem_append.mp hq with h | h
    · exact kb_Pm.mp hP1 q h
    · obtain ⟨g1, g2⟩ := apart q h
      exact (hP0 q (List.mem_append_right _ h)).kept (hk q.1 g1 g2)
  · rw [List.map_append, List.nodup_append]
    refine ⟨hD1'.1, hD0.1.2.1, fun a ha b hb e => ?_⟩
    obtain ⟨x, hx, rfl⟩ := List.mem_map.mp ha
    obtain ⟨y, hy, rfl⟩ := List.mem_map.mp hb
    exact (apart y hy).2 (by rw [← e]; exact hD1'.2 x hx)
  · rcases List.mem_append.mp hq with h | h
    · exact hF _ (hD1'.2 q h)
    · exact hD0.2 q (List.mem_append_right _ h)
theorem kb_free {G : Ge} {A : Nat → Prop} {H0 H : Heap} {WS Wc : List va_W} {locs : List Loc} (hH : HP G A H0 WS H locs) (hA : ∀ q, H0.size ≤ q → A q) (is : List Nat) (hc : is.map (fun i => WS[i]?) = Wc.map some) (hn : va_nd is = true) : ∀ q, va_A Wc.flatten H.size q → A q := by
  intro q h
  have hD0 := kb_Dn.mp (kb_Dperm (kb_out is WS Wc hc hn) hH.2.1)
  rcases h with ⟨k, e, h⟩ | h
  · exact hD0.2 (q, e) (List.mem_append_left _ (List.mem_of_getElem? h))
  · exact hA q (Nat.le_trans hH.2.2.1 h)
theorem kb_sub {G : Ge} {A : Nat → Prop} {H0 H : Heap} {WS Wc : List va_W} {locs : List Loc} (hH : HP G A H0 WS H locs) (is : List Nat) (hc : is.map (fun i => WS[i]?) = Wc.map some) (hn : va_nd is = true) : va_P G.1 vwCl Wc.flatten H ∧ va_D (fun _ => True) Wc.flatten := by
  have hP0 := kb_Pm.mp (kb_Pperm (kb_out is WS Wc hc hn) hH.1)
  have hD0 := kb_Dn.mp (kb_Dperm (kb_out is WS Wc hc hn) hH.2.1)
  rw [List.map_append, List.nodup_append] at hD0
  exact ⟨kb_Pm.mpr fun q hq => hP0 q (List.mem_append_left _ hq), kb_Dn.mpr ⟨hD0.1.1, fun _ _ => trivial⟩⟩
theorem kb_preS {G : Ge} {A : Nat → Prop} {s : State} {H : Heap} {WS Wc : List va_W} {locs : List Loc} {As : List Value} (hH : HP G A s.heap WS H locs) (hK : va_K G.1 vwCl (TY G) s) (hN : NW s) (is : List Nat) (hc : is.map (fun i => WS[i]?) = Wc.map some) (hn : va_nd is = true) : PreS s H (va_Pc As (PRE G Wc H.size)) As := by
  have h := kb_sub hH is hc hn
  exact ⟨kb_blind, fun U hU hW => ⟨rfl, by rw [hU], by rw [hU]; exact h.1, va_K.moved hW.alike hK, h.2, kb_NW_warm hW hN⟩⟩
theorem kb_at {G : Ge} {A : Nat → Prop} {H0 H : Heap} {WS : List va_W} {locs : List Loc} (hH : HP G A H0 WS H locs) (i : Nat) {B : va_W} (hB : WS[i]? = some B) (j : Nat) {q : Nat × va_E} (hq : B[j]? = some q) : ∃ k : Nat, WS.flatten[k]? = some q := by
  have p := kb_split WS i B hB
  exact List.getElem?_of_mem (p.mem_iff.mpr (List.mem_append_left _ (List.mem_of_getElem? hq)))
theorem kb_preV {G : Ge} {A : Nat → Prop} {s : State} {H : Heap} {WS Wc : List va_W} {locs : List Loc} {As : List Value} {b : Nat} {C : String} (hH : HP G A s.heap WS H locs) (hK : va_K G.1 vwCl (TY G) s) (hN : NW s) (is : List Nat) (hc : is.map (fun i => WS[i]?) = Wc.map some) (hn : va_nd is = true)
    (i : Nat) {B : va_W} (hB : WS[i]? = some B) {ci : Nat} {fs : List Value} (he : B[0]? = some (b, .inr (ci, fs))) {q : vw_C} (hcl : vwCl[ci]? = some q) (hC : q.1 = C) : PreV s H C b (va_Pc (.ref b :: As) (PRE G Wc H.size)) As := by
  obtain ⟨k, hk⟩ := kb_at hH i hB 0 he
  have hr := va_recv hK hH.1 hcl hk
  rw [hC] at hr
  exact ⟨kb_blind, hr, (kb_preS hH hK hN is hc hn).2⟩
/-- a method's contract: from the world WS it answers r and leaves the world WS', and makes nothing -/
abbrev CI (l : Launch) (y : MethodName) (ws : List Cond) (rm : Room) (As : List Value) (G : Ge) (WS WS' : List va_W) (r : Int32) : Prop := ∀ sz : Nat, Met l y ws rm (va_Pc As (PRE G WS sz)) (va_Qi (fun q (_ : Unit) => q = r) (fun _ => PST G WS' (va_A WS.flatten sz)) (va_A WS.flatten sz)) 0 0 (va_A WS.flatten sz)
abbrev CJ (l : Launch) (y : MethodName) (ws : List Cond) (rm : Room) (As : List Value) (G : Ge) (WS WS' : List va_W) (r : Int64) : Prop := ∀ sz : Nat, Met l y ws rm (va_Pc As (PRE G WS sz)) (va_Ql (fun q (_ : Unit) => q = r) (fun _ => PST G WS' (va_A WS.flatten sz)) (va_A WS.flatten sz)) 0 0 (va_A WS.flatten sz)
abbrev CV (l : Launch) (y : MethodName) (ws : List Cond) (rm : Room) (As : List Value) (G : Ge) (WS WS' : List va_W) : Prop := ∀ sz : Nat, Met l y ws rm (va_Pc As (PRE G WS sz)) (va_Qv (fun (_ : Unit) => True) (fun _ => PST G WS' (va_A WS.flatten sz)) (va_A WS.flatten sz)) 0 0 (va_A WS.flatten sz)
section KB
variable {p : Program} {l : Launch} {e : Env} {R : Room} {s : State} {m : MethodId} {args : Array Value} {below : List Frame} {meth : Method} {c : Code} {H : Heap} {locs : List Loc} {cells slots : Nat} {Q : State → Prop} {cc : ByteArray} {pc : Nat} {ls : Array Slot} {rest st0 : List Value} {G : Ge} {A : Nat → Prop} {WS : List va_W} {a : Nat} {av : Array Value}
theorem kb_ci (hH : HP G A s.heap WS H locs) (hA : ∀ q, s.heap.size ≤ q → A q) (is : List Nat) {Wc Wc' WS' : List va_W} {r : Int32} (hc : is.map (fun i => WS[i]?) = Wc.map some) (hn : va_nd is = true) (hl : Wc'.length = is.length) (hW' : setAll WS is Wc' = WS')
    (hr : va_Run p l e R s m args below meth c H locs cells slots 0 0 (F0 m pc ls st0) rest (va_Qi (fun q (_ : Unit) => q = r) (fun _ => PST G Wc' (va_A Wc.flatten H.size)) (va_A Wc.flatten H.size) av) (va_A Wc.flatten H.size))
    (kk : ∀ (H1 : Heap) (locs1 : List Loc), HP G A s.heap WS' H1 locs1 → W p l e R s m args below meth c H1 locs1 cells slots Q (F0 m (pc + 3) ls (.int r :: rest))) : W p l e R s m args below meth c H locs cells slots Q (F0 m pc ls st0) := by
  have hF := kb_free hH hA is hc hn
  refine va_calli hr hH.2.2 (fun q _ h => hF q h) hF (fun r1 u t H1 locs1 ht hvm hw hB hz1 hk1 hS => ?_)
  subst hw
  obtain ⟨hP1, hD1⟩ := hB
  rw [ht] at hP1
  have hj := kb_join hH is hc hn hl hk1 hF hP1 hD1
  rw [hW'] at hj
  exact kk H1 locs1 ⟨hj.1, hj.2, hS⟩
theorem kb_cj (hH : HP G A s.heap WS H locs) (hA : ∀ q, s.heap.size ≤ q → A q) (is : List Nat) {Wc Wc' WS' : List va_W} {r : Int64} (hc : is.map (fun i => WS[i]?) = Wc.map some) (hn : va_nd is = true) (hl : Wc'.length = is.length) (hW' : setAll WS is Wc' = WS')
    (hr : va_Run p l e R s m args below meth c H locs cells slots 0 0 (F0 m pc ls st0) rest (va_Ql (fun q (_ : Unit) => q = r) (fun _ => PST G Wc' (va_A Wc.flatten H.size)) (va_A Wc.flatten H.size) av) (va_A Wc.flatten H.size))
    (kk : ∀ (H1 : Heap) (locs1 : List Loc), HP G A s.heap WS' H1 locs1 → W p l e R s m args below meth c H1 locs1 cells slots Q (F0 m (pc + 3) ls (.long r :: rest))) : W p l e R s m args below meth c H locs cells slots Q (F0 m pc ls st0) := by
  have hF := kb_free hH hA is hc hn
  refine va_calll hr hH.2.2 (fun q _ h => hF q h) hF (fun r1 u t H1 locs1 ht hvm hw hB hz1 hk1 hS => ?_)
  subst hw
  obtain ⟨hP1, hD1⟩ := hB
  rw [ht] at hP1
  have hj := kb_join hH is hc hn hl hk1 hF hP1 hD1
  rw [hW'] at hj
  exact kk H1 locs1 ⟨hj.1, hj.2, hS⟩
theorem kb_cv (hH : HP G A s.heap WS H locs) (hA : ∀ q, s.heap.size ≤ q → A q) (is : List Nat) {Wc Wc' WS' : List va_W} (hc : is.map (fun i => WS[i]?) = Wc.map some) (hn : va_nd is = true) (hl : Wc'.length = is.length) (hW' : setAll WS is Wc' = WS')
    (hr : va_Run p l e R s m args below meth c H locs cells slots 0 0 (F0 m pc ls st0) rest (va_Qv (fun (_ : Unit) => True) (fun _ => PST G Wc' (va_A Wc.flatten H.size)) (va_A Wc.flatten H.size) av) (va_A Wc.flatten H.size))
    (kk : ∀ (H1 : Heap) (locs1 : List Loc), HP G A s.heap WS' H1 locs1 → W p l e R s m args below meth c H1 locs1 cells slots Q (F0 m (pc + 3) ls rest)) : W p l e R s m args below meth c H locs cells slots Q (F0 m pc ls st0) := by
  have hF := kb_free hH hA is hc hn
  refine va_callv hr hH.2.2 (fun q _ h => hF q h) hF (fun u t H1 locs1 ht hvm hw hB hz1 hk1 hS => ?_)
  obtain ⟨hP1, hD1⟩ := hB
  rw [ht] at hP1
  have hj := kb_join hH is hc hn hl hk1 hF hP1 hD1
  rw [hW'] at hj
  exact kk H1 locs1 ⟨hj.1, hj.2, hS⟩
/-! fields and arrays -/
theorem kb_get (hx : p.tables.exec = Jvm.exec) (hb : c.code = cc) {own ref C : String} {T : u_T} {N ci index : Nat} {Ts : List Cond} (hts : ∀ w ∈ Ts, w.before args s = true) (hin : ∀ w ∈ u_ws C T N, w ∈ Ts) (hown : s.vm.findClass own = some m.cls) (hK : va_K G.1 vwCl (TY G) s) (hH : HP G A s.heap WS H locs) (i : Nat) {B : va_W} (hB : WS[i]? = some B) {fs : List Value} (he : B[0]? = some (a, .inr (ci, fs))) (hc : vwCl[ci]? = some (C, T, N)) (k : Nat) (hk : k < N) (hlink : (Cond.fieldLink own index ref (T k).2.1 (T k).2.2.1).before args s = true) (hsame : ∀ x, s.fieldFound? (T k).1 (T k).2.1 (T k).2.2.1 = some x → s.fieldFound? ref (T k).2.1 (T k).2.2.1 = some x) {v : Value} (hv : fs[k]? = some v) (hdg : decode cc pc = .ok (.getfield index, 3))
    (kk : W p l e R s m args below meth c H locs cells slots Q (F0 m (pc + 3) ls (v :: rest))) : W p l e R s m args below meth c H locs cells slots Q (F0 m pc ls (.ref a :: rest)) := by
  obtain ⟨z, hz⟩ := kb_at hH i hB 0 he
  exact va_get hx hb hts hin hown hK hH.1 z hz hc k hk hlink hsame hv hdg kk
theorem kb_getN (hx : p.tables.exec = Jvm.exec) (hb : c.code = cc) {own ref C host : String} {T : u_T} {N ci index : Nat} {Ts : List Cond} (hts : ∀ w ∈ Ts, w.before args s = true) (hin : ∀ w ∈ u_ws C T N, w ∈ Ts) (hown : s.vm.findClass own = some m.cls) (hK : va_K G.1 vwCl (TY G) s) (hH : HP G A s.heap WS H locs) (i : Nat) {B : va_W} (hB : WS[i]? = some B) {fs : List Value} (he : B[0]? = some (a, .inr (ci, fs))) (hc : vwCl[ci]? = some (C, T, N)) (k : Nat) (hk : k < N) (hlink : (Cond.fieldLinkNest own index ref (T k).2.1 (T k).2.2.1 host).before args s = true) (hsame : ∀ x, s.fieldFound? (T k).1 (T k).2.1 (T k).2.2.1 = some x → s.fieldFound? ref (T k).2.1 (T k).2.2.1 = some x) {v : Value} (hv : fs[k]? = some v) (hdg : decode cc pc = .ok (.getfield index, 3))
    (kk : W p l e R s m args below meth c H locs cells slots Q (F0 m (pc + 3) ls (v :: rest))) : W p l e R s m args below meth c H locs cells slots Q (F0 m pc ls (.ref a :: rest)) := by
  obtain ⟨z, hz⟩ := kb_at hH i hB 0 he
  exact va_getN hx hb hts hin hown hK hH.1 z hz hc k hk hlink hsame hv hdg kk
theorem kb_setp {D : va_G} {A' : Nat → Prop} {a : Nat} {e0 e1 : va_E} {z : Nat} {H1 : Heap} (hz : WS.flatten[z]? = some (a, e0)) (i : Nat) (hB : WS[i]? = some [(a, e0)]) (hD0 : va_D A' WS.flatten) (hP : va_P D vwCl (WS.flatten.set z (a, e1)) H1) (hD : va_D A' (WS.flatten.set z (a, e1))) : va_P D vwCl (WS.set i [(a, e1)]).flatten H1 ∧ va_D A' (WS.set i [(a, e1)]).flatten := by
  have hi : i < WS.length := (List.getElem?_eq_some_iff.mp hB).1
  have hzl : z < WS.flatten.length := (List.getElem?_eq_some_iff.mp hz).1
  have p1 := kb_split WS i _ hB
  have p2 := kb_split (WS.set i [(a, e1)]) i [(a, e1)] (by rw [List.getElem?_set_self hi])
  rw [List.set_set] at p2
  have hn := (kb_Dn.mp (kb_Dperm p1 hD0)).1
  simp only [List.map_append, List.map_cons, List.map_nil, List.cons_append, List.nil_append, List.nodup_cons] at hn
  have key : ∀ q ∈ (WS.set i [(a, e1)]).flatten, q ∈ WS.flatten.set z (a, e1) := by
    intro q hq
    rcases List.mem_append.mp (p2.mem_iff.mp hq) with h | h
    · rw [List.mem_singleton.mp h]
      exact List.mem_of_getElem? (i := z) (by rw [List.getElem?_set_self hzl])
    · have hq0 := p1.mem_iff.mpr (List.mem_append_right _ h)
      obtain ⟨k, hk⟩ := List.getElem?_of_mem hq0
      have hkz : z ≠ k := by
        intro ez
        rw [← ez, hz] at hk
        cases hk
        exact hn.1 (List.mem_map.mpr ⟨_, h, rfl⟩)
      exact List.mem_of_getElem? (i := k) (by rw [List.getElem?_set_ne hkz]; exact hk)
  have hPm := kb_Pm.mp hP
  have hDm := kb_Dn.mp hD
  refine ⟨kb_Pm.mpr fun q hq => hPm q (key q hq), kb_Dn.mpr ⟨?_, fun q hq => hDm.2 q (key q hq)⟩⟩
  have p3 := p2.map Prod.fst
  refine p3.symm.nodup ?_
  simp only [List.map_append, List.map_cons, List.map_nil, List.cons_append, List.nil_append, List.nodup_cons]
  exact hn
theorem kb_put (hx : p.tables.exec = Jvm.exec) (hb : c.code = cc) {own ref C : String} {T : u_T} {N ci index : Nat} {Ts : List Cond} (hts : ∀ w ∈ Ts, w.before args s = true) (hin : ∀ w ∈ u_ws C T N, w ∈ Ts) (ty0 : Nat → FieldType) (hty : ∀ k, k < N → parseFieldDescriptor (T k).2.2.1 = some (ty0 k)) (hnm : ∀ a, a < N → ∀ b, b < N → a ≠ b → (T a).2.1 ≠ (T b).2.1) (hown : s.vm.findClass own = some m.cls) (hK : va_K G.1 vwCl (TY G) s) (hH : HP G A s.heap WS H locs) (i : Nat) {fs : List Value} (hB : WS[i]? = some [(a, .inr (ci, fs))]) (hc : vwCl[ci]? = some (C, T, N)) (k : Nat) (hk : k < N) (hlink : (Cond.fieldLink own index ref (T k).2.1 (T k).2.2.1).before args s = true) (hsame : ∀ x, s.fieldFound? (T k).1 (T k).2.1 (T k).2.2.1 = some x → s.fieldFound? ref (T k).2.1 (T k).2.2.1 = some x) (hfin : (T k).2.2.2 = false) {ty : FieldType} {v : Value} (hd : parseFieldDescriptor (T k).2.2.1 = some ty) (hn : narrow ty v = v) (hfit : fits ty v = true) (hl : k < fs.length) {WS' : List va_W} (hW' : WS.set i [(a, .inr (ci, fs.set k v))] = WS')
    (hdg : decode cc pc = .ok (.putfield index, 3)) (kk : ∀ (H1 : Heap) (locs1 : List Loc), HP G A s.heap WS' H1 locs1 → W p l e R s m args below meth c H1 locs1 cells slots Q (F0 m (pc + 3) ls rest)) : W p l e R s m args below meth c H locs cells slots Q (F0 m pc ls (v :: .ref a :: rest)) := by
  obtain ⟨z, hz⟩ := kb_at hH i hB 0 rfl
  refine va_put hx hb hts hin ty0 hty hnm hown hK hH.1 hH.2.1 hH.2.2 z hz hc k hk hlink hsame hfin hd hn hfit hl hdg (fun H1 locs1 hP hD hS => ?_)
  have h := kb_setp hz i hB hH.2.1 hP hD
  rw [hW'] at h
  exact kk H1 locs1 ⟨h.1, h.2, hS⟩
theorem kb_putN (hx : p.tables.exec = Jvm.exec) (hb : c.code = cc) {own ref C host : String} {T : u_T} {N ci index : Nat} {Ts : List Cond} (hts : ∀ w ∈ Ts, w.before args s = true) (hin : ∀ w ∈ u_ws C T N, w ∈ Ts) (ty0 : Nat → FieldType) (hty : ∀ k, k < N → parseFieldDescriptor (T k).2.2.1 = some (ty0 k)) (hnm : ∀ a, a < N → ∀ b, b < N → a ≠ b → (T a).2.1 ≠ (T b).2.1) (hown : s.vm.findClass own = some m.cls) (hK : va_K G.1 vwCl (TY G) s) (hH : HP G A s.heap WS H locs) (i : Nat) {fs : List Value} (hB : WS[i]? = some [(a, .inr (ci, fs))]) (hc : vwCl[ci]? = some (C, T, N)) (k : Nat) (hk : k < N) (hlink : (Cond.fieldLinkNest own index ref (T k).2.1 (T k).2.2.1 host).before args s = true) (hsame : ∀ x, s.fieldFound? (T k).1 (T k).2.1 (T k).2.2.1 = some x → s.fieldFound? ref (T k).2.1 (T k).2.2.1 = some x) (hfin : (T k).2.2.2 = false) {ty : FieldType} {v : Value} (hd : parseFieldDescriptor (T k).2.2.1 = some ty) (hn : narrow ty v = v) (hfit : fits ty v = true) (hl : k < fs.length) {WS' : List va_W} (hW' : WS.set i [(a, .inr (ci, fs.set k v))] = WS')
    (hdg : decode cc pc = .ok (.putfield index, 3)) (kk : ∀ (H1 : Heap) (locs1 : List Loc), HP G A s.heap WS' H1 locs1 → W p l e R s m args below meth c H1 locs1 cells slots Q (F0 m (pc + 3) ls rest)) : W p l e R s m args below meth c H locs cells slots Q (F0 m pc ls (v :: .ref a :: rest)) := by
  obtain ⟨z, hz⟩ := kb_at hH i hB 0 rfl
  refine va_putN hx hb hts hin ty0 hty hnm hown hK hH.1 hH.2.1 hH.2.2 z hz hc k hk hlink hsame hfin hd hn hfit hl hdg (fun H1 locs1 hP hD hS => ?_)
  have h := kb_setp hz i hB hH.2.1 hP hD
  rw [hW'] at h
  exact kk H1 locs1 ⟨h.1, h.2, hS⟩
theorem kb_iald (hx : p.tables.exec = Jvm.exec) (hb : c.code = cc) (hK : va_K G.1 vwCl (TY G) s) (hH : HP G A s.heap WS H locs) (i : Nat) {n : Nat} {f : Nat → Int32} (hB : WS[i]? = some [(a, .inl (G.2.1, n, .inl f))]) {x : Int32} (hin : vp_in x n) (hdg : decode cc pc = .ok (.iaload, 1))
    (kk : W p l e R s m args below meth c H locs cells slots Q (F0 m (pc + 1) ls (.int (f x.toNatClampNeg) :: rest))) : W p l e R s m args below meth c H locs cells slots Q (F0 m pc ls (.int x :: .ref a :: rest)) := by
  obtain ⟨z, hz⟩ := kb_at hH i hB 0 rfl
  exact va_iald hx hb hK hH.1 z 0 hz rfl hin hdg kk
theorem kb_zald (hx : p.tables.exec = Jvm.exec) (hb : c.code = cc) (hK : va_K G.1 vwCl (TY G) s) (hH : HP G A s.heap WS H locs) (i : Nat) {n : Nat} {f : Nat → Int32} (hB : WS[i]? = some [(a, .inl (G.2.2.1, n, .inl f))]) {x : Int32} (hin : vp_in x n) (hdg : decode cc pc = .ok (.baload, 1))
    (kk : W p l e R s m args below meth c H locs cells slots Q (F0 m (pc + 1) ls (.int (f x.toNatClampNeg) :: rest))) : W p l e R s m args below meth c H locs cells slots Q (F0 m pc ls (.int x :: .ref a :: rest)) := by
  obtain ⟨z, hz⟩ := kb_at hH i hB 0 rfl
  exact va_zald hx hb hK hH.1 z 1 hz rfl hin hdg kk
theorem kb_aald (hx : p.tables.exec = Jvm.exec) (hb : c.code = cc) (hK : va_K G.1 vwCl (TY G) s) (hH : HP G A s.heap WS H locs) (i : Nat) {n : Nat} {f : Nat → Option Nat} (hB : WS[i]? = some [(a, .inl (G.2.2.2, n, .inr (.inr (.inr (.inr f)))))]) {x : Int32} (hin : vp_in x n) (hdg : decode cc pc = .ok (.aaload, 1))
    (kk : W p l e R s m args below meth c H locs cells slots Q (F0 m (pc + 1) ls (va_rf (f x.toNatClampNeg) :: rest))) : W p l e R s m args below meth c H locs cells slots Q (F0 m pc ls (.int x :: .ref a :: rest)) := by
  obtain ⟨z, hz⟩ := kb_at hH i hB 0 rfl
  exact va_aldq hx hb hK hH.1 z 2 hz rfl hin hdg kk
theorem kb_iast (hx : p.tables.exec = Jvm.exec) (hb : c.code = cc) (hK : va_K G.1 vwCl (TY G) s) (hH : HP G A s.heap WS H locs) (i : Nat) {n : Nat} {f : Nat → Int32} (hB : WS[i]? = some [(a, .inl (G.2.1, n, .inl f))]) {x y : Int32} (hin : vp_in x n) {WS' : List va_W} (hW' : WS.set i [(a, .inl (G.2.1, n, .inl (upd f x.toNatClampNeg y)))] = WS') (hdg : decode cc pc = .ok (.iastore, 1))
    (kk : ∀ (H1 : Heap) (locs1 : List Loc), HP G A s.heap WS' H1 locs1 → W p l e R s m args below meth c H1 locs1 cells slots Q (F0 m (pc + 1) ls rest)) : W p l e R s m args below meth c H locs cells slots Q (F0 m pc ls (.int y :: .int x :: .ref a :: rest)) := by
  obtain ⟨z, hz⟩ := kb_at hH i hB 0 rfl
  refine va_iast hx hb hK hH.1 hH.2.1 hH.2.2 z 0 hz rfl hin hdg (fun H1 locs1 hP hD hS => ?_)
  have h := kb_setp hz i hB hH.2.1 hP hD
  rw [hW'] at h
  exact kk H1 locs1 ⟨h.1, h.2, hS⟩
theorem kb_zast (hx : p.tables.exec = Jvm.exec) (hb : c.code = cc) (hK : va_K G.1 vwCl (TY G) s) (hH : HP G A s.heap WS H locs) (i : Nat) {n : Nat} {f : Nat → Int32} (hB : WS[i]? = some [(a, .inl (G.2.2.1, n, .inl f))]) {x y : Int32} (hin : vp_in x n) {WS' : List va_W} (hW' : WS.set i [(a, .inl (G.2.2.1, n, .inl (upd f x.toNatClampNeg (vp_nar .boolean y))))] = WS') (hdg : decode cc pc = .ok (.bastore, 1))
    (kk : ∀ (H1 : Heap) (locs1 : List Loc), HP G A s.heap WS' H1 locs1 → W p l e R s m args below meth c H1 locs1 cells slots Q (F0 m (pc + 1) ls rest)) : W p l e R s m args below meth c H locs cells slots Q (F0 m pc ls (.int y :: .int x :: .ref a :: rest)) := by
  obtain ⟨z, hz⟩ := kb_at hH i hB 0 rfl
  refine va_zast hx hb hK hH.1 hH.2.1 hH.2.2 z 1 hz rfl hin hdg (fun H1 locs1 hP hD hS => ?_)
  have h := kb_setp hz i hB hH.2.1 hP hD
  rw [hW'] at h
  exact kk H1 locs1 ⟨h.1, h.2, hS⟩
theorem kb_alen (hx : p.tables.exec = Jvm.exec) (hb : c.code = cc) (hK : va_K G.1 vwCl (TY G) s) (hH : HP G A s.heap WS H locs) (i : Nat) (t : Nat) {cA : ClassId} {ty : FieldType} {x : vp_A} (hB : WS[i]? = some [(a, .inl (cA, x))]) (ht : (TY G)[t]? = some (cA, ty)) {v : Int32} (hv : Int32.ofNat x.1 = v) (hdg : decode cc pc = .ok (.arraylength, 1))
    (kk : W p l e R s m args below meth c H locs cells slots Q (F0 m (pc + 1) ls (.int v :: rest))) : W p l e R s m args below meth c H locs cells slots Q (F0 m pc ls (.ref a :: rest)) := by
  obtain ⟨z, hz⟩ := kb_at hH i hB 0 rfl
  exact va_alen hx hb hK hH.1 z t hz ht hv hdg kk
/-! ends -/
theorem kb_iret {WS' : List va_W} {r v : Int32} (hx : p.tables.exec = Jvm.exec) (hb : c.code = cc) (hr : meth.sig.returnType = some .int) (hH : HP G A s.heap WS H locs) (hW : WS = WS') (hv : v = r) (hdg : decode cc pc = .ok (.ireturn, 1)) (hlocks : meth.locks = false) :
    W p l e R s m args below meth c H locs cells slots (MQ below (va_Qi (fun q (_ : Unit) => q = r) (fun _ => PST G WS' A) A) args s cells slots A) (F0 m pc ls [.int v]) := by
  subst hW; subst hv
  exact W.iret hx hb hr (fun t ht hW => ⟨⟨v, (), rfl, rfl, by rw [ht]; exact hH.1, hH.2.1⟩, hH.2.2.F ht⟩) hH.2.2.2.2 hdg hlocks
theorem kb_zret {WS' : List va_W} {r v : Int32} (hx : p.tables.exec = Jvm.exec) (hb : c.code = cc) (hr : meth.sig.returnType = some .boolean) (hH : HP G A s.heap WS H locs) (hW : WS = WS') (hv : v = r) (hn : narrow .boolean (.int v) = .int v) (hdg : decode cc pc = .ok (.ireturn, 1)) (hlocks : meth.locks = false) :
    W p l e R s m args below meth c H locs cells slots (MQ below (va_Qi (fun q (_ : Unit) => q = r) (fun _ => PST G WS' A) A) args s cells slots A) (F0 m pc ls [.int v]) := by
  subst hW; subst hv
  exact W.zret hx hb hr hn (fun t ht hW => ⟨⟨v, (), rfl, rfl, by rw [ht]; exact hH.1, hH.2.1⟩, hH.2.2.F ht⟩) hH.2.2.2.2 hdg hlocks
theorem kb_vret {WS' : List va_W} (hx : p.tables.exec = Jvm.exec) (hb : c.code = cc) (hr : meth.sig.returnType = none) (hH : HP G A s.heap WS H locs) (hW : WS = WS') (hdg : decode cc pc = .ok (.return_, 1)) (hlocks : meth.locks = false) :
    W p l e R s m args below meth c H locs cells slots (MQ below (va_Qv (fun (_ : Unit) => True) (fun _ => PST G WS' A) A) args s cells slots A) (F0 m pc ls []) := by
  subst hW
  exact W.vret hx hb hr (fun t ht hW => ⟨⟨(), rfl, trivial, by rw [ht]; exact hH.1, hH.2.1⟩, hH.2.2.F ht⟩) hH.2.2.2.2 hdg hlocks
theorem kb_lret {WS' : List va_W} {r v : Int64} (hx : p.tables.exec = Jvm.exec) (hb : c.code = cc) (hr : meth.sig.returnType = some .long) (hH : HP G A s.heap WS H locs) (hW : WS = WS') (hv : v = r) (hdg : decode cc pc = .ok (.lreturn, 1)) (hlocks : meth.locks = false) :
    W p l e R s m args below meth c H locs cells slots (MQ below (va_Ql (fun q (_ : Unit) => q = r) (fun _ => PST G WS' A) A) args s cells slots A) (F0 m pc ls [.long v]) := by
  subst hW; subst hv
  exact W.lret hx hb hr (fun t ht hW => ⟨⟨v, (), rfl, rfl, by rw [ht]; exact hH.1, hH.2.1⟩, hH.2.2.F ht⟩) hH.2.2.2.2 hdg hlocks
end KB
/-- a method's start: its world, the frame's addresses -/
theorem kb_start {G : Ge} {WS : List va_W} {s : State} {sz : Nat} (h : PRE G WS sz s) : sz = s.heap.size ∧ HP G (va_A WS.flatten s.heap.size) s.heap WS s.heap [] ∧ va_K G.1 vwCl (TY G) s ∧ NW s ∧ ∀ q, s.heap.size ≤ q → va_A WS.flatten s.heap.size q :=
  ⟨h.1.symm, ⟨h.2.1, (h.2.2.2.1).self, va_S.rf⟩, h.2.2.1, h.2.2.2.2, fun _ hq => Or.inr hq⟩
