/-! what an object holds: its arrays, its ints, its longs, by the number of the field -/
abbrev OV : Type := (Nat → Nat → Int32) × (Nat → Int32) × (Nat → Int64)
def oI (V : OV) (k : Nat) (x : Int32) : OV := (V.1, va_up V.2.1 k x, V.2.2)
def oA (V : OV) (k : Nat) (f : Nat → Int32) : OV := (va_up V.1 k f, V.2)
def oL (V : OV) (k : Nat) (x : Int64) : OV := (V.1, V.2.1, va_up V.2.2 k x)
def b_arr (G : Ge) (a n : Nat) (f : Nat → Int32) : va_W := [(a, .inl (G.2.1, n, .inl f))]
def b_zarr (G : Ge) (a n : Nat) (f : Nat → Int32) : va_W := [(a, .inl (G.2.2.1, n, .inl f))]
def b_refs (G : Ge) (a n : Nat) (gh : Nat → Nat → Nat) : va_W := [(a, .inl (G.2.2.2, n, .inr (.inr (.inr (.inr (fun i => some (gh i 0)))))))]
def b_O2 (g : Nat → Nat) (V : OV) : va_W := [(g 0, .inr (2, [.ref (g 1), .ref (g 2), .ref (g 3), .ref (g 4), .ref (g 5), .int (V.2.1 5), .int (V.2.1 6), .int (V.2.1 7), .int (V.2.1 8), .int (V.2.1 9), .int (V.2.1 10)]))]
def b_O1 (g : Nat → Nat) (V : OV) : va_W := [(g 0, .inr (1, [.ref (g 1), .ref (g 2), .ref (g 3), .int (V.2.1 3)]))]
def b_O5 (g : Nat → Nat) (V : OV) : va_W := [(g 0, .inr (5, [.ref (g 1), .ref (g 2), .int (V.2.1 2)]))]
def b_O4 (g : Nat → Nat) (a1 : Nat) (a2 : Nat) (V : OV) : va_W := [(g 0, .inr (4, [.ref (g 1), .ref a1, .ref a2, .int (V.2.1 3), .int (V.2.1 4), .int (V.2.1 5)]))]
def b_O3 (g : Nat → Nat) (a0 : Nat) (V : OV) : va_W := [(g 0, .inr (3, [.ref a0, .int (V.2.1 1), .int (V.2.1 2), .int (V.2.1 3), .int (V.2.1 4)]))]
def b_O0 (g : Nat → Nat) (V : OV) : va_W := [(g 0, .inr (0, [.ref (g 1), .int (V.2.1 1), .int (V.2.1 2)]))]
def b_O6 (g : Nat → Nat) (V : OV) : va_W := [(g 0, .inr (6, [.ref (g 1), .int (V.2.1 1)]))]
def b_O7 (g : Nat → Nat) (a0 : Nat) (a1 : Nat) (a2 : Nat) (a3 : Nat) (a4 : Nat) (a5 : Nat) (a6 : Nat) (a7 : Nat) (V : OV) : va_W := [(g 0, .inr (7, [.ref a0, .ref a1, .ref a2, .ref a3, .ref a4, .ref a5, .ref a6, .ref a7, .long (V.2.2 8)]))]
def b_O8 (g : Nat → Nat) (V : OV) : va_W := [(g 0, .inr (8, [.int (V.2.1 0), .int (V.2.1 1), .ref (g 3), .ref (g 4), .ref (g 5), .ref (g 6), .ref (g 7), .ref (g 8), .ref (g 9), .ref (g 10), .int (V.2.1 10), .int (V.2.1 11), .int (V.2.1 12), .int (V.2.1 13), .ref (g 15), .int (V.2.1 15), .int (V.2.1 16), .int (V.2.1 17), .int (V.2.1 18), .int (V.2.1 19), .ref (g 21), .int (V.2.1 21), .int (V.2.1 22), .int (V.2.1 23), .int (V.2.1 24), .int (V.2.1 25), .ref (g 27), .ref (g 28), .long (V.2.2 28), .ref (g 30), .ref (g 31)]))]
abbrev w_O2 (G : Ge) (g : Nat → Nat) (V : OV) : List va_W := [b_O2 g V, b_arr G (g 1) 10 (V.1 0), b_arr G (g 2) 6 (V.1 1), b_arr G (g 3) 6 (V.1 2), b_arr G (g 4) 6 (V.1 3), b_arr G (g 5) 6 (V.1 4)]
def b_hills (G : Ge) (n : Nat) (gh : Nat → Nat → Nat) (VH : Nat → OV) : va_W := (List.range n).flatMap (fun i => (w_O2 G (gh i) (VH i)).flatten)
abbrev w_O1 (G : Ge) (g : Nat → Nat) (V : OV) : List va_W := [b_O1 g V, b_arr G (g 1) 4 (V.1 0), b_arr G (g 2) 4 (V.1 1), b_arr G (g 3) 4 (V.1 2)]
abbrev w_O5 (G : Ge) (g : Nat → Nat) (V : OV) : List va_W := [b_O5 g V, b_arr G (g 1) 6 (V.1 0), b_arr G (g 2) 6 (V.1 1)]
abbrev w_O4 (G : Ge) (g : Nat → Nat) (a1 : Nat) (a2 : Nat) (V : OV) : List va_W := [b_O4 g a1 a2 V, b_arr G (g 1) 64 (V.1 0)]
abbrev w_O3 (G : Ge) (g : Nat → Nat) (a0 : Nat) (V : OV) : List va_W := [b_O3 g a0 V]
abbrev w_O0 (G : Ge) (g : Nat → Nat) (gh : Nat → Nat → Nat) (V : OV) (VH : Nat → OV) : List va_W := [b_O0 g V, b_refs G (g 1) 14 gh, b_hills G 14 gh VH]
abbrev w_O6 (G : Ge) (g : Nat → Nat) (gh : Nat → Nat → Nat) (V : OV) (VH : Nat → OV) : List va_W := [b_O6 g V, b_refs G (g 1) 2 gh, b_hills G 2 gh VH]
abbrev w_O7 (G : Ge) (g : Nat → Nat) (a0 : Nat) (a1 : Nat) (a2 : Nat) (a3 : Nat) (a4 : Nat) (a5 : Nat) (a6 : Nat) (a7 : Nat) (V : OV) : List va_W := [b_O7 g a0 a1 a2 a3 a4 a5 a6 a7 V]
abbrev w_O8 (G : Ge) (g : Nat → Nat) (V : OV) : List va_W := [b_O8 g V, b_arr G (g 3) 6 (V.1 2), b_arr G (g 4) 6 (V.1 3), b_arr G (g 5) 12 (V.1 4), b_arr G (g 6) 54 (V.1 5), b_arr G (g 7) 27 (V.1 6), b_arr G (g 8) 6 (V.1 7), b_arr G (g 9) 6 (V.1 8), b_arr G (g 10) 12 (V.1 9), b_arr G (g 15) 64 (V.1 14), b_arr G (g 21) 378 (V.1 20), b_arr G (g 27) 6 (V.1 26), b_arr G (g 28) 6 (V.1 27), b_zarr G (g 30) 2 (V.1 29), b_arr G (g 31) 54 (V.1 30)]
/-! the words of what a method computes -/
def kAp {α : Type} {β : Sort _} (x : α) (k : α → β) : β := k x
theorem kAp_eq {α : Type} {β : Sort _} {x v : α} {k : α → β} {F : β} (h : kAp x k = F) (hv : v = x) : k v = F := by subst hv; exact h
theorem kAp_D {α : Type} {x v : α} {k : α → Prop} (h : kAp x k) (hv : v = x) : k v := by subst hv; exact h
/-- an early end: what is left is left out -/
def kAx {α β : Type} (x : α ⊕ β) (k : α → β) : β := match x with
  | .inl a => k a
  | .inr b => b
theorem kAx_l {α β : Type} {x : α ⊕ β} {a : α} {k : α → β} {F : β} (h : kAx x k = F) (hx : x = .inl a) : k a = F := by subst hx; exact h
theorem kAx_r {α β : Type} {x : α ⊕ β} {b : β} {k : α → β} {F : β} (h : kAx x k = F) (hx : x = .inr b) : b = F := by subst hx; exact h
def kAxD {α β : Type} (x : α ⊕ β) (k : α → Prop) : Prop := match x with
  | .inl a => k a
  | .inr _ => True
theorem kAxD_l {α β : Type} {x : α ⊕ β} {a : α} {k : α → Prop} (h : kAxD x k) (hx : x = .inl a) : k a := by subst hx; exact h
/-- a loop that counts: n steps from i on -/
def lpu {σ : Type} (body : Nat → σ → σ) : Nat → Nat → σ → σ
  | 0, _, s => s
  | n + 1, i, s => lpu body n (i + 1) (body i s)
def lpuD {σ : Type} (body : Nat → σ → σ) (D : Nat → σ → Prop) : Nat → Nat → σ → Prop
  | 0, _, _ => True
  | n + 1, i, s => D i s ∧ lpuD body D n (i + 1) (body i s)
/-- a loop that counts, with an early end -/
def lpx {σ ε : Type} (body : Nat → σ → σ ⊕ ε) : Nat → Nat → σ → σ ⊕ ε
  | 0, _, s => .inl s
  | n + 1, i, s => match body i s with
    | .inl s' => lpx body n (i + 1) s'
    | .inr r => .inr r
theorem lpx_l {σ ε : Type} {body : Nat → σ → σ ⊕ ε} {n i : Nat} {s s' : σ} {F : σ ⊕ ε} (h : lpx body (n + 1) i s = F) (hb : body i s = .inl s') : lpx body n (i + 1) s' = F := by rw [← h]; simp only [lpx]; rw [hb]
theorem lpx_r {σ ε : Type} {body : Nat → σ → σ ⊕ ε} {n i : Nat} {s : σ} {r : ε} {F : σ ⊕ ε} (h : lpx body (n + 1) i s = F) (hb : body i s = .inr r) : F = .inr r := by rw [← h]; simp only [lpx]; rw [hb]
def lpxD {σ ε : Type} (body : Nat → σ → σ ⊕ ε) (D : Nat → σ → Prop) : Nat → Nat → σ → Prop
  | 0, _, _ => True
  | n + 1, i, s => D i s ∧ ∀ s', body i s = .inl s' → lpxD body D n (i + 1) s'
/-- a loop that counts, left ahead of its end with what it holds -/
def lpb {σ : Type} (body : Nat → σ → σ ⊕ σ) : Nat → Nat → σ → σ
  | 0, _, s => s
  | n + 1, i, s => match body i s with
    | .inl s' => lpb body n (i + 1) s'
    | .inr s' => s'
theorem lpb_l {σ : Type} {body : Nat → σ → σ ⊕ σ} {n i : Nat} {s s' : σ} {F : σ} (h : lpb body (n + 1) i s = F) (hb : body i s = .inl s') : lpb body n (i + 1) s' = F := by rw [← h]; simp only [lpb]; rw [hb]
theorem lpb_r {σ : Type} {body : Nat → σ → σ ⊕ σ} {n i : Nat} {s s' : σ} {F : σ} (h : lpb body (n + 1) i s = F) (hb : body i s = .inr s') : s' = F := by rw [← h]; simp only [lpb]; rw [hb]
/-- a loop with a bound that is told -/
def lpw {σ : Type} (body : σ → σ ⊕ σ) : Nat → σ → σ
  | 0, s => s
  | n + 1, s => match body s with
    | .inl s' => lpw body n s'
    | .inr s' => s'
theorem lpw_l {σ : Type} {body : σ → σ ⊕ σ} {n : Nat} {s s' : σ} {F : σ} (h : lpw body (n + 1) s = F) (hb : body s = .inl s') : lpw body n s' = F := by rw [← h]; simp only [lpw]; rw [hb]
theorem lpw_r {σ : Type} {body : σ → σ ⊕ σ} {n : Nat} {s s' : σ} {F : σ} (h : lpw body (n + 1) s = F) (hb : body s = .inr s') : s' = F := by rw [← h]; simp only [lpw]; rw [hb]
def lpwD {σ : Type} (body : σ → σ ⊕ σ) (D : σ → Prop) : Nat → σ → Prop
  | 0, _ => False
  | n + 1, s => D s ∧ ∀ s', body s = .inl s' → lpwD body D n s'
/-- how often a loop from 0 up to b goes round -/
def cN (b : Int32) : Nat := b.toInt.toNat
theorem cN_lt (b : Int32) : cN b < 2 ^ 31 := by
  have := b.toInt_lt
  unfold cN
  omega
theorem cN_nI {n : Nat} (h : n < 2 ^ 31) : cN (nI n) = n := by unfold cN; rw [nI_toInt h]; omega
theorem cN_ge {b : Int32} {i : Nat} (h : i < cN b) : ¬ b ≤ nI i := by
  have h1 := cN_lt b
  intro hb
  rw [Int32.le_iff_toInt_le, nI_toInt (by omega)] at hb
  unfold cN at h
  omega
theorem cN_end {b : Int32} {i : Nat} (h : i = cN b) : b ≤ nI i := by
  have h1 := cN_lt b
  rw [Int32.le_iff_toInt_le, nI_toInt (by omega)]
  unfold cN at h
  omega
/-- as long as the counter is not above b -/
def cM (b : Int32) : Nat := (b.toInt + 1).toNat
theorem cM_gt {b : Int32} {i : Nat} (hb : b.toInt < 2147483647) (h : i < cM b) : ¬ b < nI i := by
  unfold cM at h
  intro hb2
  rw [Int32.lt_iff_toInt_lt, nI_toInt (by omega)] at hb2
  omega
theorem cM_end {b : Int32} {i : Nat} (hb : b.toInt < 2147483647) (h : i = cM b) : b < nI i := by
  unfold cM at h
  rw [Int32.lt_iff_toInt_lt, nI_toInt (by omega)]
  omega
theorem kb_vp {x : Int32} {n : Nat} (hn : n < 2 ^ 31) (h0 : ¬ x < 0) (h1 : ¬ nI n ≤ x) : vp_in x n := by
  rw [vp_in_iff]
  rw [Int32.lt_iff_toInt_lt] at h0
  rw [Int32.le_iff_toInt_le, nI_toInt hn] at h1
  have : (0 : Int32).toInt = 0 := rfl
  omega
theorem kb_vpi {i n : Nat} (hn : n < 2 ^ 31) (h1 : ¬ nI n ≤ nI i) (hi : i < 2 ^ 31) : vp_in (nI i) n := kb_vp hn (nI_pos hi) h1
theorem kb_nar (x : Int32) (h : x = 0 ∨ x = 1) : narrow .boolean (.int x) = .int x := by rcases h with rfl | rfl <;> rfl
theorem kb_fit (x : Int32) (h : x = 0 ∨ x = 1) : fits .boolean (.int x) = true := by rcases h with rfl | rfl <;> rfl
section KC
variable {p : Program} {l : Launch} {e : Env} {R : Room} {s : State} {m : MethodId} {args : Array Value} {below : List Frame} {meth : Method} {c : Code} {H : Heap} {locs : List Loc} {cells slots : Nat} {Q : State → Prop} {pc : Nat} {ls : Array Slot} {st : List Value}
/-- a place that several ways come to, proved once -/
theorem kb_cut (X : Heap → List Loc → Array Slot → Prop) (pc2 : Nat) (st2 : List Value) (main : (∀ (H1 : Heap) (locs1 : List Loc) (ls1 : Array Slot), X H1 locs1 ls1 → W p l e R s m args below meth c H1 locs1 cells slots Q (F0 m pc2 ls1 st2)) → W p l e R s m args below meth c H locs cells slots Q (F0 m pc ls st)) (ex : ∀ (H1 : Heap) (locs1 : List Loc) (ls1 : Array Slot), X H1 locs1 ls1 → W p l e R s m args below meth c H1 locs1 cells slots Q (F0 m pc2 ls1 st2)) : W p l e R s m args below meth c H locs cells slots Q (F0 m pc ls st) := main ex
theorem kb_loop {σ : Type} (I : Nat → Nat → σ → Prop) (X : Nat → σ → Heap → List Loc → Array Slot → Prop)
    (zero : ∀ (i : Nat) (x : σ) (H : Heap) (locs : List Loc) (ls : Array Slot), I 0 i x → X i x H locs ls → W p l e R s m args below meth c H locs cells slots Q (F0 m pc ls st))
    (succ : ∀ (n i : Nat) (x : σ), I (n + 1) i x → (∀ (x' : σ) (H : Heap) (locs : List Loc) (ls : Array Slot), I n (i + 1) x' → X (i + 1) x' H locs ls → W p l e R s m args below meth c H locs cells slots Q (F0 m pc ls st)) → ∀ (H : Heap) (locs : List Loc) (ls : Array Slot), X i x H locs ls → W p l e R s m args below meth c H locs cells slots Q (F0 m pc ls st)) :
    ∀ (n i : Nat) (x : σ) (H : Heap) (locs : List Loc) (ls : Array Slot), I n i x → X i x H locs ls → W p l e R s m args below meth c H locs cells slots Q (F0 m pc ls st) := by
  intro n
  induction n with
  | zero => exact zero
  | succ n ih => exact fun i x H locs ls hI hX => succ n i x hI (fun x' H' locs' ls' => ih (i + 1) x' H' locs' ls') H locs ls hX
end KC
theorem kb_vplt {x : Int32} {n : Nat} (h : vp_in x n) : x.toNatClampNeg < n := Nat.not_le.mp fun q => h (Or.inr q)
def b_hillsBut (G : Ge) (n : Nat) (gh : Nat → Nat → Nat) (VH : Nat → OV) (i : Nat) : va_W := ((List.range n).erase i).flatMap (fun j => (w_O2 G (gh j) (VH j)).flatten)
theorem kb_hperm {G : Ge} {n i : Nat} {gh : Nat → Nat → Nat} {VH : Nat → OV} (hi : i < n) : (b_hills G n gh VH).Perm (b_hillsBut G n gh VH i ++ (w_O2 G (gh i) (VH i)).flatten) := by
  have h := List.perm_cons_erase (List.mem_range.mpr hi)
  have h2 := h.flatMap_right (fun j => (w_O2 G (gh j) (VH j)).flatten)
  rw [List.flatMap_cons] at h2
  exact h2.trans List.perm_append_comm
theorem kb_hopen {G : Ge} {A : Nat → Prop} {H0 H : Heap} {WS : List va_W} {locs : List Loc} {gh : Nat → Nat → Nat} {VH : Nat → OV} {i : Nat} (b n : Nat) (hi : i < n) (hB : WS[b]? = some (b_hills G n gh VH)) (hH : HP G A H0 WS H locs) : HP G A H0 (WS.set b (b_hillsBut G n gh VH i) ++ w_O2 G (gh i) (VH i)) H locs := by
  have hb : b < WS.length := (List.getElem?_eq_some_iff.mp hB).1
  refine kb_perm ?_ hH
  have p1 := kb_split WS b _ hB
  have p2 := kb_split (WS.set b (b_hillsBut G n gh VH i)) b _ (by rw [List.getElem?_set_self hb])
  rw [List.set_set] at p2
  rw [List.flatten_append]
  refine p1.trans ?_
  refine (List.Perm.append_right _ (kb_hperm hi)).trans ?_
  refine List.Perm.trans ?_ (List.Perm.append_right _ p2.symm)
  rw [List.append_assoc, List.append_assoc]
  exact List.Perm.append_left _ List.perm_append_comm
theorem kb_hclose {G : Ge} {A : Nat → Prop} {H0 H : Heap} {WS : List va_W} {locs : List Loc} {gh : Nat → Nat → Nat} {VH : Nat → OV} {V : OV} {i : Nat} (b n : Nat) (hi : i < n) (hb : b < WS.length) (hH : HP G A H0 (WS.set b (b_hillsBut G n gh VH i) ++ w_O2 G (gh i) V) H locs) : HP G A H0 (WS.set b (b_hills G n gh (va_up VH i V))) H locs := by
  refine kb_perm ?_ hH
  have p2 := kb_split (WS.set b (b_hillsBut G n gh VH i)) b _ (by rw [List.getElem?_set_self hb])
  have p3 := kb_split (WS.set b (b_hills G n gh (va_up VH i V))) b _ (by rw [List.getElem?_set_self hb])
  rw [List.set_set] at p2 p3
  rw [List.flatten_append]
  have hbut : b_hillsBut G n gh VH i = b_hillsBut G n gh (va_up VH i V) i := by
    unfold b_hillsBut
    have hnd : ((List.range n).erase i).Perm ((List.range n).erase i) := List.Perm.refl _
    have hne : ∀ j ∈ (List.range n).erase i, j ≠ i := fun j hj e => by
      subst e
      exact (List.Nodup.mem_erase_iff List.nodup_range).mp hj |>.1 rfl
    rw [List.flatMap_def, List.flatMap_def]
    refine congrArg List.flatten (List.map_congr_left fun j hj => ?_)
    simp only [va_up, if_neg (hne j hj)]
  have hv : V = va_up VH i V i := by simp [va_up]
  refine (List.Perm.append_right _ p2).trans (List.Perm.trans ?_ p3.symm)
  refine List.Perm.trans ?_ (List.Perm.append_right _ (kb_hperm (VH := va_up VH i V) hi).symm)
  rw [hbut, ← hv, List.append_assoc, List.append_assoc]
  exact List.Perm.append_left _ List.perm_append_comm
theorem kb_hcloseS {G : Ge} {A : Nat → Prop} {H0 H : Heap} {WS : List va_W} {locs : List Loc} {gh : Nat → Nat → Nat} {VH : Nat → OV} {i : Nat} (b n : Nat) (hi : i < n) (hb : b < WS.length) (hH : HP G A H0 (WS.set b (b_hillsBut G n gh VH i) ++ w_O2 G (gh i) (VH i)) H locs) : HP G A H0 (WS.set b (b_hills G n gh VH)) H locs := by
  have h := kb_hclose b n hi hb hH
  have e : va_up VH i (VH i) = VH := funext fun j => by
    by_cases hj : j = i <;> simp [va_up, hj]
  rwa [e] at h
section KH
variable {p : Program} {l : Launch} {e : Env} {R : Room} {s : State} {m : MethodId} {args : Array Value} {below : List Frame} {meth : Method} {c : Code} {H : Heap} {locs : List Loc} {cells slots : Nat} {Q : State → Prop} {cc : ByteArray} {pc : Nat} {ls : Array Slot} {rest : List Value} {G : Ge} {A : Nat → Prop} {WS : List va_W} {a : Nat}
theorem kb_hald (hx : p.tables.exec = Jvm.exec) (hb : c.code = cc) (hK : va_K G.1 vwCl (TY G) s) (hH : HP G A s.heap WS H locs) (i : Nat) {n : Nat} {gh : Nat → Nat → Nat} (hB : WS[i]? = some (b_refs G a n gh)) {x : Int32} (hin : vp_in x n) (hdg : decode cc pc = .ok (.aaload, 1))
    (kk : W p l e R s m args below meth c H locs cells slots Q (F0 m (pc + 1) ls (.ref (gh x.toNatClampNeg 0) :: rest))) : W p l e R s m args below meth c H locs cells slots Q (F0 m pc ls (.int x :: .ref a :: rest)) :=
  kb_aald hx hb hK hH i hB hin hdg kk
end KH
