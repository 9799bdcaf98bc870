/-! THE LAW: the world of both sides, and what holds at each round of its loop -/
abbrev LW (G : Ge) (γ : Nat → Nat → Nat) (γh : Nat → Nat → Nat → Nat) (g8 : Nat → Nat) (V7 Vr Vg Vga Vn Va Vac : OV) (VHa : Nat → OV) (Vs Vsl : OV) (VHs : Nat → OV) (Vp Vpt Vt M : OV) : List va_W := w_O7 G (γ 0) (γ 1 0) (γ 4 0) (γ 5 0) (γ 6 0) (γ 7 0) (γ 8 0) (γ 9 0) (γ 11 0) V7 ++ w_O4 G (γ 1) (γ 2 0) (γ 3 0) Vr ++ w_O2 G (γ 2) Vg ++ w_O1 G (γ 3) Vga ++ w_O2 G (γ 4) Vn ++ w_O1 G (γ 5) Va ++ w_O0 G (γ 6) (γh 0) Vac VHa ++ w_O5 G (γ 7) Vs ++ w_O6 G (γ 8) (γh 1) Vsl VHs ++ w_O3 G (γ 9) (γ 10 0) Vp ++ w_O2 G (γ 10) Vpt ++ w_O2 G (γ 11) Vt ++ w_O8 G g8 M
def LINV (G : Ge) (γ : Nat → Nat → Nat) (γh : Nat → Nat → Nat → Nat) (g8 : Nat → Nat) (A : Nat → Prop) (H0 : Heap) (T : Nat) (H : Heap) (locs : List Loc) : Prop := ∃ (co wn : Nat) (V7 Vr Vg Vga Vn Va Vac : OV) (VHa : Nat → OV) (Vs Vsl : OV) (VHs : Nat → OV) (Vp Vpt Vt M : OV), RLN T co wn V7 Vr Vn Va Vac Vs Vsl VHa VHs M ∧ HP G A H0 (LW G γ γh g8 V7 Vr Vg Vga Vn Va Vac VHa Vs Vsl VHs Vp Vpt Vt M) H locs
/-- what stays all along -/
def LC (p : Program) (s : State) (m : MethodId) (c : Code) (b L : Nat) (xs : Nat → Int32) (G : Ge) (A : Nat → Prop) : Prop := p.tables.exec = Jvm.exec ∧ c.code = cL_law ∧ c.maxLocals = 4 ∧ s.vm.findClass RL = some m.cls ∧ (∀ w ∈ lw_tbl, w.before #[Value.ref b] s = true) ∧ va_K G.1 vwCl (TY G) s ∧ NW s ∧ va_X b L xs s s.heap ∧ b < s.heap.size ∧ ¬ A b ∧ ∀ q, s.heap.size ≤ q → A q
theorem lg_self (x : Int64) : lg_cmp x x = 0 := by
  have h : ¬ x > x := Int64.lt_irrefl
  unfold lg_cmp
  rw [if_neg h, if_pos rfl]
