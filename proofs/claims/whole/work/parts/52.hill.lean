section HILL
variable {T co wn : Nat} {V7 Vr Vn Va Vac Vs Vsl Vg Vga : OV} {VHa VHs : Nat → OV} {M : OV}
theorem RLN_KP {Vr' M' : OV} (h : RLN T co wn V7 Vr Vn Va Vac Vs Vsl VHa VHs M) (k : KP M M') (t : TX Vr' M') : RLN T co wn V7 Vr' Vn Va Vac Vs Vsl VHa VHs M' := by
  obtain ⟨h1, h2, h3, h4⟩ := h
  obtain ⟨k1, k2, k3⟩ := k
  refine ⟨h1, h2, t, ?_⟩
  unfold CX SX LX AR at *
  rw [k1 2 (by omega) (by omega) (by omega) (by omega), k1 3 (by omega) (by omega) (by omega) (by omega), k1 4 (by omega) (by omega) (by omega) (by omega), k1 5 (by omega) (by omega) (by omega) (by omega), k1 20 (by omega) (by omega) (by omega) (by omega), k1 26 (by omega) (by omega) (by omega) (by omega), k1 27 (by omega) (by omega) (by omega) (by omega), k1 29 (by omega) (by omega) (by omega) (by omega), k1 30 (by omega) (by omega) (by omega) (by omega), k2, k3 0 (by omega), k3 1 (by omega), k3 18 (by omega), k3 19 (by omega), k3 25 (by omega)]
  exact h4
theorem r_fault (h : RLN T co wn V7 Vr Vn Va Vac Vs Vsl VHa VHs M) : d_X8_fault M ∧ (f_X7_fault V7 Vr Vg Vga).1 = (f_X8_fault M).1 ∧ RLN T co wn V7 (f_X7_fault V7 Vr Vg Vga).2.1 Vn Va Vac Vs Vsl VHa VHs (f_X8_fault M).2 := by
  obtain ⟨t1, t2, t3, t4, t5⟩ := p_text (H := Vg) (A := Vga) h.2.2.1
  exact ⟨t1, t2, RLN_KP h t4 t3⟩
theorem p_h4 (M : OV) : ∀ n, n ≤ 6 → lpu f_X8_hill_L4 n 0 M = oA (oA M 2 (fun j => if j < n then M.1 7 j else M.1 2 j)) 3 (fun j => if j < n then M.1 8 j else M.1 3 j) := by
  intro n hn
  refine lpu_inv (fun i s => s = oA (oA M 2 (fun j => if j < i then M.1 7 j else M.1 2 j)) 3 (fun j => if j < i then M.1 8 j else M.1 3 j)) n M ?_ (fun i s hi hI => ?_)
  · have e : oA (oA M 2 (M.1 2)) 3 (M.1 3) = M := by rw [oA_self, oA_self]
    exact e.symm
  · subst hI
    unfold f_X8_hill_L4
    rw [nI_clamp (by omega)]
    refine Prod.ext (funext fun k => ?_) rfl
    show va_up (va_up (va_up (va_up M.1 2 _) 3 _) 2 (upd (fun j => if j < i then M.1 7 j else M.1 2 j) i (M.1 7 i))) 3 (upd (fun j => if j < i then M.1 8 j else M.1 3 j) i (M.1 8 i)) k = va_up (va_up M.1 2 (fun j => if j < i + 1 then M.1 7 j else M.1 2 j)) 3 (fun j => if j < i + 1 then M.1 8 j else M.1 3 j) k
    have eu : ∀ f g : Nat → Int32, upd (fun j => if j < i then f j else g j) i (f i) = fun j => if j < i + 1 then f j else g j := fun f g => funext fun j => by
      rw [p_up]
      by_cases e : j = i
      · subst e; rw [if_pos rfl, if_pos (by omega)]
      · rw [if_neg e]
        show (if j < i then f j else g j) = _
        by_cases e2 : j < i
        · rw [if_pos e2, if_pos (by omega)]
        · rw [if_neg e2, if_neg (by omega)]
    rw [eu (M.1 7) (M.1 2), eu (M.1 8) (M.1 3)]
    unfold va_up
    by_cases e3 : k = 3
    · simp [e3]
    · by_cases e2 : k = 2
      · simp [e2]
      · simp [e3, e2]
theorem p_airCopy {wn : Nat} {A V M : OV} (hwn : wn ≤ 4) (h3 : A.2.1 3 = nI wn) {W : Nat → Int32} (g8 : ∀ w, w < wn → A.1 0 w = W (3 * w) ∧ A.1 1 w = W (3 * w + 1) ∧ A.1 2 w = W (3 * w + 2) ∧ ∃ d, 1 ≤ d ∧ d < 10 ∧ W (3 * w + 2) = nI d) (hM : M.2.1 1 = nI wn) (h4 : ∀ j, j < 12 → M.1 4 j = W j) : AR wn (f_X1_copyFrom V A) M := by
  have e : f_X1_copyFrom V A = oI (oA (oA (oA V 0 (fun j => if j < 4 then A.1 0 j else V.1 0 j)) 1 (fun j => if j < 4 then A.1 1 j else V.1 1 j)) 2 (fun j => if j < 4 then A.1 2 j else V.1 2 j)) 3 (A.2.1 3) := by
    unfold f_X1_copyFrom
    dsimp only [kAp]
    rw [p_copy (by omega), p_copy (by omega), p_copy (by omega)]
  rw [e]
  refine ⟨h3, hM, fun w hw => ?_, fun w hw => ?_, fun w hw => ?_, fun w hw => ?_⟩
  · show (if w < 4 then A.1 0 w else V.1 0 w) = _
    rw [if_pos (by omega), h4 _ (by omega)]; exact (g8 w hw).1
  · show (if w < 4 then A.1 1 w else V.1 1 w) = _
    rw [if_pos (by omega), h4 _ (by omega)]; exact (g8 w hw).2.1
  · show (if w < 4 then A.1 2 w else V.1 2 w) = _
    rw [if_pos (by omega), h4 _ (by omega)]; exact (g8 w hw).2.2.1
  · rw [h4 _ (by omega)]; exact (g8 w hw).2.2.2
theorem r_hill (h : RLN T co wn V7 Vr Vn Va Vac Vs Vsl VHa VHs M) : d_X8_hill M ∧ (f_X7_hill V7 Vr Vg Vga Vn Va Vac VHa Vsl VHs).1 = (f_X8_hill M).1 ∧
    ∃ co' wn', RLN T co' wn' V7 (f_X7_hill V7 Vr Vg Vga Vn Va Vac VHa Vsl VHs).2.1 (f_X7_hill V7 Vr Vg Vga Vn Va Vac VHa Vsl VHs).2.2.2.2.1 (f_X7_hill V7 Vr Vg Vga Vn Va Vac VHa Vsl VHs).2.2.2.2.2.1 (f_X7_hill V7 Vr Vg Vga Vn Va Vac VHa Vsl VHs).2.2.2.2.2.2.1 Vs (f_X7_hill V7 Vr Vg Vga Vn Va Vac VHa Vsl VHs).2.2.2.2.2.2.2 VHa VHs (f_X8_hill M).2 := by
  obtain ⟨t1, t2, t3, t4, t5⟩ := p_text (H := Vg) (A := Vga) h.2.2.1
  refine ⟨t1, ?_⟩
  have hR := RLN_KP h t4 t3
  unfold f_X7_hill f_X8_hill
  dsimp only [kAp]
  rw [t2]
  generalize f_X8_readText M = R at t2 t3 t4 t5 hR ⊢
  generalize f_X4_firstFault Vr Vg Vga = Q at t2 t3 t5 hR ⊢
  by_cases e : R.1 = -9
  · rw [if_pos e, if_pos e]
    obtain ⟨c, w, g1, g2, g3, g4, g5, g6, g7, g8, g9, g10⟩ := t5 e
    sorry
  · rw [if_neg e, if_neg e]
    exact ⟨rfl, co, wn, hR⟩
end HILL
