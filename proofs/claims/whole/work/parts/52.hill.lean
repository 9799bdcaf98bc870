section HILL
variable {T co wn : Nat} {V7 Vr Vn Va Vac Vs Vsl Vg Vga : OV} {VHa VHs : Nat → OV} {M : OV}
theorem RLN_KP {Vr' M' : OV} (h : RLN T co wn V7 Vr Vn Va Vac Vs Vsl VHa VHs M) (k : KP M M') (t : TX Vr' M') : RLN T co wn V7 Vr' Vn Va Vac Vs Vsl VHa VHs M' := by
  obtain ⟨h1, h2, h3, h4⟩ := h
  obtain ⟨k1, k2, k3⟩ := k
  refine ⟨h1, h2, t, ?_⟩
  unfold CX SX LX AR at *
  rw [k1 2 (by omega) (by omega) (by omega) (by omega), k1 3 (by omega) (by omega) (by omega) (by omega), k1 4 (by omega) (by omega) (by omega) (by omega), k1 5 (by omega) (by omega) (by omega) (by omega), k1 20 (by omega) (by omega) (by omega) (by omega), k1 26 (by omega) (by omega) (by omega) (by omega), k1 27 (by omega) (by omega) (by omega) (by omega), k1 29 (by omega) (by omega) (by omega) (by omega), k1 30 (by omega) (by omega) (by omega) (by omega), k2, k3 0 (by omega), k3 1 (by omega), k3 18 (by omega), k3 19 (by omega), k3 25 (by omega)]
  exact h4
theorem r_fault (h : RLN T co wn V7 Vr Vn Va Vac Vs Vsl VHa VHs M) : d_X8_fault M ∧ (f_X7_fault V7 Vr Vg Vga).1 = (f_X8_fault M).1 ∧ RLN T co wn V7 (f_X7_fault V7 Vr Vg Vga).2.1 Vn Va Vac Vs Vsl VHa VHs (f_X8_fault M).2 := by
  obtain ⟨t1, t2, t3, t4, t5⟩ := p_text (H := Vg) (A := Vga) h.2.2.1
  exact ⟨t1, t2, RLN_KP h t4 t3⟩
theorem p_h4 (M : OV) : ∀ n, n ≤ 6 → lpu f_X8_hill_L4 n 0 M = oA (oA M 2 (fun j => if j < n then M.1 7 j else M.1 2 j)) 3 (fun j => if j < n then M.1 8 j else M.1 3 j) := by
  intro n hn
  refine lpu_inv (fun i s => s = oA (oA M 2 (fun j => if j < i then M.1 7 j else M.1 2 j)) 3 (fun j => if j < i then M.1 8 j else M.1 3 j)) n M ?_ (fun i s hi hI => ?_)
  · have e : oA (oA M 2 (M.1 2)) 3 (M.1 3) = M := by rw [oA_self, oA_self]
    exact e.symm
  · subst hI
    unfold f_X8_hill_L4
    rw [nI_clamp (by omega)]
    refine Prod.ext (funext fun k => ?_) rfl
    show va_up (va_up (va_up (va_up M.1 2 _) 3 _) 2 (upd (fun j => if j < i then M.1 7 j else M.1 2 j) i (M.1 7 i))) 3 (upd (fun j => if j < i then M.1 8 j else M.1 3 j) i (M.1 8 i)) k = va_up (va_up M.1 2 (fun j => if j < i + 1 then M.1 7 j else M.1 2 j)) 3 (fun j => if j < i + 1 then M.1 8 j else M.1 3 j) k
    have eu : ∀ f g : Nat → Int32, upd (fun j => if j < i then f j else g j) i (f i) = fun j => if j < i + 1 then f j else g j := fun f g => funext fun j => by
      rw [p_up]
      by_cases e : j = i
      · subst e; rw [if_pos rfl, if_pos (by omega)]
      · rw [if_neg e]
        show (if j < i then f j else g j) = _
        by_cases e2 : j < i
        · rw [if_pos e2, if_pos (by omega)]
        · rw [if_neg e2, if_neg (by omega)]
    rw [eu (M.1 7) (M.1 2), eu (M.1 8) (M.1 3)]
    unfold va_up
    by_cases e3 : k = 3
    · simp [e3]
    · by_cases e2 : k = 2
      · simp [e2]
      · simp [e3, e2]
theorem p_airCopy {wn : Nat} {A V M : OV} (hwn : wn ≤ 4) (h3 : A.2.1 3 = nI wn) {W : Nat → Int32} (g8 : ∀ w, w < wn → A.1 0 w = W (3 * w) ∧ A.1 1 w = W (3 * w + 1) ∧ A.1 2 w = W (3 * w + 2) ∧ ∃ d, 1 ≤ d ∧ d < 10 ∧ W (3 * w + 2) = nI d) (hM : M.2.1 1 = nI wn) (h4 : ∀ j, j < 12 → M.1 4 j = W j) : AR wn (f_X1_copyFrom V A) M := by
  have e : f_X1_copyFrom V A = oI (oA (oA (oA V 0 (fun j => if j < 4 then A.1 0 j else V.1 0 j)) 1 (fun j => if j < 4 then A.1 1 j else V.1 1 j)) 2 (fun j => if j < 4 then A.1 2 j else V.1 2 j)) 3 (A.2.1 3) := by
    unfold f_X1_copyFrom
    dsimp only [kAp]
    rw [p_copy (by omega), p_copy (by omega), p_copy (by omega)]
  rw [e]
  refine ⟨h3, hM, fun w hw => ?_, fun w hw => ?_, fun w hw => ?_, fun w hw => ?_⟩
  · show (if w < 4 then A.1 0 w else V.1 0 w) = _
    rw [if_pos (by omega), h4 _ (by omega)]; exact (g8 w hw).1
  · show (if w < 4 then A.1 1 w else V.1 1 w) = _
    rw [if_pos (by omega), h4 _ (by omega)]; exact (g8 w hw).2.1
  · show (if w < 4 then A.1 2 w else V.1 2 w) = _
    rw [if_pos (by omega), h4 _ (by omega)]; exact (g8 w hw).2.2.1
  · rw [h4 _ (by omega)]; exact (g8 w hw).2.2.2
theorem r_hill (h : RLN T co wn V7 Vr Vn Va Vac Vs Vsl VHa VHs M) : d_X8_hill M ∧ (f_X7_hill V7 Vr Vg Vga Vn Va Vac VHa Vsl VHs).1 = (f_X8_hill M).1 ∧
    ∃ co' wn', RLN T co' wn' V7 (f_X7_hill V7 Vr Vg Vga Vn Va Vac VHa Vsl VHs).2.1 (f_X7_hill V7 Vr Vg Vga Vn Va Vac VHa Vsl VHs).2.2.2.2.1 (f_X7_hill V7 Vr Vg Vga Vn Va Vac VHa Vsl VHs).2.2.2.2.2.1 (f_X7_hill V7 Vr Vg Vga Vn Va Vac VHa Vsl VHs).2.2.2.2.2.2.1 Vs (f_X7_hill V7 Vr Vg Vga Vn Va Vac VHa Vsl VHs).2.2.2.2.2.2.2 VHa VHs (f_X8_hill M).2 := by
  obtain ⟨t1, t2, t3, t4, t5⟩ := p_text (H := Vg) (A := Vga) h.2.2.1
  refine ⟨t1, ?_⟩
  have hR := RLN_KP h t4 t3
  unfold f_X7_hill f_X8_hill
  dsimp only [kAp]
  rw [t2]
  generalize f_X8_readText M = R at t2 t3 t4 t5 hR ⊢
  generalize f_X4_firstFault Vr Vg Vga = Q at t2 t3 t5 hR ⊢
  by_cases e : R.1 = -9
  · rw [if_pos e, if_pos e]
    obtain ⟨c, w, g1, g2, g3, g4, g5, g6, g7, g8, g9, g10⟩ := t5 e
    obtain ⟨-, -, q3, -, -, -, -, ⟨ac, ol, nx, c1, c2, c3, c4, c5, c6, c7, c8⟩, q9, -, q11⟩ := hR
    have n6 : cN (6 : Int32) = 6 := rfl
    have n12 : cN (12 : Int32) = 12 := rfl
    have n27 : cN (27 : Int32) = 27 := rfl
    rw [n6, n12, n27, p_h4 _ 6 (Nat.le_refl _), g4, g7]
    generalize hB : oA (oA (oI (oI R.2 0 (nI c)) 1 (nI w)) 2 (fun j => if j < 6 then (oI (oI R.2 0 (nI c)) 1 (nI w)).1 7 j else (oI (oI R.2 0 (nI c)) 1 (nI w)).1 2 j)) 3 (fun j => if j < 6 then (oI (oI R.2 0 (nI c)) 1 (nI w)).1 8 j else (oI (oI R.2 0 (nI c)) 1 (nI w)).1 3 j) = B
    have l7 : lpu f_X8_hill_L7 12 0 B = oA B 4 (va_cpy (R.2.1 9) (B.1 4) 0 0 12) := by
      refine p_cpy (dst := 0) (sp := 0) (src := R.2.1 9) _ (fun i f hi _ => ?_)
      unfold f_X8_hill_L7
      have e9 : (oA B 4 f).1 9 = R.2.1 9 := by rw [← hB]; rfl
      rw [oA_rd, oA_oA, nI_clamp (by omega), e9, Nat.zero_add]
    rw [l7]
    have l10 : lpu f_X8_hill_L10 27 0 (oA B 4 (va_cpy (R.2.1 9) (B.1 4) 0 0 12)) = oA (oA B 4 (va_cpy (R.2.1 9) (B.1 4) 0 0 12)) 5 (va_cpy (R.2.1 6) (B.1 5) 0 0 27) := by
      refine p_cpy (dst := 0) (sp := 0) (src := R.2.1 6) _ (fun i f hi _ => ?_)
      unfold f_X8_hill_L10
      have e6 : (oA (oA B 4 (va_cpy (R.2.1 9) (B.1 4) 0 0 12)) 5 f).1 6 = R.2.1 6 := by rw [← hB]; rfl
      rw [oA_rd, oA_oA, nI_clamp (by omega), e6, Nat.zero_add]
    rw [l10]
    have hc := HR_copy g1 (HR_mono (Nat.zero_le T) g3) Vn
    have b0 : B.2.1 0 = nI c := by rw [← hB]; rfl
    have b1 : B.2.1 1 = nI w := by rw [← hB]; rfl
    have b2 : ∀ k, k < 6 → B.1 2 k = R.2.1 7 k := fun k hk => by
      rw [← hB]
      show (if k < 6 then R.2.1 7 k else R.2.1 2 k) = _
      rw [if_pos hk]
    have b3 : ∀ k, k < 6 → B.1 3 k = R.2.1 8 k := fun k hk => by
      rw [← hB]
      show (if k < 6 then R.2.1 8 k else R.2.1 3 k) = _
      rw [if_pos hk]
    have hn : HR T c (B.1 2) (B.1 3) (f_X2_copyFrom Vn Q.2.2.1) (va_cpy (R.2.1 6) (B.1 5) 0 0 27) 0 := by
      have hb := HR_block (A' := va_cpy (R.2.1 6) (B.1 5) 0 0 27) (b' := 0) g1 hc (fun j hj => va_cpy_in (dp := 0) hj)
      obtain ⟨x1, x2, x3, x4, x5, x6⟩ := hb
      exact ⟨x1, x2, fun k hk => by rw [b2 k (by omega)]; exact x3 k hk, x4, fun k hk => by rw [b3 k (by omega)]; exact x5 k hk, x6⟩
    have eA : (f_X1_copyFrom Va Q.2.2.2).2.1 3 = nI w := g6
    have vn : vp_nar .boolean (0 : Int32) = 0 := rfl
    refine ⟨?_, c, w, ?_⟩
    · show (10 : Int32) * (f_X2_copyFrom Vn Q.2.2.1).2.1 5 + (f_X1_copyFrom Va Q.2.2.2).2.1 3 = (10 : Int32) * B.2.1 0 + B.2.1 1
      rw [hn.1, eA, b0, b1]
    · refine ⟨g1, g2, ?_, hn, b0, fun k hk => ?_, ?_, ?_, ?_, ?_, ?_⟩
      · obtain ⟨ln, t1, t2, t3, t4⟩ := q3
        refine ⟨ln, t1, t2, ?_, fun j hj => ?_⟩
        · rw [← t3, ← hB]; rfl
        · rw [t4 j hj, ← hB]; rfl
      · show 0 ≤ (B.1 2 k).toInt
        rw [b2 k (by omega)]; exact g5 k hk
      · refine p_airCopy g2 g6 g8 b1 (fun j hj => ?_)
        show va_cpy (R.2.1 9) (B.1 4) 0 0 12 j = _
        have := va_cpy_in (f := R.2.1 9) (g := B.1 4) (sp := 0) (dp := 0) (n := 12) hj
        rw [Nat.zero_add] at this
        exact this
      · refine ⟨0, ol, nx, by omega, c2, c3, c4, rfl, rfl, ?_, fun i hi => by omega⟩
        rw [← c7, ← hB]; rfl
      · obtain ⟨sn, s1, s2, s3, s4⟩ := q9
        refine ⟨sn, s1, s2, ?_, fun i hi => ?_⟩
        · rw [← s3, ← hB]; rfl
        · have := s4 i hi
          rw [← hB]
          exact this
      · intro i hi
        have eb : ∀ j, bt 0 j = false := b_0
        refine ⟨⟨fun q => ?_, fun q => ?_⟩, fun q => ?_⟩
        · have q : bt (0 : Int32) i = true := q
          rw [eb] at q; cases q
        · exfalso
          apply q
          show upd (upd (B.1 29) 0 (vp_nar .boolean (0 : Int32))) 1 (vp_nar .boolean (0 : Int32)) i = 0
          rw [vn, p_up, p_up]
          by_cases e1 : i = 1
          · rw [if_pos e1]
          · rw [if_neg e1, if_pos (by omega)]
        · have q : bt (0 : Int32) i = true := q
          rw [eb] at q; cases q
      · rw [q11, ← hB]; rfl
  · rw [if_neg e, if_neg e]
    exact ⟨rfl, co, wn, hR⟩
end HILL
