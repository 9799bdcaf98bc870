section SEEK
variable {T co wn : Nat} {V7 Vr Vn Va Vac Vs Vsl Vpt : OV} {VHa VHs : Nat → OV} {M : OV}
theorem RLN_KM {M' : OV} (h : RLN T co wn V7 Vr Vn Va Vac Vs Vsl VHa VHs M) (k : KM M M') : RLN T co wn V7 Vr Vn Va Vac Vs Vsl VHa VHs M' := by
  obtain ⟨k1, k2, k3⟩ := k
  unfold RLN TX CX SX LX AR at *
  rw [k1, k2, k3 0 (by omega), k3 1 (by omega), k3 15 (by omega), k3 18 (by omega), k3 19 (by omega), k3 25 (by omega)]
  exact h
/-- the trial hill but for the place of one -/
def HX (c : Nat) (H0 H : OV) (A : Nat → Int32) : Prop := oA H 1 (upd (H.1 1) c (A c)) = H0
theorem p_seekIn {p : Int32} {c : Nat} {H0 : OV} (hc : c < co) (h1 : co ≤ 6) (hn : HR T co (M.1 2) (M.1 3) Vn (M.1 5) 0) (hQ : QT T co wn Va H0 M) {z : Nat} (hz : z < 10) {V H M' : OV} (hP : PL V M') (hK : KM M M') (hX : HX c H0 H (M.1 5)) :
    d_X8_placing_L7 p (nI c) z M' ∧ PL (f_X3_seek_L5 Vn Va p c z (V, H)).1 (f_X8_placing_L7 p (nI c) z M') ∧ KM M (f_X8_placing_L7 p (nI c) z M') ∧ HX c H0 (f_X3_seek_L5 Vn Va p c z (V, H)).2 (M.1 5) := by
  have k1 := hK.1
  have e0 : M'.2.1 0 = nI co := by rw [hK.2.2 0 (by omega)]; exact hQ.2.1
  obtain ⟨d1, d2⟩ := p_cockOn (A := M') (x := nI z) e0 h1
  have ht := p_taken (H := Vn) hn.1 h1 hn.2.2.2.2.2.2.2.2.2.2.2.1 (j := z) (by omega)
  have hcell : ∀ k, k < co → Vn.1 1 k = M'.1 5 k := fun k hk => by rw [hn.2.1 k hk, Nat.zero_add, k1]
  have epar : (M'.1 5 (22 : Int32).toNatClampNeg >>> (nI c &&& 31)) &&& (1 : Int32) = f_X7_bit (Vn.2.1 6) (nI c) := by
    rw [k1, hn.2.2.2.2.2.2.1]; rfl
  unfold d_X8_placing_L7 f_X3_seek_L5 f_X8_placing_L7
  dsimp only [kAp]
  rw [epar, p_X7bit (f_X2_takenCells Vn) (by omega : z < 32), nI_clamp (by omega : c < 2 ^ 31)]
  by_cases q1 : f_X7_bit (Vn.2.1 6) (nI c) = p
  · rw [if_pos q1, if_pos q1]
    rcases d2 with ⟨e, q⟩ | ⟨e, j, hj, q⟩
    · have hb : ¬ bt (f_X2_takenCells Vn) z = true := fun w => by
        obtain ⟨j, hj, w⟩ := ht.mp w
        exact q j hj (by rw [← hcell j hj]; exact w)
      rw [if_neg hb, if_pos rfl, if_pos e, p_put _ _ (by omega) (by omega : c < 6)]
      -- the trial
      have hH : HR T co (M.1 2) (M.1 3) (oA H 1 (upd (H.1 1) c (nI z))) (upd (M.1 5) c (nI z)) 0 := by
        have := HR_cell h1 hQ.1 hc hz
        rw [← hX, oA_rd, oA_oA, upd_upd] at this
        exact this
      have hQ' : QT T co wn Va (oA H 1 (upd (H.1 1) c (nI z))) (oA M' 5 (upd (M'.1 5) c (nI z))) := by
        obtain ⟨-, b2, b3, b4, b5, b6⟩ := QT_KM hQ hK
        refine ⟨?_, b2, b3, b4, b5, b6⟩
        rw [oA_rd, k1]
        show HR T co (M'.1 2) (M'.1 3) _ _ 0
        rw [k1]
        exact hH
      have hP' : PL V (oA M' 5 (upd (M'.1 5) c (nI z))) := hP
      obtain ⟨t1, t2, t3⟩ := p_tryTrees hQ' hP' p (nI c) (nI z)
      refine ⟨fun _ => ⟨d1, fun _ => ⟨vp_in_nI (by omega) (by omega), vp_in_nI (by omega) (by omega), t1, vp_in_nI (by omega) (by omega)⟩⟩, ?_, ?_, ?_⟩
      · exact t2
      · refine ⟨?_, t3.2.1.trans hK.2.1, fun k hk => (t3.2.2 k hk).trans (hK.2.2 k hk)⟩
        show va_up (f_X8_tryTrees (oA M' 5 (upd (M'.1 5) c (nI z))) p (nI c) (nI z)).1 5 (upd ((f_X8_tryTrees (oA M' 5 (upd (M'.1 5) c (nI z))) p (nI c) (nI z)).1 5) c (M'.1 5 c)) = M.1
        rw [t3.1, oA_rd, upd_upd, upd_self]
        show va_up (va_up M'.1 5 _) 5 (M'.1 5) = M.1
        rw [← k1]
        have := oA_oA M' 5 (upd (M'.1 5) c (nI z)) (M'.1 5)
        rw [oA_self] at this
        exact congrArg Prod.fst this
      · show oA (oA H 1 (upd (H.1 1) c (nI z))) 1 (upd ((oA H 1 (upd (H.1 1) c (nI z))).1 1) c (M.1 5 c)) = H0
        rw [oA_rd, oA_oA, upd_upd]
        exact hX
    · have hb : bt (f_X2_takenCells Vn) z = true := ht.mpr ⟨j, hj, by rw [hcell j hj]; exact q⟩
      have e' : ¬ f_X8_isCockOn M' (nI z) = 0 := by rw [e]; decide
      rw [if_pos hb, if_neg (by decide : ¬ (1 : Int32) = 0), if_neg e']
      exact ⟨fun _ => ⟨d1, fun q => absurd q e'⟩, hP, hK, hX⟩
  · rw [if_neg q1, if_neg q1]
    exact ⟨fun q => absurd q q1, hP, hK, hX⟩
theorem p_seekRow {p : Int32} {c : Nat} {H0 : OV} (hc : c < co) (h1 : co ≤ 6) (hn : HR T co (M.1 2) (M.1 3) Vn (M.1 5) 0) (hQ : QT T co wn Va H0 M) {V M' : OV} (hP : PL V M') (hK : KM M M') :
    lpuD (f_X8_placing_L7 p (nI c)) (d_X8_placing_L7 p (nI c)) 10 0 M' ∧ PL (f_X3_seek_L3 Vn Va p c (V, H0)).1 (lpu (f_X8_placing_L7 p (nI c)) 10 0 M') ∧ KM M (lpu (f_X8_placing_L7 p (nI c)) 10 0 M') ∧ (f_X3_seek_L3 Vn Va p c (V, H0)).2 = H0 := by
  have ec : H0.1 1 c = M.1 5 c := by rw [hQ.1.2.1 c hc, Nat.zero_add]
  have X0 : HX c H0 H0 (M.1 5) := by
    unfold HX
    rw [← ec, upd_self, oA_self]
  have hsim := lpu_sim (b1 := f_X3_seek_L5 Vn Va p c) (b2 := f_X8_placing_L7 p (nI c)) (fun _ (s : OV × OV) (q : OV) => PL s.1 q ∧ KM M q ∧ HX c H0 s.2 (M.1 5)) 10 (V, H0) M' ⟨hP, hK, X0⟩ (fun j s q hj hI => by
    have := p_seekIn (p := p) hc h1 hn hQ hj hI.1 hI.2.1 hI.2.2
    exact this.2)
  refine ⟨?_, ?_⟩
  · exact lpuD_inv (fun _ (q : OV) => ∃ s : OV × OV, PL s.1 q ∧ KM M q ∧ HX c H0 s.2 (M.1 5)) 10 _ ⟨(V, H0), hP, hK, X0⟩ (fun j q hj ⟨s, hI⟩ => by
      have := p_seekIn (p := p) hc h1 hn hQ hj hI.1 hI.2.1 hI.2.2
      exact ⟨this.1, _, this.2⟩)
  · unfold f_X3_seek_L3
    dsimp only [kAp]
    rw [show cN (10 : Int32) = 10 from rfl, p_put _ _ (by omega) (by omega : c < 6), p_at1 _ (by omega) (by omega : c < 6), hn.2.1 c hc, Nat.zero_add]
    exact ⟨hsim.1, hsim.2.1, hsim.2.2⟩
theorem p_seekAll {p : Int32} {H0 : OV} (h1 : co ≤ 6) (hn : HR T co (M.1 2) (M.1 3) Vn (M.1 5) 0) (hQ : QT T co wn Va H0 M) : ∀ (k c n : Nat) (V M' : OV), c + k = co → k + 1 ≤ n → PL V M' → KM M M' →
    lpwD (f_X8_placing_L5 p) (d_X8_placing_L5 p) n (nI c, M') ∧ PL (lpu (f_X3_seek_L3 Vn Va p) k c (V, H0)).1 (lpw (f_X8_placing_L5 p) n (nI c, M')).2 ∧ KM M (lpw (f_X8_placing_L5 p) n (nI c, M')).2
  | _, _, 0, _, _, _, hk, _, _ => by omega
  | 0, c, n + 1, V, M', hc, _, hP, hK => by
    have e0 : M'.2.1 0 = nI co := by rw [hK.2.2 0 (by omega)]; exact hQ.2.1
    have hle : M'.2.1 0 ≤ nI c := by rw [e0]; exact nI_le (by omega) (by omega)
    have e : f_X8_placing_L5 p (nI c, M') = .inr (nI c, M') := by
      unfold f_X8_placing_L5
      dsimp only
      rw [if_pos hle]
    refine ⟨⟨fun q => absurd hle q, fun s' hs => ?_⟩, ?_⟩
    · rw [e] at hs; cases hs
    · rw [lpw_no e]; exact ⟨hP, hK⟩
  | k + 1, c, n + 1, V, M', hc, hk, hP, hK => by
    have e0 : M'.2.1 0 = nI co := by rw [hK.2.2 0 (by omega)]; exact hQ.2.1
    have hle : ¬ M'.2.1 0 ≤ nI c := by rw [e0]; exact nI_ge (by omega) (by omega)
    obtain ⟨r1, r2, r3, r4⟩ := p_seekRow (p := p) (c := c) (by omega) h1 hn hQ hP hK
    have e : f_X8_placing_L5 p (nI c, M') = .inl (nI (c + 1), lpu (f_X8_placing_L7 p (nI c)) 10 0 M') := by
      unfold f_X8_placing_L5
      dsimp only [kAp]
      rw [if_neg hle, nI_1, show cN (10 : Int32) = 10 from rfl]
    have ih := p_seekAll (p := p) h1 hn hQ k (c + 1) n _ _ (by omega) (by omega) r2 r3
    have es : f_X3_seek_L3 Vn Va p c (V, H0) = ((f_X3_seek_L3 Vn Va p c (V, H0)).1, H0) := Prod.ext rfl r4
    refine ⟨⟨fun _ => r1, fun s' hs => ?_⟩, ?_⟩
    · rw [e] at hs; cases hs; exact ih.1
    · rw [lpw_go e]
      show PL (lpu (f_X3_seek_L3 Vn Va p) k (c + 1) (f_X3_seek_L3 Vn Va p c (V, H0))).1 _ ∧ _
      rw [es]
      exact ih.2
theorem r_placing {Vp : OV} (h : RLN T co wn V7 Vr Vn Va Vac Vs Vsl VHa VHs M) (x y : Int32) : d_X8_placing M x y ∧ (f_X7_placing V7 Vp Vn Va Vpt x y).1 = (f_X8_placing M x y).1 ∧ RLN T co wn V7 Vr Vn Va Vac Vs Vsl VHa VHs (f_X8_placing M x y).2 := by
  have hh := h
  obtain ⟨h1, h2, h3, h4, h5, h6, h7, h8⟩ := h
  have z0 : (0 : Int32).toInt = 0 := rfl
  have z3 : (3 : Int32).toInt = 3 := rfl
  have y3 : (3 : Int64).toInt = ((3 : Nat) : Int) := rfl
  have e4 : ((3 : Nat) : Int) + 1 = 4 := rfl
  unfold d_X8_placing f_X7_placing f_X8_placing f_X3_seek
  dsimp only [kAp]
  rw [p_vx2, p_isPar, p_inK y 3 y3, e4]
  by_cases hx : 0 ≤ x.toInt ∧ x.toInt < 2
  · rw [if_pos hx]
    simp only [i10, if_false]
    by_cases hy : 0 ≤ y.toInt ∧ y.toInt < 4
    · rw [if_pos hy, if_neg (fun q => by rw [Int32.lt_iff_toInt_lt, z0] at q; omega : ¬ y < 0), if_pos (Int32.le_iff_toInt_le.mpr (by rw [z3]; omega) : y ≤ 3)]
      simp only [i10, if_false]
      have hc := HR_copy h1 h4 Vpt
      have hQ : QT T co wn Va (f_X2_copyFrom Vpt Vn) M := ⟨hc, h5, h6, h7, h1, h2⟩
      have k0 : KM M (oI M 21 (-1 : Int32)) := ⟨rfl, rfl, fun k hk => va_up_ne _ _ (by omega)⟩
      have hQ0 := QT_KM hQ k0
      obtain ⟨u, hu, eu⟩ := p_yrpos hQ0 x
      have hP0 : PL (f_X3_tryOne (oI Vp 1 (-1 : Int32)) (f_X8_yearOf (oI M 21 (-1 : Int32)) x) (-9 : Int32) (-9 : Int32) (-9 : Int32)) (mT (oI M 21 (-1 : Int32)) (f_X8_yearOf (oI M 21 (-1 : Int32)) x) (-9 : Int32) (-9 : Int32) (-9 : Int32)) := by
        rw [eu]
        exact mT_PL0 rfl rfl hu _ _ _
      obtain ⟨t1, t2, t3⟩ := p_tryTreesG hQ0 x (-9 : Int32) (-9 : Int32) hP0
      have K := KM_trans k0 t3
      have S := p_seekAll (p := x) h1 h4 hQ co 0 70 _ _ (by omega) (by omega) t2 K
      have en0 : nI 0 = (0 : Int32) := rfl
      rw [en0] at S
      rw [h4.1, cN_nI (by omega)]
      refine ⟨fun _ _ => ⟨t1, S.1⟩, ?_⟩
      obtain ⟨-, ⟨s1, s2, s3, s4⟩, S3⟩ := S
      have R := RLN_KM hh S3
      by_cases y0 : y = 0
      · rw [if_pos y0, if_pos y0]; exact ⟨s1, R⟩
      · rw [if_neg y0, if_neg y0]
        by_cases y1 : y = 1
        · rw [if_pos y1, if_pos y1]; exact ⟨s2, R⟩
        · rw [if_neg y1, if_neg y1]
          by_cases y2 : y = 2
          · rw [if_pos y2, if_pos y2]; exact ⟨s3, R⟩
          · rw [if_neg y2, if_neg y2]; exact ⟨s4, R⟩
    · rw [if_neg hy, if_pos rfl]
      refine ⟨fun _ q => absurd rfl q, ?_⟩
      by_cases hq : y < 0
      · rw [if_pos hq]; exact ⟨rfl, hh⟩
      · rw [if_neg hq, if_neg (fun q => by rw [Int32.le_iff_toInt_le, z3] at q; rw [Int32.lt_iff_toInt_lt, z0] at hq; omega : ¬ y ≤ 3)]; exact ⟨rfl, hh⟩
  · rw [if_neg hx, if_pos rfl, if_pos rfl]
    exact ⟨fun q => absurd rfl q, rfl, hh⟩
end SEEK
