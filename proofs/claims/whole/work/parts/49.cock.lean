theorem p_takenNew {co z : Nat} {H H' : OV} (h : H.2.1 5 = nI co) (h' : H'.2.1 5 = nI (co + 1)) (hco : co < 6) (e : H'.1 1 = upd (H.1 1) co (nI z)) : f_X2_takenCells H' = f_X2_takenCells H ||| ((1 : Int32) <<< (nI z &&& 31)) := by
  unfold f_X2_takenCells
  dsimp only [kAp]
  rw [h, h', cN_nI (by omega), cN_nI (by omega), lpu_snoc, Nat.zero_add]
  have e1 : lpu (f_X2_takenCells_L1 H') co 0 0 = lpu (f_X2_takenCells_L1 H) co 0 0 := lpu_eq co 0 (fun k s hk => by
    unfold f_X2_takenCells_L1
    rw [p_at1 _ (by omega) (by omega : k < 6), p_at1 _ (by omega) (by omega : k < 6), e, p_up, if_neg (by omega)])
  rw [e1]
  unfold f_X2_takenCells_L1
  rw [p_at1 _ (by omega) (by omega : co < 6), e, p_up, if_pos rfl]
theorem HR_add {co c : Nat} {hi we : Nat → Int32} {H : OV} {A : Nat → Int32} (hco : co < 6) (g : HR 0 co hi we H A 0) (hc : c < 10) (p h r w d : Int32) :
    HR 0 (co + 1) (upd hi co h) (upd we co w) (f_X2_addCock H (nI c) p h r w d) (upd (upd (upd (upd A co (nI c)) (6 + co) r) 22 (upd (upd A co (nI c)) (6 + co) r 22 ||| (p <<< (nI co &&& 31)))) 23 (upd (upd (upd A co (nI c)) (6 + co) r) 22 (upd (upd A co (nI c)) (6 + co) r 22 ||| (p <<< (nI co &&& 31))) 23 ||| (d <<< (nI co &&& 31)))) 0 ∧
    (f_X2_addCock H (nI c) p h r w d).1 1 = upd (H.1 1) co (nI c) ∧ (f_X2_addCock H (nI c) p h r w d).1 0 = H.1 0 := by
  obtain ⟨h1, h2, h3, h4, h5, h6, h7, h8, h9, h10, h11, h12, h13⟩ := g
  have eH : f_X2_addCock H (nI c) p h r w d = oI (oI (oI (oA (oA (oA (oA H 1 (upd (H.1 1) co (nI c))) 2 (upd (H.1 2) co h)) 3 (upd (H.1 3) co r)) 4 (upd (H.1 4) co w)) 5 (nI (co + 1))) 6 (H.2.1 6 ||| (p <<< (nI co &&& 31)))) 7 (H.2.1 7 ||| (d <<< (nI co &&& 31))) := by
    unfold f_X2_addCock
    dsimp only [kAp]
    rw [h1, p_put _ _ (by omega) hco, p_put _ _ (by omega) hco, p_put _ _ (by omega) hco, p_put _ _ (by omega) hco, nI_1]
  rw [eH]
  generalize hU : upd (upd (upd (upd A co (nI c)) (6 + co) r) 22 (upd (upd A co (nI c)) (6 + co) r 22 ||| (p <<< (nI co &&& 31)))) 23 (upd (upd (upd A co (nI c)) (6 + co) r) 22 (upd (upd A co (nI c)) (6 + co) r 22 ||| (p <<< (nI co &&& 31))) 23 ||| (d <<< (nI co &&& 31))) = U
  have uo : ∀ j, j ≠ co → j ≠ 6 + co → j ≠ 22 → j ≠ 23 → U j = A j := fun j a b c d => by
    rw [← hU, p_up, if_neg d, p_up, if_neg c, p_up, if_neg b, p_up, if_neg a]
  have uc : U co = nI c := by rw [← hU, p_up, if_neg (by omega), p_up, if_neg (by omega), p_up, if_neg (by omega), p_up, if_pos rfl]
  have ur : U (6 + co) = r := by rw [← hU, p_up, if_neg (by omega), p_up, if_neg (by omega), p_up, if_pos rfl]
  have u22 : U 22 = A 22 ||| (p <<< (nI co &&& 31)) := by
    rw [← hU, p_up, if_neg (by omega), p_up, if_pos rfl, p_up, if_neg (by omega), p_up, if_neg (by omega)]
  have u23 : U 23 = A 23 ||| (d <<< (nI co &&& 31)) := by
    rw [← hU, p_up, if_pos rfl, p_up, if_neg (by omega), p_up, if_neg (by omega), p_up, if_neg (by omega)]
  refine ⟨⟨rfl, fun k hk => ?_, fun k hk => ?_, fun k hk => ?_, fun k hk => ?_, fun k hk => ?_, ?_, ?_, ?_, ?_, ?_, fun k hk => ?_, h13⟩, rfl, rfl⟩
  · show upd (H.1 1) co (nI c) k = U (0 + k)
    rw [p_up, Nat.zero_add]
    by_cases e : k = co
    · subst e; rw [if_pos rfl, uc]
    · rw [if_neg e, uo k e (by omega) (by omega) (by omega), h2 k (by omega), Nat.zero_add]
  · show upd (H.1 2) co h k = upd hi co h k
    rw [p_up, p_up]
    by_cases e : k = co
    · rw [if_pos e, if_pos e]
    · rw [if_neg e, if_neg e]; exact h3 k (by omega)
  · show upd (H.1 3) co r k = U (0 + 6 + k)
    rw [p_up, Nat.zero_add]
    by_cases e : k = co
    · subst e; rw [if_pos rfl, ur]
    · rw [if_neg e, uo (6 + k) (by omega) (by omega) (by omega) (by omega), h4 k (by omega), Nat.zero_add]
  · show upd (H.1 4) co w k = upd we co w k
    rw [p_up, p_up]
    by_cases e : k = co
    · rw [if_pos e, if_pos e]
    · rw [if_neg e, if_neg e]; exact h5 k (by omega)
  · show H.1 0 k = U (0 + 12 + k)
    rw [uo _ (by omega) (by omega) (by omega) (by omega)]; exact h6 k hk
  · show H.2.1 6 ||| (p <<< (nI co &&& 31)) = U (0 + 22)
    rw [Nat.zero_add, u22, h7]
  · show H.2.1 7 ||| (d <<< (nI co &&& 31)) = U (0 + 23)
    rw [Nat.zero_add, u23, h8]
  · show H.2.1 8 = U (0 + 24)
    rw [uo _ (by omega) (by omega) (by omega) (by omega)]; exact h9
  · show H.2.1 9 = U (0 + 25)
    rw [uo _ (by omega) (by omega) (by omega) (by omega)]; exact h10
  · show H.2.1 10 = U (0 + 26)
    rw [uo _ (by omega) (by omega) (by omega) (by omega)]; exact h11
  · show ∃ z, z < 10 ∧ upd (H.1 1) co (nI c) k = nI z
    rw [p_up]
    by_cases e : k = co
    · rw [if_pos e]; exact ⟨c, hc, rfl⟩
    · rw [if_neg e]; exact h12 k (by omega)
theorem p_cockPart {ln pl : Nat} {Vr H A M : OV} (h : FX ln pl true Vr M) (hp : pl < ln) (hG : GR H A M) (hw : ¬ (6 : Int32) ≤ M.2.1 10) :
    d_X8_readCock (oI M 16 (M.2.1 16 + 1)) ∧ PT ln pl M (f_X4_readCock (oI Vr 4 (Vr.2.1 4 + 1)) H).1 (f_X4_readCock (oI Vr 4 (Vr.2.1 4 + 1)) H).2 A (f_X8_readCock (oI M 16 (M.2.1 16 + 1))) := by
  obtain ⟨co, wn, g1, g2, g3, g4, g5, g6, g7, g8, g9, g10⟩ := hG
  have hco : co < 6 := by
    rw [g4] at hw
    rcases Nat.lt_or_ge co 6 with q | q
    · exact q
    · exact absurd (nI_le (a := 6) q (by omega)) hw
  have h0 := FX_step h hp
  have k0 := KF_16 M (M.2.1 16 + 1)
  have e10 : (oI M 16 (M.2.1 16 + 1)).2.1 10 = nI co := g4
  have e13 : (oI M 16 (M.2.1 16 + 1)).2.1 13 = f_X2_takenCells H := g10
  unfold d_X8_readCock f_X8_readCock f_X4_readCock
  dsimp only [kAp]
  rw [e10, e13]
  generalize oI M 16 (M.2.1 16 + 1) = M0 at h0 k0 ⊢
  generalize oI Vr 4 (Vr.2.1 4 + 1) = V0 at h0 ⊢
  obtain ⟨d1, p1, o1, l1, i1, f1, c1, ⟨y1, hy1, r1⟩, s1⟩ := p_figureOf h0 ((1023 : Int32) &&& (f_X2_takenCells H ^^^ (-1 : Int32)))
  generalize f_X8_figureOf M0 ((1023 : Int32) &&& (f_X2_takenCells H ^^^ (-1 : Int32))) = R1 at d1 f1 c1 r1 s1 ⊢
  generalize f_X4_figure V0 ((1023 : Int32) &&& (f_X2_takenCells H ^^^ (-1 : Int32))) = Q1 at f1 s1 ⊢
  have ei : (nI co).toNatClampNeg = co := nI_clamp (by omega)
  have ei6 : ((6 : Int32) + nI co).toNatClampNeg = 6 + co := by
    show (nI 6 + nI co).toNatClampNeg = _
    rw [nI_add, nI_clamp (by omega)]
  have vi6 : vp_in ((6 : Int32) + nI co) 27 := by
    show vp_in (nI 6 + nI co) 27
    rw [nI_add]; exact vp_in_nI (by omega) (by omega)
  have e22 : (22 : Int32).toNatClampNeg = 22 := rfl
  have e23 : (23 : Int32).toNatClampNeg = 23 := rfl
  rw [ei, ei6, e22, e23]
  have k1 := KF_trans k0 c1
  have f1' : FX ln p1 o1 Q1.2 (oA R1.2 6 (upd (R1.2.1 6) co R1.1)) := f1
  generalize hA1 : oA R1.2 6 (upd (R1.2.1 6) co R1.1) = A1 at f1' ⊢
  obtain ⟨d2, p2, o2, l2, i2, f2, c2, ⟨y2, hy2, r2⟩, s2⟩ := p_f01 f1'
  generalize f_X8_figure A1 0 1 = R2 at d2 f2 c2 r2 s2 ⊢
  generalize f_X4_figure Q1.2 3 = Q2 at f2 s2 ⊢
  obtain ⟨d3, p3, o3, l3, i3, f3, c3, ⟨y3, hy3, r3⟩, s3⟩ := p_f03 f2
  generalize f_X8_figure R2.2 0 3 = R3 at d3 f3 c3 r3 s3 ⊢
  generalize f_X4_figure Q2.2 15 = Q3 at f3 s3 ⊢
  have f3' : FX ln p3 o3 Q3.2 (oA R3.2 7 (upd (R3.2.1 7) co R3.1)) := f3
  generalize hA3 : oA R3.2 7 (upd (R3.2.1 7) co R3.1) = A3 at f3' ⊢
  obtain ⟨d4, p4, o4, l4, i4, f4, c4, ⟨y4, hy4, r4⟩, s4⟩ := p_f04 f3'
  generalize f_X8_figure A3 0 4 = R4 at d4 f4 c4 r4 s4 ⊢
  generalize f_X4_figure Q3.2 31 = Q4 at f4 s4 ⊢
  have f4' : FX ln p4 o4 Q4.2 (oA R4.2 6 (upd (R4.2.1 6) (6 + co) R4.1)) := f4
  generalize hA4 : oA R4.2 6 (upd (R4.2.1 6) (6 + co) R4.1) = A4 at f4' ⊢
  obtain ⟨d5, p5, o5, l5, i5, f5, c5, ⟨y5, hy5, r5⟩, s5⟩ := p_f19 f4'
  generalize f_X8_figure A4 1 9 = R5 at d5 f5 c5 r5 s5 ⊢
  generalize f_X4_figure Q4.2 1022 = Q5 at f5 s5 ⊢
  have f5' : FX ln p5 o5 Q5.2 (oA R5.2 8 (upd (R5.2.1 8) co R5.1)) := f5
  generalize hA5 : oA R5.2 8 (upd (R5.2.1 8) co R5.1) = A5 at f5' ⊢
  obtain ⟨d6, p6, o6, l6, i6, f6, c6, ⟨y6, hy6, r6⟩, s6⟩ := p_f01 f5'
  generalize f_X8_figure A5 0 1 = R6 at d6 f6 c6 r6 s6 ⊢
  generalize f_X4_figure Q5.2 3 = Q6 at f6 s6 ⊢
  refine ⟨⟨d1, vp_in_nI (by omega) (by omega), d2, d3, vp_in_nI (by omega) (by omega), d4, vi6, d5, vp_in_nI (by omega) (by omega), d6, vp_in_nI (by omega) (by omega)⟩, ?_⟩
  -- the numbers
  have I : ∀ k, k ≠ 16 → k ≠ 17 → R6.2.2.1 k = M.2.1 k := fun k a b => by
    rw [c6.2.2 k a b, ← hA5]
    show R5.2.2.1 k = _
    rw [c5.2.2 k a b, ← hA4]
    show R4.2.2.1 k = _
    rw [c4.2.2 k a b, ← hA3]
    show R3.2.2.1 k = _
    rw [c3.2.2 k a b, c2.2.2 k a b, ← hA1]
    exact k1.2.2 k a b
  have K1 : KP M A1 := by rw [← hA1]; exact KP_trans (KP_KF k1) (KP_A _ (by omega) _)
  have K3 : KP M A3 := by rw [← hA3]; exact KP_trans (KP_trans (KP_trans K1 (KP_KF c2)) (KP_KF c3)) (KP_A _ (by omega) _)
  have K4 : KP M A4 := by rw [← hA4]; exact KP_trans (KP_trans K3 (KP_KF c4)) (KP_A _ (by omega) _)
  have K5 : KP M A5 := by rw [← hA5]; exact KP_trans (KP_trans K4 (KP_KF c5)) (KP_A _ (by omega) _)
  have K6 : KP M R6.2 := KP_trans K5 (KP_KF c6)
  have ok5 := FX_5 f6
  refine ⟨p6, o6, by omega, ?_, KP_trans (KP_trans (KP_trans K6 (KP_A _ (k := 6) (by omega) _)) (KP_I _ (k := 10) (by omega) _)) (KP_I _ (k := 13) (by omega) _), fun ho => ?_⟩
  · split
    · exact f6
    · exact f6
  · rw [if_pos (ok5.1.mp ho)]
    have ho5 := i6 ho
    have ho4 := i5 ho5
    have ho3 := i4 ho4
    have ho2 := i3 ho3
    have ho1 := i2 ho2
    obtain ⟨z1, hz1, q1, a1, b1⟩ := s1 ho1
    obtain ⟨z2, hz2, q2, a2, b2⟩ := s2 ho2
    obtain ⟨z3, hz3, q3, a3, b3⟩ := s3 ho3
    obtain ⟨z4, hz4, q4, a4, b4⟩ := s4 ho4
    obtain ⟨z5, hz5, q5, a5, b5⟩ := s5 ho5
    obtain ⟨z6, hz6, q6, a6, b6⟩ := s6 ho
    rw [a1, a2, a3, a4, a5, a6, b2, b6]
    have A1e : ∀ k, A1.1 k = if k = 6 then upd (M.1 6) co (nI z1) else M.1 k := fun k => by
      rw [← hA1, b1]
      show va_up R1.2.1 6 (upd (R1.2.1 6) co (nI z1)) k = _
      rw [k1.1]
      by_cases e : k = 6
      · subst e; rw [if_pos rfl]; exact va_up_self _ _ _
      · rw [if_neg e, va_up_ne _ _ e]
    have A3e : ∀ k, A3.1 k = if k = 7 then upd (M.1 7) co (nI z3) else A1.1 k := fun k => by
      rw [← hA3, b3]
      show va_up R3.2.1 7 (upd (R3.2.1 7) co (nI z3)) k = _
      rw [c3.1, c2.1]
      by_cases e : k = 7
      · subst e; rw [if_pos rfl, A1e 7, if_neg (by omega)]; exact va_up_self _ _ _
      · rw [if_neg e, va_up_ne _ _ e]
    have A4e : ∀ k, A4.1 k = if k = 6 then upd (upd (M.1 6) co (nI z1)) (6 + co) (nI z4) else A3.1 k := fun k => by
      rw [← hA4, b4]
      show va_up R4.2.1 6 (upd (R4.2.1 6) (6 + co) (nI z4)) k = _
      rw [c4.1]
      by_cases e : k = 6
      · subst e; rw [if_pos rfl, A3e 6, if_neg (by omega), A1e 6, if_pos rfl]; exact va_up_self _ _ _
      · rw [if_neg e, va_up_ne _ _ e]
    have A5e : ∀ k, A5.1 k = if k = 8 then upd (M.1 8) co (nI z5) else A4.1 k := fun k => by
      rw [← hA5, b5]
      show va_up R5.2.1 8 (upd (R5.2.1 8) co (nI z5)) k = _
      rw [c5.1]
      by_cases e : k = 8
      · subst e; rw [if_pos rfl, A4e 8, if_neg (by omega), A3e 8, if_neg (by omega), A1e 8, if_neg (by omega)]; exact va_up_self _ _ _
      · rw [if_neg e, va_up_ne _ _ e]
    have R66 : R6.2.1 6 = upd (upd (M.1 6) co (nI z1)) (6 + co) (nI z4) := by rw [c6.1, A5e 6, if_neg (by omega), A4e 6, if_pos rfl]
    have R67 : R6.2.1 7 = upd (M.1 7) co (nI z3) := by rw [c6.1, A5e 7, if_neg (by omega), A4e 7, if_neg (by omega), A3e 7, if_pos rfl]
    have R68 : R6.2.1 8 = upd (M.1 8) co (nI z5) := by rw [c6.1, A5e 8, if_pos rfl]
    have R69 : R6.2.1 9 = M.1 9 := by rw [c6.1, A5e 9, if_neg (by omega), A4e 9, if_neg (by omega), A3e 9, if_neg (by omega), A1e 9, if_neg (by omega)]
    rw [R66]
    have HA := HR_add hco g3 hz1 (nI z2) (nI z3) (nI z4) (nI z5) (nI z6)
    obtain ⟨ha1, ha2, ha3⟩ := HA
    have cc : upd (upd (upd (upd (M.1 6) co (nI z1)) (6 + co) (nI z4)) 22 (upd (upd (M.1 6) co (nI z1)) (6 + co) (nI z4) 22 ||| (nI z2 <<< (nI co &&& 31)))) 23 (upd (upd (upd (M.1 6) co (nI z1)) (6 + co) (nI z4)) 22 (upd (upd (M.1 6) co (nI z1)) (6 + co) (nI z4) 22 ||| (nI z2 <<< (nI co &&& 31))) 23 ||| (nI z6 <<< (nI co &&& 31))) co = nI z1 := by
      rw [p_up, if_neg (by omega), p_up, if_neg (by omega), p_up, if_neg (by omega), p_up, if_pos rfl]
    rw [cc]
    generalize upd (upd (upd (upd (M.1 6) co (nI z1)) (6 + co) (nI z4)) 22 (upd (upd (M.1 6) co (nI z1)) (6 + co) (nI z4) 22 ||| (nI z2 <<< (nI co &&& 31)))) 23 (upd (upd (upd (M.1 6) co (nI z1)) (6 + co) (nI z4)) 22 (upd (upd (M.1 6) co (nI z1)) (6 + co) (nI z4) 22 ||| (nI z2 <<< (nI co &&& 31))) 23 ||| (nI z6 <<< (nI co &&& 31))) = U at ha1 ⊢
    have e6 : ∀ W : Nat → Int32, va_up R6.2.1 6 W 6 = W := fun W => va_up_self _ _ _
    have N6 : (oI (oI (oA R6.2 6 U) 10 (R6.2.2.1 10 + 1)) 13 (R6.2.2.1 13 ||| ((1 : Int32) <<< (nI z1 &&& 31)))).1 6 = U := e6 U
    have N : ∀ k, k ≠ 6 → (oI (oI (oA R6.2 6 U) 10 (R6.2.2.1 10 + 1)) 13 (R6.2.2.1 13 ||| ((1 : Int32) <<< (nI z1 &&& 31)))).1 k = R6.2.1 k := fun k hk => va_up_ne _ _ hk
    have NI : ∀ k, k ≠ 10 → k ≠ 13 → k ≠ 16 → k ≠ 17 → (oI (oI (oA R6.2 6 U) 10 (R6.2.2.1 10 + 1)) 13 (R6.2.2.1 13 ||| ((1 : Int32) <<< (nI z1 &&& 31)))).2.1 k = M.2.1 k := fun k h1 h2 h3 h4 => by
      show va_up (va_up R6.2.2.1 10 _) 13 _ k = _
      rw [va_up_ne _ _ h2, va_up_ne _ _ h1]
      exact I k h3 h4
    refine ⟨co + 1, wn, by omega, g2, ?_, ?_, ?_, g6, ?_, fun w hw' => ?_, ?_, ?_⟩
    · rw [N 7 (by omega), N 8 (by omega), N6, R67, R68]; exact ha1
    · show R6.2.2.1 10 + 1 = _
      rw [I 10 (by omega) (by omega), g4, nI_1]
    · rw [N 7 (by omega), R67]
      intro k hk
      rw [p_up]
      by_cases e : k = co
      · rw [if_pos e, nI_toInt (by omega)]; omega
      · rw [if_neg e]; exact g5 k (by omega)
    · rw [NI 11 (by omega) (by omega) (by omega) (by omega)]; exact g7
    · rw [N 9 (by omega), R69]; exact g8 w hw'
    · rw [NI 12 (by omega) (by omega) (by omega) (by omega), g9]
      unfold f_X2_treeCells
      dsimp only [kAp]
      refine lpu_eq _ _ (fun j s hj => ?_)
      unfold f_X2_treeCells_L1
      rw [ha3]
    · show R6.2.2.1 13 ||| _ = _
      rw [I 13 (by omega) (by omega), g10]
      exact (p_takenNew g3.1 ha1.1 hco ha2).symm
