theorem p_treeBits {H : OV} {j : Nat} (hj : j < 32) : bt (f_X2_treeCells H) j = true ↔ j < 10 ∧ ¬ H.1 0 j ≤ 0 := by
  unfold f_X2_treeCells
  dsimp only [kAp]
  rw [show cN (nI 10) = 10 from rfl]
  refine lpu_inv (fun i s => ∀ j, j < 32 → (bt s j = true ↔ j < i ∧ ¬ H.1 0 j ≤ 0)) 10 0 (fun j _ => ?_) (fun i s hi hI j hj => ?_) j hj
  · rw [b_0]
    exact ⟨fun q => (by cases q), fun q => absurd q.1 (by omega)⟩
  · unfold f_X2_treeCells_L1
    rw [nI_clamp (by omega : i < 2 ^ 31)]
    by_cases e : H.1 0 i ≤ 0
    · rw [if_pos e, hI j hj]
      exact ⟨fun q => ⟨by omega, q.2⟩, fun q => ⟨by
        rcases Nat.lt_or_ge j i with w | w
        · exact w
        · have : j = i := by omega
          subst this; exact absurd e q.2, q.2⟩⟩
    · rw [if_neg e, b_or, p_sh (by omega) hj, Bool.or_eq_true, hI j hj, decide_eq_true_iff]
      constructor
      · rintro (q | q)
        · exact ⟨by omega, q.2⟩
        · subst q; exact ⟨by omega, e⟩
      · intro q
        by_cases w : j = i
        · exact Or.inr w
        · exact Or.inl ⟨by omega, q.2⟩
theorem b_1023 : ∀ i, i < 32 → bt 1023 i = decide (i < 10) := by decide +kernel
theorem p_full {H : OV} : ((1023 : Int32) &&& (f_X2_treeCells H ^^^ (-1 : Int32))) = 0 ↔ f_X2_treeCells H = 1023 := by
  constructor
  · intro h
    refine b_ext fun i hi => ?_
    have h2 : bt ((1023 : Int32) &&& (f_X2_treeCells H ^^^ (-1 : Int32))) i = bt 0 i := by rw [h]
    rw [b_and, p_nt hi, b_1023 i hi, b_0] at h2
    rw [b_1023 i hi]
    by_cases q : i < 10
    · rw [decide_eq_true q] at h2 ⊢
      cases e : bt (f_X2_treeCells H) i
      · rw [e] at h2; cases h2
      · rfl
    · rw [decide_eq_false q]
      cases e : bt (f_X2_treeCells H) i
      · rfl
      · exact absurd ((p_treeBits hi).mp e).1 q
  · intro h
    rw [h]
    decide
theorem p_treeNew {H : OV} {z : Nat} (hz : z < 10) {x : Int32} (hx : ¬ x ≤ 0) : f_X2_treeCells (oA H 0 (upd (H.1 0) z x)) = f_X2_treeCells H ||| ((1 : Int32) <<< (nI z &&& 31)) := by
  refine b_ext fun i hi => ?_
  rw [bt_1 (by omega) hi]
  have e1 := p_treeBits (H := oA H 0 (upd (H.1 0) z x)) hi
  have e2 := p_treeBits (H := H) hi
  rw [oA_rd, p_up] at e1
  by_cases q : i = z
  · subst q
    rw [if_pos rfl] at e1
    rw [e1.mpr ⟨hz, hx⟩, decide_eq_true rfl, Bool.or_true]
  · rw [if_neg q] at e1
    rw [decide_eq_false q, Bool.or_false]
    cases e : bt (f_X2_treeCells H) i
    · cases e' : bt (f_X2_treeCells (oA H 0 (upd (H.1 0) z x))) i
      · rfl
      · rw [e2.mpr (e1.mp e')] at e; cases e
    · exact e1.mpr (e2.mp e)
theorem p_treePart {ln pl : Nat} {Vr H A M : OV} (h : FX ln pl true Vr M) (hp : pl < ln) (hG : GR H A M) :
    dTree M ∧ PT ln pl M (f_X4_readTree (oI Vr 4 (Vr.2.1 4 + 1)) H ((1023 : Int32) &&& (f_X2_treeCells H ^^^ (-1 : Int32)))).1 (f_X4_readTree (oI Vr 4 (Vr.2.1 4 + 1)) H ((1023 : Int32) &&& (f_X2_treeCells H ^^^ (-1 : Int32)))).2 A (mTree M) := by
  obtain ⟨co, wn, g1, g2, g3, g4, g5, g6, g7, g8, g9, g10⟩ := hG
  have h0 := FX_step h hp
  have k0 := KF_16 M (M.2.1 16 + 1)
  unfold dTree mTree f_X4_readTree
  dsimp only [kAp]
  rw [g9]
  obtain ⟨d1, p1, o1, l1, i1, f1, c1, ⟨y1, hy1, r1⟩, s1⟩ := p_figureOf h0 ((1023 : Int32) &&& (f_X2_treeCells H ^^^ (-1 : Int32)))
  generalize f_X8_figureOf (oI M 16 (M.2.1 16 + 1)) ((1023 : Int32) &&& (f_X2_treeCells H ^^^ (-1 : Int32))) = R1 at d1 f1 c1 r1 s1 ⊢
  generalize f_X4_figure (oI Vr 4 (Vr.2.1 4 + 1)) ((1023 : Int32) &&& (f_X2_treeCells H ^^^ (-1 : Int32))) = Q1 at f1 s1 ⊢
  have k1 := KF_trans k0 c1
  obtain ⟨d2, p2, o2, l2, i2, f2, c2, ⟨y2, hy2, r2⟩, s2⟩ := p_f13 f1
  generalize f_X8_figure R1.2 1 3 = R2 at d2 f2 c2 r2 s2 ⊢
  generalize f_X4_figure Q1.2 14 = Q2 at f2 s2 ⊢
  have k2 := KF_trans k1 c2
  have e12 : ((12 : Int32) + nI y1).toNatClampNeg = 12 + y1 := by
    show (nI 12 + nI y1).toNatClampNeg = _
    rw [nI_add, nI_clamp (by omega)]
  have v12 : vp_in ((12 : Int32) + nI y1) 27 := by
    show vp_in (nI 12 + nI y1) 27
    rw [nI_add]; exact vp_in_nI (by omega) (by omega)
  rw [r1, e12]
  refine ⟨⟨d1, d2, fun _ => v12, v12⟩, ?_⟩
  have ok5 := FX_5 f2
  by_cases ho : o2 = true
  · rw [if_pos (ok5.2.mp ho), if_pos (ok5.2.mp ho), if_pos (ok5.1.mp ho)]
    have ho1 := i2 ho
    obtain ⟨z1, hz1, q1, a1, b1⟩ := s1 ho1
    obtain ⟨z2, hz2, q2, a2, b2⟩ := s2 ho
    have ey : y1 = z1 := (nI_eq (by omega) (by omega)).mp (r1.symm.trans b1)
    subst ey
    refine ⟨p2, o2, by omega, ?_, KP_trans (KP_trans (KP_KF k2) (KP_A _ (by omega) _)) (KP_I _ (by omega) _), fun _ => ?_⟩
    · exact f2
    · rw [a1, a2, b2, p_put _ _ (by omega) hz1]
      have N : ∀ k, k ≠ 6 → (oI (oA R2.2 6 (upd (R2.2.1 6) (12 + y1) (nI z2))) 12 (R2.2.2.1 12 ||| ((1 : Int32) <<< (nI y1 &&& 31)))).1 k = M.1 k := fun k hk => by
        show va_up R2.2.1 6 _ k = _
        rw [va_up_ne _ _ hk, k2.1]
      have e6 : ∀ U : Nat → Int32, va_up R2.2.1 6 U 6 = U := fun U => va_up_self _ _ _
      have N6 : (oI (oA R2.2 6 (upd (R2.2.1 6) (12 + y1) (nI z2))) 12 (R2.2.2.1 12 ||| ((1 : Int32) <<< (nI y1 &&& 31)))).1 6 = upd (M.1 6) (12 + y1) (nI z2) := by
        have e8 : upd (R2.2.1 6) (12 + y1) (nI z2) = upd (M.1 6) (12 + y1) (nI z2) := by rw [k2.1]
        exact (e6 _).trans e8
      have NI : ∀ k, k ≠ 12 → k ≠ 16 → k ≠ 17 → (oI (oA R2.2 6 (upd (R2.2.1 6) (12 + y1) (nI z2))) 12 (R2.2.2.1 12 ||| ((1 : Int32) <<< (nI y1 &&& 31)))).2.1 k = M.2.1 k := fun k h1 h2 h3 => by
        show va_up R2.2.2.1 12 _ k = _
        rw [va_up_ne _ _ h1]
        exact k2.2.2 k h2 h3
      refine ⟨co, wn, g1, g2, ?_, ?_, ?_, g6, ?_, fun w hw' => ?_, ?_, ?_⟩
      · rw [N 7 (by omega), N 8 (by omega), N6]; exact HR_tree g1 g3 hz1 _
      · rw [NI 10 (by omega) (by omega) (by omega)]; exact g4
      · rw [N 7 (by omega)]; exact g5
      · rw [NI 11 (by omega) (by omega) (by omega)]; exact g7
      · rw [N 9 (by omega)]; exact g8 w hw'
      · rw [p_treeNew hz1 (nI_nle (by omega) (by omega)), ← g9]
        show R2.2.2.1 12 ||| _ = _
        rw [k2.2.2 12 (by omega) (by omega)]
      · rw [NI 13 (by omega) (by omega) (by omega)]; exact g10
  · have n17 : ¬ R2.2.2.1 17 = -9 := fun q => ho (ok5.2.mpr q)
    have n5 : ¬ Q2.2.2.1 5 = 0 := fun q => ho (ok5.1.mpr q)
    rw [if_neg n17, if_neg n17, if_neg n5]
    refine ⟨p2, o2, by omega, ?_, KP_trans (KP_trans (KP_KF k2) (KP_A _ (by omega) _)) (KP_I _ (by omega) _), fun q => absurd q ho⟩
    exact f2
