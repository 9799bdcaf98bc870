def mWind (V : OV) : OV := (kAp (f_X8_figure (oI V 16 ((V.2.1 16) + (1 : Int32))) (0 : Int32) (1 : Int32)) (fun q7 => (kAp (f_X8_figure (oA q7.2 9 (upd (q7.2.1 9) ((3 : Int32) * (V.2.1 11)).toNatClampNeg q7.1)) (0 : Int32) (5 : Int32)) (fun q10 => (kAp (f_X8_figure (oA q10.2 9 (upd (q10.2.1 9) (((3 : Int32) * (q7.2.2.1 11)) + (1 : Int32)).toNatClampNeg q10.1)) (1 : Int32) (9 : Int32)) (fun q13 => (oI (oA q13.2 9 (upd (q13.2.1 9) (((3 : Int32) * (q10.2.2.1 11)) + (2 : Int32)).toNatClampNeg q13.1)) 11 ((q13.2.2.1 11) + (1 : Int32)))))))))
def mTree (V : OV) : OV := (kAp (f_X8_figureOf (oI V 16 ((V.2.1 16) + (1 : Int32))) ((1023 : Int32) &&& ((V.2.1 12) ^^^ (-1 : Int32)))) (fun q29 => (kAp (f_X8_figure q29.2 (1 : Int32) (3 : Int32)) (fun q31 => (kAp ((if (q31.2.2.1 17) = (-9 : Int32) then q31.1 else ((q31.2.1 6) ((12 : Int32) + q29.1).toNatClampNeg)) : Int32) (fun v35 => (if (q31.2.2.1 17) = (-9 : Int32) then (oI (oA q31.2 6 (upd (q31.2.1 6) ((12 : Int32) + q29.1).toNatClampNeg v35)) 12 ((q31.2.2.1 12) ||| ((1 : Int32) <<< (q29.1 &&& 31)))) else (oI (oA q31.2 6 (upd (q31.2.1 6) ((12 : Int32) + q29.1).toNatClampNeg v35)) 12 ((q31.2.2.1 12) ||| (0 : Int32))))))))))
def dWind (V : OV) : Prop := ((d_X8_figure (oI V 16 ((V.2.1 16) + (1 : Int32))) (0 : Int32) (1 : Int32)) ∧ (kAp (f_X8_figure (oI V 16 ((V.2.1 16) + (1 : Int32))) (0 : Int32) (1 : Int32)) (fun q7 => (vp_in ((3 : Int32) * (V.2.1 11)) 12 ∧ ((d_X8_figure (oA q7.2 9 (upd (q7.2.1 9) ((3 : Int32) * (V.2.1 11)).toNatClampNeg q7.1)) (0 : Int32) (5 : Int32)) ∧ (kAp (f_X8_figure (oA q7.2 9 (upd (q7.2.1 9) ((3 : Int32) * (V.2.1 11)).toNatClampNeg q7.1)) (0 : Int32) (5 : Int32)) (fun q10 => (vp_in (((3 : Int32) * (q7.2.2.1 11)) + (1 : Int32)) 12 ∧ ((d_X8_figure (oA q10.2 9 (upd (q10.2.1 9) (((3 : Int32) * (q7.2.2.1 11)) + (1 : Int32)).toNatClampNeg q10.1)) (1 : Int32) (9 : Int32)) ∧ (kAp (f_X8_figure (oA q10.2 9 (upd (q10.2.1 9) (((3 : Int32) * (q7.2.2.1 11)) + (1 : Int32)).toNatClampNeg q10.1)) (1 : Int32) (9 : Int32)) (fun q13 => vp_in (((3 : Int32) * (q10.2.2.1 11)) + (2 : Int32)) 12)))))))))))
def dTree (V : OV) : Prop := ((d_X8_figureOf (oI V 16 ((V.2.1 16) + (1 : Int32))) ((1023 : Int32) &&& ((V.2.1 12) ^^^ (-1 : Int32)))) ∧ (kAp (f_X8_figureOf (oI V 16 ((V.2.1 16) + (1 : Int32))) ((1023 : Int32) &&& ((V.2.1 12) ^^^ (-1 : Int32)))) (fun q29 => ((d_X8_figure q29.2 (1 : Int32) (3 : Int32)) ∧ (kAp (f_X8_figure q29.2 (1 : Int32) (3 : Int32)) (fun q31 => ((¬ ((q31.2.2.1 17) = (-9 : Int32)) → vp_in ((12 : Int32) + q29.1) 27) ∧ (kAp ((if (q31.2.2.1 17) = (-9 : Int32) then q31.1 else ((q31.2.1 6) ((12 : Int32) + q29.1).toNatClampNeg)) : Int32) (fun v35 => vp_in ((12 : Int32) + q29.1) 27)))))))))
theorem kAp_id {α : Type} (x : α) : kAp x (fun q => q) = x := rfl
theorem p_readPart (V : OV) (x : Int32) : f_X8_readPart V x = if x = 84 ∧ ¬ V.2.1 12 = 1023 then mTree V else if x = 67 ∧ ¬ (6 : Int32) ≤ V.2.1 10 then f_X8_readCock (oI V 16 (V.2.1 16 + 1)) else if x = 87 ∧ ¬ (4 : Int32) ≤ V.2.1 11 then mWind V else oI V 17 (V.2.1 16) := by
  have n1 : ¬ (84 : Int32) = 67 := by decide
  have n2 : ¬ (84 : Int32) = 87 := by decide
  have n3 : ¬ (67 : Int32) = 87 := by decide
  unfold f_X8_readPart mTree mWind
  by_cases a : x = 84
  · have n67 : ¬ x = 67 := by rw [a]; exact n1
    have n87 : ¬ x = 87 := by rw [a]; exact n2
    have m67 : ¬ (x = 67 ∧ ¬ (6 : Int32) ≤ V.2.1 10) := fun q => n67 q.1
    have m87 : ¬ (x = 87 ∧ ¬ (4 : Int32) ≤ V.2.1 11) := fun q => n87 q.1
    by_cases b : V.2.1 12 = 1023
    · have m84 : ¬ (x = 84 ∧ ¬ V.2.1 12 = 1023) := fun q => q.2 b
      rw [if_pos a, if_pos b, if_neg n67, if_neg n87, if_neg m84, if_neg m67, if_neg m87]
    · have m84 : x = 84 ∧ ¬ V.2.1 12 = 1023 := ⟨a, b⟩
      rw [if_pos a, if_neg b, if_pos m84]
  · have m84 : ¬ (x = 84 ∧ ¬ V.2.1 12 = 1023) := fun q => a q.1
    rw [if_neg a, if_neg m84]
    by_cases c : x = 67
    · have n87 : ¬ x = 87 := by rw [c]; exact n3
      have m87 : ¬ (x = 87 ∧ ¬ (4 : Int32) ≤ V.2.1 11) := fun q => n87 q.1
      rw [if_pos c]
      by_cases d : (6 : Int32) ≤ V.2.1 10
      · have m67 : ¬ (x = 67 ∧ ¬ (6 : Int32) ≤ V.2.1 10) := fun q => q.2 d
        rw [if_pos d, if_neg n87, if_neg m67, if_neg m87]
      · have m67 : x = 67 ∧ ¬ (6 : Int32) ≤ V.2.1 10 := ⟨c, d⟩
        rw [if_neg d, if_pos m67, kAp_id]
    · have m67 : ¬ (x = 67 ∧ ¬ (6 : Int32) ≤ V.2.1 10) := fun q => c q.1
      rw [if_neg c, if_neg m67]
      by_cases e : x = 87
      · rw [if_pos e]
        by_cases g : (4 : Int32) ≤ V.2.1 11
        · have m87 : ¬ (x = 87 ∧ ¬ (4 : Int32) ≤ V.2.1 11) := fun q => q.2 g
          rw [if_pos g, if_neg m87]
        · have m87 : x = 87 ∧ ¬ (4 : Int32) ≤ V.2.1 11 := ⟨e, g⟩
          rw [if_neg g, if_pos m87]
      · have m87 : ¬ (x = 87 ∧ ¬ (4 : Int32) ≤ V.2.1 11) := fun q => e q.1
        rw [if_neg e, if_neg m87]
theorem p_readPartD {V : OV} {x : Int32} (hW : ¬ (4 : Int32) ≤ V.2.1 11 → dWind V) (hC : ¬ (6 : Int32) ≤ V.2.1 10 → d_X8_readCock (oI V 16 (V.2.1 16 + 1))) (hT : ¬ V.2.1 12 = 1023 → dTree V) : d_X8_readPart V x :=
  ⟨fun _ => ⟨fun _ => ⟨fun _ => ⟨fun _ _ => hW, hC⟩, fun _ _ => hW⟩, hT⟩, fun _ => ⟨fun _ => ⟨fun _ _ => hW, hC⟩, fun _ _ => hW⟩⟩
theorem p_f01 {ln pl : Nat} {ok : Bool} {Vr M : OV} (h : FX ln pl ok Vr M) : d_X8_figure M 0 1 ∧ FG ln pl ok Vr M (f_X4_figure Vr 3) (f_X8_figure M 0 1) (fun z => 0 ≤ z ∧ z ≤ 1) := p_figure h 3 0 1 (by omega) (by omega) b_sets.1
theorem p_f03 {ln pl : Nat} {ok : Bool} {Vr M : OV} (h : FX ln pl ok Vr M) : d_X8_figure M 0 3 ∧ FG ln pl ok Vr M (f_X4_figure Vr 15) (f_X8_figure M 0 3) (fun z => 0 ≤ z ∧ z ≤ 3) := p_figure h 15 0 3 (by omega) (by omega) b_sets.2.1
theorem p_f04 {ln pl : Nat} {ok : Bool} {Vr M : OV} (h : FX ln pl ok Vr M) : d_X8_figure M 0 4 ∧ FG ln pl ok Vr M (f_X4_figure Vr 31) (f_X8_figure M 0 4) (fun z => 0 ≤ z ∧ z ≤ 4) := p_figure h 31 0 4 (by omega) (by omega) b_sets.2.2.1
theorem p_f05 {ln pl : Nat} {ok : Bool} {Vr M : OV} (h : FX ln pl ok Vr M) : d_X8_figure M 0 5 ∧ FG ln pl ok Vr M (f_X4_figure Vr 63) (f_X8_figure M 0 5) (fun z => 0 ≤ z ∧ z ≤ 5) := p_figure h 63 0 5 (by omega) (by omega) b_sets.2.2.2.1
theorem p_f13 {ln pl : Nat} {ok : Bool} {Vr M : OV} (h : FX ln pl ok Vr M) : d_X8_figure M 1 3 ∧ FG ln pl ok Vr M (f_X4_figure Vr 14) (f_X8_figure M 1 3) (fun z => 1 ≤ z ∧ z ≤ 3) := p_figure h 14 1 3 (by omega) (by omega) b_sets.2.2.2.2.1
theorem p_f19 {ln pl : Nat} {ok : Bool} {Vr M : OV} (h : FX ln pl ok Vr M) : d_X8_figure M 1 9 ∧ FG ln pl ok Vr M (f_X4_figure Vr 1022) (f_X8_figure M 1 9) (fun z => 1 ≤ z ∧ z ≤ 9) := p_figure h 1022 1 9 (by omega) (by omega) b_sets.2.2.2.2.2
/-- what reading leaves as it was -/
def KP (M M' : OV) : Prop := (∀ k, k ≠ 6 → k ≠ 7 → k ≠ 8 → k ≠ 9 → M'.1 k = M.1 k) ∧ M'.2.2 = M.2.2 ∧ ∀ k, (k < 10 ∨ k = 14 ∨ k = 15 ∨ 17 < k) → M'.2.1 k = M.2.1 k
theorem KP_rfl (M : OV) : KP M M := ⟨fun _ _ _ _ _ => rfl, rfl, fun _ _ => rfl⟩
theorem KP_trans {M M' M'' : OV} (h : KP M M') (h' : KP M' M'') : KP M M'' := ⟨fun k a b c d => (h'.1 k a b c d).trans (h.1 k a b c d), h'.2.1.trans h.2.1, fun k hk => (h'.2.2 k hk).trans (h.2.2 k hk)⟩
theorem KP_KF {M M' : OV} (h : KF M M') : KP M M' := ⟨fun k _ _ _ _ => congrFun h.1 k, h.2.1, fun k hk => h.2.2 k (by omega) (by omega)⟩
theorem KP_A (M : OV) {k : Nat} (hk : 6 ≤ k ∧ k ≤ 9) (f : Nat → Int32) : KP M (oA M k f) := ⟨fun j a b c d => va_up_ne _ _ (by omega), rfl, fun _ _ => rfl⟩
theorem KP_I (M : OV) {k : Nat} (hk : (10 ≤ k ∧ k ≤ 13) ∨ k = 16 ∨ k = 17) (x : Int32) : KP M (oI M k x) := ⟨fun _ _ _ _ _ => rfl, rfl, fun j hj => va_up_ne _ _ (by omega)⟩
/-- the hill and the winds that are read -/
def GR (H A M : OV) : Prop := ∃ co wn, co ≤ 6 ∧ wn ≤ 4 ∧ HR 0 co (M.1 7) (M.1 8) H (M.1 6) 0 ∧ M.2.1 10 = nI co ∧ (∀ k, k < co → 0 ≤ (M.1 7 k).toInt) ∧ A.2.1 3 = nI wn ∧ M.2.1 11 = nI wn ∧
  (∀ w, w < wn → A.1 0 w = M.1 9 (3 * w) ∧ A.1 1 w = M.1 9 (3 * w + 1) ∧ A.1 2 w = M.1 9 (3 * w + 2) ∧ ∃ d, 1 ≤ d ∧ d < 10 ∧ M.1 9 (3 * w + 2) = nI d) ∧ M.2.1 12 = f_X2_treeCells H ∧ M.2.1 13 = f_X2_takenCells H
theorem FX_5 {ln pl : Nat} {ok : Bool} {Vr M : OV} (h : FX ln pl ok Vr M) : (ok = true ↔ Vr.2.1 5 = 0) ∧ (ok = true ↔ M.2.1 17 = -9) := by
  obtain ⟨h1, h2, h3, h4, h5, h6, h7⟩ := h
  cases ok with
  | true => exact ⟨⟨fun _ => h7.1, fun _ => rfl⟩, ⟨fun _ => h7.2.1, fun _ => rfl⟩⟩
  | false =>
    obtain ⟨k1, k2⟩ : Vr.2.1 5 = 1 ∧ M.2.1 17 = nI pl := h7
    refine ⟨⟨fun q => (by cases q), fun q => ?_⟩, ⟨fun q => (by cases q), fun q => ?_⟩⟩
    · rw [k1] at q; exact absurd q (by decide)
    · rw [k2] at q
      have : (nI pl).toInt = (-9 : Int32).toInt := by rw [q]
      rw [nI_toInt (by omega)] at this
      have z9 : (-9 : Int32).toInt = -9 := rfl
      omega
/-- the outcome of a part -/
def PT (ln pl : Nat) (M Vr' H' A' M' : OV) : Prop := ∃ pl' ok', pl < pl' ∧ FX ln pl' ok' Vr' M' ∧ KP M M' ∧ (ok' = true → GR H' A' M')
theorem FX_step {ln pl : Nat} {Vr M : OV} (h : FX ln pl true Vr M) (hp : pl < ln) : FX ln (pl + 1) true (oI Vr 4 (Vr.2.1 4 + 1)) (oI M 16 (M.2.1 16 + 1)) := by
  obtain ⟨h1, h2, h3, h4, h5, h6, h7⟩ := h
  obtain ⟨k1, k2, k3⟩ : Vr.2.1 5 = 0 ∧ M.2.1 17 = -9 ∧ M.2.1 16 = nI pl := h7
  refine ⟨h1, by omega, h3, h4, h5, ?_, k1, k2, ?_⟩
  · show Vr.2.1 4 + 1 = nI (pl + 1)
    rw [h6, nI_1]
  · show M.2.1 16 + 1 = nI (pl + 1)
    rw [k3, nI_1]
theorem p_windPart {ln pl : Nat} {Vr H A M : OV} (h : FX ln pl true Vr M) (hp : pl < ln) (hG : GR H A M) (hw : ¬ (4 : Int32) ≤ M.2.1 11) :
    dWind M ∧ PT ln pl M (f_X4_readWind (oI Vr 4 (Vr.2.1 4 + 1)) A).1 H (f_X4_readWind (oI Vr 4 (Vr.2.1 4 + 1)) A).2 (mWind M) := by
  obtain ⟨co, wn, g1, g2, g3, g4, g5, g6, g7, g8, g9, g10⟩ := hG
  have hwn : wn < 4 := by
    rw [g7] at hw
    rcases Nat.lt_or_ge wn 4 with q | q
    · exact q
    · exact absurd (nI_le (a := 4) q (by omega)) hw
  have h0 := FX_step h hp
  have k0 := KF_16 M (M.2.1 16 + 1)
  unfold dWind mWind f_X4_readWind
  dsimp only [kAp]
  rw [g7]
  obtain ⟨d1, p1, o1, l1, i1, f1, c1, ⟨y1, hy1, r1⟩, s1⟩ := p_f01 h0
  generalize f_X8_figure (oI M 16 (M.2.1 16 + 1)) 0 1 = R1 at d1 f1 c1 r1 s1 ⊢
  generalize f_X4_figure (oI Vr 4 (Vr.2.1 4 + 1)) 3 = Q1 at f1 s1 ⊢
  have k1 := KF_trans k0 c1
  have f1' : ∀ g, FX ln p1 o1 Q1.2 (oA R1.2 9 g) := fun g => f1
  obtain ⟨d2, p2, o2, l2, i2, f2, c2, ⟨y2, hy2, r2⟩, s2⟩ := p_f05 (f1' (upd (R1.2.1 9) ((3 : Int32) * nI wn).toNatClampNeg R1.1))
  have e11 : R1.2.2.1 11 = nI wn := (k1.2.2 11 (by omega) (by omega)).trans g7
  rw [e11]
  generalize f_X8_figure (oA R1.2 9 (upd (R1.2.1 9) ((3 : Int32) * nI wn).toNatClampNeg R1.1)) 0 5 = R2 at d2 f2 c2 r2 s2 ⊢
  generalize f_X4_figure Q1.2 63 = Q2 at f2 s2 ⊢
  have f2' : ∀ g, FX ln p2 o2 Q2.2 (oA R2.2 9 g) := fun g => f2
  obtain ⟨d3, p3, o3, l3, i3, f3, c3, ⟨y3, hy3, r3⟩, s3⟩ := p_f19 (f2' (upd (R2.2.1 9) (((3 : Int32) * nI wn) + (1 : Int32)).toNatClampNeg R2.1))
  have e12 : R2.2.2.1 11 = nI wn := (c2.2.2 11 (by omega) (by omega)).trans e11
  rw [e12]
  generalize f_X8_figure (oA R2.2 9 (upd (R2.2.1 9) (((3 : Int32) * nI wn) + (1 : Int32)).toNatClampNeg R2.1)) 1 9 = R3 at d3 f3 c3 r3 s3 ⊢
  generalize f_X4_figure Q2.2 1022 = Q3 at f3 s3 ⊢
  have e13 : R3.2.2.1 11 = nI wn := (c3.2.2 11 (by omega) (by omega)).trans e12
  refine ⟨⟨d1, vw_0 hwn, d2, vw_k (k := 1) hwn (by omega), d3, vw_k (k := 2) hwn (by omega)⟩, ?_⟩
  have K : KP M (oI (oA R3.2 9 (upd (R3.2.1 9) (((3 : Int32) * nI wn) + (2 : Int32)).toNatClampNeg R3.1)) 11 (R3.2.2.1 11 + 1)) :=
    KP_trans (KP_trans (KP_trans (KP_trans (KP_trans (KP_trans (KP_KF k1) (KP_A _ (by omega) _)) (KP_KF c2)) (KP_A _ (by omega) _)) (KP_KF c3)) (KP_A _ (by omega) _)) (KP_I _ (by omega) _)
  refine ⟨p3, o3, by omega, ?_, K, fun ho => ?_⟩
  · split
    · exact f3
    · exact f3
  · have ho2 := i3 ho
    have ho1 := i2 ho2
    obtain ⟨z1, hz1, q1, a1, b1⟩ := s1 ho1
    obtain ⟨z2, hz2, q2, a2, b2⟩ := s2 ho2
    obtain ⟨z3, hz3, q3, a3, b3⟩ := s3 ho
    rw [if_pos ((FX_5 f3).1.mp ho)]
    have A1 : R1.2.1 = M.1 := k1.1
    have A2 : R2.2.1 = va_up M.1 9 (upd (M.1 9) (3 * wn) (nI z1)) := by
      rw [c2.1, iw_0 hwn, b1]
      show va_up R1.2.1 9 (upd (R1.2.1 9) (3 * wn) (nI z1)) = _
      rw [A1]
    have A29 : R2.2.1 9 = upd (M.1 9) (3 * wn) (nI z1) := by rw [A2]; exact va_up_self _ _ _
    have A3 : R3.2.1 = va_up R2.2.1 9 (upd (upd (M.1 9) (3 * wn) (nI z1)) (3 * wn + 1) (nI z2)) := by
      rw [c3.1, iw_1 hwn, b2, A29]
      rfl
    have A39 : R3.2.1 9 = upd (upd (M.1 9) (3 * wn) (nI z1)) (3 * wn + 1) (nI z2) := by rw [A3]; exact va_up_self _ _ _
    have N : ∀ k, k ≠ 9 → (oI (oA R3.2 9 (upd (R3.2.1 9) (((3 : Int32) * nI wn) + (2 : Int32)).toNatClampNeg R3.1)) 11 (R3.2.2.1 11 + 1)).1 k = M.1 k := fun k hk => by
      show va_up R3.2.1 9 _ k = _
      rw [va_up_ne _ _ hk, A3, va_up_ne _ _ hk, A2, va_up_ne _ _ hk]
    have N9 : (oI (oA R3.2 9 (upd (R3.2.1 9) (((3 : Int32) * nI wn) + (2 : Int32)).toNatClampNeg R3.1)) 11 (R3.2.2.1 11 + 1)).1 9 = upd (upd (upd (M.1 9) (3 * wn) (nI z1)) (3 * wn + 1) (nI z2)) (3 * wn + 2) (nI z3) := by
      have e9 : ∀ U : Nat → Int32, va_up R3.2.1 9 U 9 = U := fun U => va_up_self _ _ _
      have e8 : upd (R3.2.1 9) (((3 : Int32) * nI wn) + (2 : Int32)).toNatClampNeg R3.1 = upd (upd (upd (M.1 9) (3 * wn) (nI z1)) (3 * wn + 1) (nI z2)) (3 * wn + 2) (nI z3) := by rw [A39, iw_2 hwn, b3]
      exact (e9 _).trans e8
    have NI : ∀ k, k ≠ 11 → k ≠ 16 → k ≠ 17 → (oI (oA R3.2 9 (upd (R3.2.1 9) (((3 : Int32) * nI wn) + (2 : Int32)).toNatClampNeg R3.1)) 11 (R3.2.2.1 11 + 1)).2.1 k = M.2.1 k := fun k h1 h2 h3 => by
      show va_up R3.2.2.1 11 _ k = _
      rw [va_up_ne _ _ h1]
      exact (c3.2.2 k h2 h3).trans ((c2.2.2 k h2 h3).trans (k1.2.2 k h2 h3))
    have eA : f_X1_addWind A Q1.1 Q2.1 Q3.1 = oI (oA (oA (oA A 0 (upd (A.1 0) wn (nI z1))) 1 (upd (A.1 1) wn (nI z2))) 2 (upd (A.1 2) wn (nI z3))) 3 (nI (wn + 1)) := by
      unfold f_X1_addWind
      dsimp only [kAp]
      rw [g6, p_put _ _ (by omega) hwn, p_put _ _ (by omega) hwn, p_put _ _ (by omega) hwn, a1, a2, a3, nI_1]
    have eP : (f_X1_addWind A Q1.1 Q2.1 Q3.1) = oI (oA (oA (oA A 0 (upd (A.1 0) wn (nI z1))) 1 (upd (A.1 1) wn (nI z2))) 2 (upd (A.1 2) wn (nI z3))) 3 (nI (wn + 1)) := eA
    refine ⟨co, wn + 1, g1, by omega, ?_, ?_, ?_, ?_, ?_, fun w hw' => ?_, ?_, ?_⟩
    · rw [N 7 (by omega), N 8 (by omega), N 6 (by omega)]; exact g3
    · rw [NI 10 (by omega) (by omega) (by omega)]; exact g4
    · rw [N 7 (by omega)]; exact g5
    · show (f_X1_addWind A Q1.1 Q2.1 Q3.1).2.1 3 = _
      rw [eP]; rfl
    · show R3.2.2.1 11 + 1 = _
      rw [e13, nI_1]
    · rw [N9]
      show (f_X1_addWind A Q1.1 Q2.1 Q3.1).1 0 w = _ ∧ (f_X1_addWind A Q1.1 Q2.1 Q3.1).1 1 w = _ ∧ (f_X1_addWind A Q1.1 Q2.1 Q3.1).1 2 w = _ ∧ _
      rw [eP]
      show upd (A.1 0) wn (nI z1) w = _ ∧ upd (A.1 1) wn (nI z2) w = _ ∧ upd (A.1 2) wn (nI z3) w = _ ∧ _
      by_cases e : w = wn
      · subst e
        simp only [p_up, if_true]
        rw [if_neg (by omega), if_neg (by omega), if_neg (by omega)]
        refine ⟨?_, ?_, ?_, z3, by omega, by omega, ?_⟩ <;> trivial
      · have := g8 w (by omega)
        simp only [p_up]
        rw [if_neg e, if_neg e, if_neg e, if_neg (by omega), if_neg (by omega), if_neg (by omega), if_neg (by omega), if_neg (by omega), if_neg (by omega), if_neg (by omega), if_neg (by omega), if_neg (by omega)]
        exact this
    · rw [NI 12 (by omega) (by omega) (by omega)]; exact g9
    · rw [NI 13 (by omega) (by omega) (by omega)]; exact g10
