theorem p_readPart4 (V H A : OV) : f_X4_readPart V H A = if f_X7_at 64 (V.1 0) (V.2.1 4) = 84 ∧ ¬ ((1023 : Int32) &&& (f_X2_treeCells H ^^^ (-1 : Int32))) = 0 then ((f_X4_readTree (oI V 4 (V.2.1 4 + 1)) H ((1023 : Int32) &&& (f_X2_treeCells H ^^^ (-1 : Int32)))).1, (f_X4_readTree (oI V 4 (V.2.1 4 + 1)) H ((1023 : Int32) &&& (f_X2_treeCells H ^^^ (-1 : Int32)))).2, A) else if f_X7_at 64 (V.1 0) (V.2.1 4) = 67 ∧ ¬ (6 : Int32) ≤ H.2.1 5 then ((f_X4_readCock (oI V 4 (V.2.1 4 + 1)) H).1, (f_X4_readCock (oI V 4 (V.2.1 4 + 1)) H).2, A) else if f_X7_at 64 (V.1 0) (V.2.1 4) = 87 ∧ ¬ (4 : Int32) ≤ A.2.1 3 then ((f_X4_readWind (oI V 4 (V.2.1 4 + 1)) A).1, H, (f_X4_readWind (oI V 4 (V.2.1 4 + 1)) A).2) else (oI V 5 1, H, A) := by
  have n1 : ¬ (84 : Int32) = 67 := by decide
  have n2 : ¬ (84 : Int32) = 87 := by decide
  have n3 : ¬ (67 : Int32) = 87 := by decide
  unfold f_X4_readPart
  dsimp only [kAp]
  generalize f_X7_at 64 (V.1 0) (V.2.1 4) = x
  generalize f_X4_readTree (oI V 4 (V.2.1 4 + 1)) H ((1023 : Int32) &&& (f_X2_treeCells H ^^^ (-1 : Int32))) = T
  generalize f_X4_readCock (oI V 4 (V.2.1 4 + 1)) H = C
  generalize f_X4_readWind (oI V 4 (V.2.1 4 + 1)) A = W
  generalize ((1023 : Int32) &&& (f_X2_treeCells H ^^^ (-1 : Int32))) = tl
  by_cases a : x = 84
  · have n67 : ¬ x = 67 := by rw [a]; exact n1
    have n87 : ¬ x = 87 := by rw [a]; exact n2
    have m67 : ¬ (x = 67 ∧ ¬ (6 : Int32) ≤ H.2.1 5) := fun q => n67 q.1
    have m87 : ¬ (x = 87 ∧ ¬ (4 : Int32) ≤ A.2.1 3) := fun q => n87 q.1
    by_cases b : tl = 0
    · have m84 : ¬ (x = 84 ∧ ¬ tl = 0) := fun q => q.2 b
      rw [if_pos a, if_pos b, if_neg n67, if_neg n87, if_neg m84, if_neg m67, if_neg m87]
    · have m84 : x = 84 ∧ ¬ tl = 0 := ⟨a, b⟩
      rw [if_pos a, if_neg b, if_pos m84]
  · have m84 : ¬ (x = 84 ∧ ¬ tl = 0) := fun q => a q.1
    rw [if_neg a, if_neg m84]
    by_cases c : x = 67
    · have n87 : ¬ x = 87 := by rw [c]; exact n3
      have m87 : ¬ (x = 87 ∧ ¬ (4 : Int32) ≤ A.2.1 3) := fun q => n87 q.1
      rw [if_pos c]
      by_cases d : (6 : Int32) ≤ H.2.1 5
      · have m67 : ¬ (x = 67 ∧ ¬ (6 : Int32) ≤ H.2.1 5) := fun q => q.2 d
        rw [if_pos d, if_neg n87, if_neg m67, if_neg m87]
      · have m67 : x = 67 ∧ ¬ (6 : Int32) ≤ H.2.1 5 := ⟨c, d⟩
        rw [if_neg d, if_pos m67]
    · have m67 : ¬ (x = 67 ∧ ¬ (6 : Int32) ≤ H.2.1 5) := fun q => c q.1
      rw [if_neg c, if_neg m67]
      by_cases e : x = 87
      · rw [if_pos e]
        by_cases g : (4 : Int32) ≤ A.2.1 3
        · have m87 : ¬ (x = 87 ∧ ¬ (4 : Int32) ≤ A.2.1 3) := fun q => q.2 g
          rw [if_pos g, if_neg m87]
        · have m87 : x = 87 ∧ ¬ (4 : Int32) ≤ A.2.1 3 := ⟨e, g⟩
          rw [if_neg g, if_pos m87]
      · have m87 : ¬ (x = 87 ∧ ¬ (4 : Int32) ≤ A.2.1 3) := fun q => e q.1
        rw [if_neg e, if_neg m87]
/-- the outcome of a part, or of all -/
def PU (ln pl : Nat) (M Vr' H' A' M' : OV) : Prop := ∃ pl' ok', FX ln pl' ok' Vr' M' ∧ KP M M' ∧ (ok' = true → pl < pl' ∧ GR H' A' M')
theorem PT_PU {ln pl : Nat} {M Vr' H' A' M' : OV} (h : PT ln pl M Vr' H' A' M') : PU ln pl M Vr' H' A' M' := by
  obtain ⟨p, o, h1, h2, h3, h4⟩ := h
  exact ⟨p, o, h2, h3, fun q => ⟨h1, h4 q⟩⟩
theorem p_part {ln pl : Nat} {Vr H A M : OV} (h : FX ln pl true Vr M) (hp : pl < ln) (hG : GR H A M) :
    d_X8_readPart M (M.1 14 pl) ∧ PU ln pl M (f_X4_readPart Vr H A).1 (f_X4_readPart Vr H A).2.1 (f_X4_readPart Vr H A).2.2 (f_X8_readPart M (M.1 14 pl)) := by
  have hT := p_treePart h hp hG
  have hW := fun q => p_windPart h hp hG q
  have hC := fun q => p_cockPart h hp hG q
  refine ⟨p_readPartD (fun q => (hW q).1) (fun q => (hC q).1) (fun _ => hT.1), ?_⟩
  have hG' := hG
  obtain ⟨co, wn, g1, g2, g3, g4, g5, g6, g7, g8, g9, g10⟩ := hG'
  have hF := h
  obtain ⟨h1, h2, h3, h4, h5, h6, h7⟩ := hF
  obtain ⟨k1, k2, k3⟩ : Vr.2.1 5 = 0 ∧ M.2.1 17 = -9 ∧ M.2.1 16 = nI pl := h7
  have eL : f_X7_at 64 (Vr.1 0) (Vr.2.1 4) = M.1 14 pl := by rw [h6, p_at1 _ (by omega) (by omega : pl < 64)]; exact h5 pl hp
  rw [p_readPart4, p_readPart, eL, g3.1, g6, g4, g7]
  have eT : (¬ ((1023 : Int32) &&& (f_X2_treeCells H ^^^ (-1 : Int32))) = 0) = (¬ M.2.1 12 = 1023) := by
    rw [g9]
    exact propext (not_congr p_full)
  by_cases c1 : M.1 14 pl = 84 ∧ ¬ M.2.1 12 = 1023
  · have c1' : M.1 14 pl = 84 ∧ ¬ ((1023 : Int32) &&& (f_X2_treeCells H ^^^ (-1 : Int32))) = 0 := ⟨c1.1, by rw [eT]; exact c1.2⟩
    have r := PT_PU hT.2
    rw [if_pos c1, if_pos c1']
    dsimp only
    exact r
  · have c1' : ¬ (M.1 14 pl = 84 ∧ ¬ ((1023 : Int32) &&& (f_X2_treeCells H ^^^ (-1 : Int32))) = 0) := fun q => c1 ⟨q.1, by rw [← eT]; exact q.2⟩
    rw [if_neg c1, if_neg c1']
    by_cases c2 : M.1 14 pl = 67 ∧ ¬ (6 : Int32) ≤ nI co
    · have q6 : ¬ (6 : Int32) ≤ M.2.1 10 := by rw [g4]; exact c2.2
      have r := PT_PU (hC q6).2
      rw [if_pos c2, if_pos c2]
      dsimp only
      exact r
    · rw [if_neg c2, if_neg c2]
      by_cases c3 : M.1 14 pl = 87 ∧ ¬ (4 : Int32) ≤ nI wn
      · have q6 : ¬ (4 : Int32) ≤ M.2.1 11 := by rw [g7]; exact c3.2
        have r := PT_PU (hW q6).2
        rw [if_pos c3, if_pos c3]
        dsimp only
        exact r
      · rw [if_neg c3, if_neg c3]
        exact ⟨pl, false, ⟨h1, h2, h3, h4, h5, h6, rfl, k3⟩, KP_I M (by omega) _, fun q => by cases q⟩
theorem p_textLoop {ln : Nat} : ∀ (k pl n i m : Nat) (Vr H A M : OV), ln ≤ pl + k → k ≤ n → k + 1 ≤ m → FX ln pl true Vr M → GR H A M →
    lpwD f_X8_readText_L6 d_X8_readText_L6 m M ∧ ∃ pl' ok', FX ln pl' ok' (lpb f_X4_firstFault_L11 n i (Vr, A, H)).1 (lpw f_X8_readText_L6 m M) ∧ KP M (lpw f_X8_readText_L6 m M) ∧ (ok' = true → GR (lpb f_X4_firstFault_L11 n i (Vr, A, H)).2.2 (lpb f_X4_firstFault_L11 n i (Vr, A, H)).2.1 (lpw f_X8_readText_L6 m M))
  | _, _, _, _, 0, _, _, _, _, _, _, hm, _, _ => by omega
  | k, pl, n, i, m + 1, Vr, H, A, M, hk, hn, hm, hF, hG => by
    have hF' := hF
    obtain ⟨h1, h2, h3, h4, h5, h6, h7⟩ := hF'
    obtain ⟨k1, k2, k3⟩ : Vr.2.1 5 = 0 ∧ M.2.1 17 = -9 ∧ M.2.1 16 = nI pl := h7
    by_cases hp : pl < ln
    · -- one more part
      have hle : ¬ nI ln ≤ nI pl := nI_ge hp (by omega)
      obtain ⟨P1, p', o', P2, P3, P4⟩ := p_part hF hp hG
      have e8 : f_X8_readText_L6 M = .inl (f_X8_readPart M (M.1 14 pl)) := by
        unfold f_X8_readText_L6
        dsimp only [kAp]
        rw [if_pos k2, h4, k3, if_neg hle, nI_clamp (by omega)]
      have d8 : d_X8_readText_L6 M := by
        unfold d_X8_readText_L6
        rw [k3, nI_clamp (by omega)]
        exact fun _ _ => ⟨vp_in_nI (by omega) (by omega), P1⟩
      have e4 : f_X4_firstFault_L11 i (Vr, A, H) = .inl ((f_X4_readPart Vr H A).1, (f_X4_readPart Vr H A).2.2, (f_X4_readPart Vr H A).2.1) := by
        unfold f_X4_firstFault_L11
        dsimp only [kAp]
        rw [if_pos k1, h3, h6, if_neg hle]
      cases k with
      | zero => omega
      | succ k =>
        cases n with
        | zero => omega
        | succ n =>
          have en : lpb f_X4_firstFault_L11 (n + 1) i (Vr, A, H) = lpb f_X4_firstFault_L11 n (i + 1) ((f_X4_readPart Vr H A).1, (f_X4_readPart Vr H A).2.2, (f_X4_readPart Vr H A).2.1) := by simp only [lpb]; rw [e4]
          rw [en, lpw_go e8]
          cases o' with
          | true =>
            have ih := p_textLoop k p' n (i + 1) m _ _ _ _ (by have := (P4 rfl).1; omega) (by omega) (by omega) P2 (P4 rfl).2
            obtain ⟨I1, p2, o2, I2, I3, I4⟩ := ih
            refine ⟨⟨d8, fun s' hs => ?_⟩, p2, o2, I2, KP_trans P3 I3, I4⟩
            rw [e8] at hs; cases hs; exact I1
          | false =>
            have ok5 := FX_5 P2
            have n5 : ¬ (f_X4_readPart Vr H A).1.2.1 5 = 0 := fun q => by cases ok5.1.mpr q
            have n17 : ¬ (f_X8_readPart M (M.1 14 pl)).2.1 17 = -9 := fun q => by cases ok5.2.mpr q
            cases m with
            | zero => omega
            | succ m =>
              have e8' : f_X8_readText_L6 (f_X8_readPart M (M.1 14 pl)) = .inr (f_X8_readPart M (M.1 14 pl)) := by
                unfold f_X8_readText_L6
                rw [if_neg n17]
              have e4' : lpb f_X4_firstFault_L11 n (i + 1) ((f_X4_readPart Vr H A).1, (f_X4_readPart Vr H A).2.2, (f_X4_readPart Vr H A).2.1) = ((f_X4_readPart Vr H A).1, (f_X4_readPart Vr H A).2.2, (f_X4_readPart Vr H A).2.1) := by
                cases n with
                | zero => rfl
                | succ n =>
                  simp only [lpb]
                  unfold f_X4_firstFault_L11
                  dsimp only
                  rw [if_neg n5]
              rw [lpw_no e8', e4']
              refine ⟨⟨d8, fun s' hs => ?_⟩, p', false, P2, P3, fun q => by cases q⟩
              rw [e8] at hs; cases hs
              refine ⟨fun q => absurd q n17, fun s' hs => ?_⟩
              rw [e8'] at hs; cases hs
    · have hle : nI ln ≤ nI pl := nI_le (by omega) (by omega)
      have e8 : f_X8_readText_L6 M = .inr M := by
        unfold f_X8_readText_L6
        rw [if_pos k2, h4, k3, if_pos hle]
      have d8 : d_X8_readText_L6 M := by
        unfold d_X8_readText_L6
        rw [h4, k3]
        exact fun _ q => absurd hle q
      have e4 : lpb f_X4_firstFault_L11 n i (Vr, A, H) = (Vr, A, H) := by
        cases n with
        | zero => rfl
        | succ n =>
          simp only [lpb]
          unfold f_X4_firstFault_L11
          dsimp only
          rw [if_pos k1, h3, h6, if_pos hle]
      rw [lpw_no e8, e4]
      refine ⟨⟨d8, fun s' hs => ?_⟩, pl, true, hF, KP_rfl M, fun _ => hG⟩
      rw [e8] at hs; cases hs
