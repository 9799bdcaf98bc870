theorem p_clr8 (M : OV) : lpu f_X8_readText_L1 27 0 M = oA M 6 (va_cpy (fun _ => 0) (M.1 6) 0 0 27) := by
  refine p_cpy (dst := 0) (sp := 0) (src := fun _ => 0) _ (fun i f hi _ => ?_)
  unfold f_X8_readText_L1
  rw [oA_rd, oA_oA, nI_clamp (by omega), Nat.zero_add]
theorem p_clr2 (H : OV) : f_X2_clear H = oI (oI (oI (oI (oI (oI (oA H 0 (va_cpy (fun _ => 0) (H.1 0) 0 0 10)) 5 0) 6 0) 7 0) 8 0) 9 0) 10 0 := by
  unfold f_X2_clear
  dsimp only [kAp]
  have e : lpu f_X2_clear_L1 10 0 H = oA H 0 (va_cpy (fun _ => 0) (H.1 0) 0 0 10) := by
    refine p_cpy (dst := 0) (sp := 0) (src := fun _ => 0) _ (fun i f hi _ => ?_)
    unfold f_X2_clear_L1
    rw [oA_rd, oA_oA, nI_clamp (by omega), Nat.zero_add]
  rw [show cN (nI 10) = 10 from rfl, e]
theorem p_text {Vr H A M : OV} (hT : TX Vr M) : d_X8_readText M ∧ (f_X4_firstFault Vr H A).1 = (f_X8_readText M).1 ∧ TX (f_X4_firstFault Vr H A).2.1 (f_X8_readText M).2 ∧ KP M (f_X8_readText M).2 ∧ ((f_X8_readText M).1 = -9 → GR (f_X4_firstFault Vr H A).2.2.1 (f_X4_firstFault Vr H A).2.2.2 (f_X8_readText M).2) := by
  obtain ⟨ln, t1, t2, t3, t4⟩ := hT
  have K0 : KP M (oI (oI (oI (oI (oI (oI M 10 0) 11 0) 12 0) 13 0) 16 0) 17 (-9)) := KP_trans (KP_trans (KP_trans (KP_trans (KP_trans (KP_I M (by omega) _) (KP_I _ (by omega) _)) (KP_I _ (by omega) _)) (KP_I _ (by omega) _)) (KP_I _ (by omega) _)) (KP_I _ (by omega) _)
  unfold d_X8_readText f_X4_firstFault f_X8_readText
  obtain ⟨N, hN⟩ : ∃ N, N = 64 := ⟨_, rfl⟩
  obtain ⟨N', hN'⟩ : ∃ N', N' = 70 := ⟨_, rfl⟩
  have hcN : cN (64 : Int32) = N := by rw [hN]; rfl
  rw [show cN (27 : Int32) = 27 from rfl, hcN, ← hN']
  dsimp only [kAp]
  rw [p_clr8, p_clr2, t2]
  generalize hM1 : oA (oI (oI (oI (oI (oI (oI M 10 0) 11 0) 12 0) 13 0) 16 0) 17 (-9)) 6 (va_cpy (fun _ => 0) ((oI (oI (oI (oI (oI (oI M 10 0) 11 0) 12 0) 13 0) 16 0) 17 (-9)).1 6) 0 0 27) = M1
  generalize hH1 : oI (oI (oI (oI (oI (oI (oA H 0 (va_cpy (fun _ => 0) (H.1 0) 0 0 10)) 5 0) 6 0) 7 0) 8 0) 9 0) 10 0 = H1
  have K1 : KP M M1 := by rw [← hM1]; exact KP_trans K0 (KP_A _ (by omega) _)
  have e15 : M1.2.1 15 = nI ln := (K1.2.2 15 (by omega)).trans t3
  have e14 : ∀ j, M1.1 14 j = M.1 14 j := fun j => by rw [K1.1 14 (by omega) (by omega) (by omega) (by omega)]
  have z00 : (0 : Int32).toNatClampNeg = 0 := rfl
  rw [e15, z00]
  have hat : 0 < ln → f_X7_at 64 (Vr.1 0) 0 = M1.1 14 0 := fun q => by
    have := p_at1 (n := 64) (Vr.1 0) (by omega) (by omega : 0 < 64)
    have e0 : nI 0 = (0 : Int32) := rfl
    rw [e0] at this
    rw [this, t4 0 q, e14]
  generalize hv : (if nI ln = 0 then (1 : Int32) else if f_X7_at 64 (Vr.1 0) 0 = 72 then 0 else 1) = v4
  by_cases good : 0 < ln ∧ M1.1 14 0 = 72
  · have hne : ¬ nI ln = 0 := nI_ne0 good.1 (by omega)
    have v0 : v4 = 0 := by rw [← hv, if_neg hne, hat good.1, if_pos good.2]
    subst v0
    rw [if_neg hne, if_pos good.2, if_pos rfl]
    have FX0 : FX ln 1 true (oI (oI Vr 4 ((0 : Int32) + 1)) 5 0) (oI M1 16 1) := ⟨t1, good.1, t2, e15, fun j hj => (t4 j hj).trans (e14 j).symm, rfl, rfl, by rw [← hM1]; rfl, rfl⟩
    have G0 : GR H1 (oI A 3 0) (oI M1 16 1) := by
      rw [← hH1, ← hM1]
      have ez : ∀ j, j < 27 → va_cpy (fun _ => (0 : Int32)) (M.1 6) 0 0 27 j = 0 := fun j hj => by
        have := va_cpy_in (f := fun _ => (0 : Int32)) (g := M.1 6) (sp := 0) (dp := 0) (n := 27) hj
        rw [Nat.zero_add] at this
        exact this
      have ez2 : ∀ j, j < 10 → va_cpy (fun _ => (0 : Int32)) (H.1 0) 0 0 10 j = 0 := fun j hj => by
        have := va_cpy_in (f := fun _ => (0 : Int32)) (g := H.1 0) (sp := 0) (dp := 0) (n := 10) hj
        rw [Nat.zero_add] at this
        exact this
      refine ⟨0, 0, by omega, by omega, ⟨rfl, fun k hk => by omega, fun k hk => by omega, fun k hk => by omega, fun k hk => by omega, fun c hc => ?_, ?_, ?_, ?_, ?_, ?_, fun k hk => by omega, Or.inl rfl, 0, by omega, rfl⟩, rfl, fun k hk => by omega, rfl, rfl, fun w hw => by omega, ?_, ?_⟩
      · exact (ez2 c hc).trans (ez (0 + 12 + c) (by omega)).symm
      · exact (ez 22 (by omega)).symm
      · exact (ez 23 (by omega)).symm
      · exact (ez 24 (by omega)).symm
      · exact (ez 25 (by omega)).symm
      · exact (ez 26 (by omega)).symm
      · refine b_ext fun i hi => ?_
        have e2 := p_treeBits (H := oI (oI (oI (oI (oI (oI (oA H 0 (va_cpy (fun _ => 0) (H.1 0) 0 0 10)) 5 0) 6 0) 7 0) 8 0) 9 0) 10 0) hi
        cases e : bt (f_X2_treeCells (oI (oI (oI (oI (oI (oI (oA H 0 (va_cpy (fun _ => 0) (H.1 0) 0 0 10)) 5 0) 6 0) 7 0) 8 0) 9 0) 10 0)) i
        · exact b_0 i
        · have q := e2.mp e
          have q2 : ¬ va_cpy (fun _ => (0 : Int32)) (H.1 0) 0 0 10 i ≤ 0 := q.2
          rw [ez2 i q.1] at q2
          exact absurd (by decide) q2
      · rfl
    have L := p_textLoop 63 1 N 0 N' _ _ _ _ (by omega) (by omega) (by omega) FX0 G0
    generalize lpb f_X4_firstFault_L11 N 0 (oI (oI Vr 4 ((0 : Int32) + 1)) 5 0, oI A 3 0, H1) = S at L ⊢
    obtain ⟨L1, pl', ok', L2, L3, L4⟩ := L
    generalize lpw f_X8_readText_L6 N' (oI M1 16 1) = R at L2 L3 L4 ⊢
    have K2 : KP M R := KP_trans (KP_trans K1 (KP_I _ (by omega) _)) L3
    have ok5 := FX_5 L2
    obtain ⟨f1, f2, f3, f4, f5, f6, f7⟩ := L2
    refine ⟨fun _ _ => L1, ?_⟩
    have TXr : TX S.1 R := ⟨ln, f1, f3, f4, f5⟩
    cases ok' with
    | true =>
      rw [if_pos (ok5.1.mp rfl)]
      exact ⟨(ok5.2.mp rfl).symm, TXr, K2, fun _ => L4 rfl⟩
    | false =>
      have n5 : ¬ S.1.2.1 5 = 0 := fun q => by cases ok5.1.mpr q
      obtain ⟨q1, q2⟩ : S.1.2.1 5 = 1 ∧ R.2.1 17 = nI pl' := f7
      rw [if_neg n5]
      refine ⟨?_, TXr, K2, fun q => ?_⟩
      · show S.1.2.1 4 = R.2.1 17
        rw [f6, q2]
      · cases ok5.2.mpr q
  · have v1 : v4 = 1 := by
      rw [← hv]
      by_cases h0 : ln = 0
      · rw [h0, if_pos (by decide : nI 0 = (0 : Int32))]
      · rw [if_neg (nI_ne0 (by omega) (by omega)), hat (by omega), if_neg (fun q => good ⟨by omega, q⟩)]
    subst v1
    have em : (if nI ln = 0 then ((0 : Int32), M1) else if M1.1 14 0 = 72 then ((lpw f_X8_readText_L6 N' (oI M1 16 1)).2.1 17, lpw f_X8_readText_L6 N' (oI M1 16 1)) else ((0 : Int32), M1)) = ((0 : Int32), M1) := by
      by_cases h0 : nI ln = 0
      · rw [if_pos h0]
      · have hl : 0 < ln := by
          rcases Nat.eq_zero_or_pos ln with q | q
          · rw [q] at h0; exact absurd (by decide) h0
          · exact q
        rw [if_neg h0, if_neg (fun q => good ⟨hl, q⟩)]
    rw [em]
    simp only [i10, if_false]
    have e5 : ¬ (oI (oI Vr 4 0) 5 1).2.1 5 = 0 := by
      show ¬ (1 : Int32) = 0
      decide
    have el : lpb f_X4_firstFault_L11 N 0 (oI (oI Vr 4 0) 5 1, oI A 3 0, H1) = (oI (oI Vr 4 0) 5 1, oI A 3 0, H1) := by
      cases N with
      | zero => rfl
      | succ n =>
        simp only [lpb]
        unfold f_X4_firstFault_L11
        dsimp only
        rw [if_neg e5]
    rw [el]
    rw [if_neg e5]
    refine ⟨fun q1 q2 => absurd ⟨?_, q2⟩ good, rfl, ⟨ln, t1, t2, e15, fun j hj => (t4 j hj).trans (e14 j).symm⟩, K1, fun q => absurd q (by decide)⟩
    rcases Nat.eq_zero_or_pos ln with q | q
    · rw [q] at q1; exact absurd (by decide) q1
    · exact q
