theorem p_clr8 (M : OV) : lpu f_X8_readText_L1 27 0 M = oA M 6 (va_cpy (fun _ => 0) (M.1 6) 0 0 27) := by
  refine p_cpy (dst := 0) (sp := 0) (src := fun _ => 0) _ (fun i f hi _ => ?_)
  unfold f_X8_readText_L1
  rw [oA_rd, oA_oA, nI_clamp (by omega), Nat.zero_add]
theorem p_clr2 (H : OV) : f_X2_clear H = oI (oI (oI (oI (oI (oI (oA H 0 (va_cpy (fun _ => 0) (H.1 0) 0 0 10)) 5 0) 6 0) 7 0) 8 0) 9 0) 10 0 := by
  unfold f_X2_clear
  dsimp only [kAp]
  have e : lpu f_X2_clear_L1 10 0 H = oA H 0 (va_cpy (fun _ => 0) (H.1 0) 0 0 10) := by
    refine p_cpy (dst := 0) (sp := 0) (src := fun _ => 0) _ (fun i f hi _ => ?_)
    unfold f_X2_clear_L1
    rw [oA_rd, oA_oA, nI_clamp (by omega), Nat.zero_add]
  rw [show cN (nI 10) = 10 from rfl, e]
theorem p_text {Vr H A M : OV} (hT : TX Vr M) : d_X8_readText M ∧ (f_X4_firstFault Vr H A).1 = (f_X8_readText M).1 ∧ TX (f_X4_firstFault Vr H A).2.1 (f_X8_readText M).2 ∧ KP M (f_X8_readText M).2 ∧ ((f_X8_readText M).1 = -9 → GR (f_X4_firstFault Vr H A).2.2.1 (f_X4_firstFault Vr H A).2.2.2 (f_X8_readText M).2) := by
  obtain ⟨ln, t1, t2, t3, t4⟩ := hT
  have K0 : KP M (oI (oI (oI (oI (oI (oI M 10 0) 11 0) 12 0) 13 0) 16 0) 17 (-9)) := KP_trans (KP_trans (KP_trans (KP_trans (KP_trans (KP_I M (by omega) _) (KP_I _ (by omega) _)) (KP_I _ (by omega) _)) (KP_I _ (by omega) _)) (KP_I _ (by omega) _)) (KP_I _ (by omega) _)
  unfold d_X8_readText f_X4_firstFault f_X8_readText
  rw [show cN (27 : Int32) = 27 from rfl, show cN (64 : Int32) = 64 from rfl]
  obtain ⟨N, hN⟩ : ∃ N, N = 64 := ⟨_, rfl⟩
  obtain ⟨N', hN'⟩ : ∃ N', N' = 70 := ⟨_, rfl⟩
  rw [← hN, ← hN']
  dsimp only [kAp]
  rw [p_clr8, p_clr2, t2]
  generalize hM1 : oA (oI (oI (oI (oI (oI (oI M 10 0) 11 0) 12 0) 13 0) 16 0) 17 (-9)) 6 (va_cpy (fun _ => 0) ((oI (oI (oI (oI (oI (oI M 10 0) 11 0) 12 0) 13 0) 16 0) 17 (-9)).1 6) 0 0 27) = M1
  generalize hH1 : oI (oI (oI (oI (oI (oI (oA H 0 (va_cpy (fun _ => 0) (H.1 0) 0 0 10)) 5 0) 6 0) 7 0) 8 0) 9 0) 10 0 = H1
  have K1 : KP M M1 := by rw [← hM1]; exact KP_trans K0 (KP_A _ (by omega) _)
  have e15 : M1.2.1 15 = nI ln := (K1.2.2 15 (by omega)).trans t3
  have e14 : ∀ j, M1.1 14 j = M.1 14 j := fun j => by rw [K1.1 14 (by omega) (by omega) (by omega) (by omega)]
  sorry
