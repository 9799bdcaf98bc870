section UNDO
variable {T co wn : Nat} {V7 Vr Vn Va Vac Vs Vsl : OV} {VHa VHs : Nat → OV} {M : OV}
theorem p_takeBack {ac ol : Nat} {Va H : OV} {VH : Nat → OV} (h1 : Va.2.1 1 = nI ol) (h2 : Va.2.1 2 = nI ac) (hac : ac ≤ 14) (h0 : 0 < ac) (hol : ol < 14) :
    f_X0_takeBack Va VH H = (nI (ac - 1), oI Va 2 (nI (ac - 1)), f_X2_copyFrom H (VH ((ol + ac - 1) % 14))) := by
  unfold f_X0_takeBack
  dsimp only [kAp]
  have e1 : nI ol + nI ac - (1 : Int32) = nI (ol + ac - 1) := by
    rw [nI_add]; exact pk_sub (b := 1) (by omega)
  have e2 : nI ac - (1 : Int32) = nI (ac - 1) := pk_sub (b := 1) (by omega)
  rw [h1, h2, e1, e2, p_mod (by omega), if_neg (nI_ne0 h0 (by omega)), if_neg (nI_pos (by omega)), if_neg (nI_ge (by omega) (by omega)), nI_clamp (by omega)]
theorem r_undo (h : RLN T co wn V7 Vr Vn Va Vac Vs Vsl VHa VHs M) : d_X8_undo M ∧ (f_X7_undo V7 Vac VHa Vn).1 = (f_X8_undo M).1 ∧
    RLN T co wn V7 Vr (f_X7_undo V7 Vac VHa Vn).2.2 Va (f_X7_undo V7 Vac VHa Vn).2.1 Vs Vsl VHa VHs (f_X8_undo M).2 := by
  have hh := h
  obtain ⟨h1, h2, h3, h4, h5, h6, h7, ⟨ac, ol, nx, c1, c2, c3, c4, c5, c6, c7, c8⟩, h9, h10, h11⟩ := h
  unfold d_X8_undo f_X7_undo f_X8_undo
  dsimp only [kAp]
  rw [c6, c7]
  by_cases h0 : ac = 0
  · subst h0
    rw [if_pos (by decide : nI 0 = (0 : Int32))]
    refine ⟨fun q => absurd rfl q, ?_⟩
    have e : f_X0_takeBack Vac VHa Vn = ((-3 : Int32), Vac, Vn) := by
      unfold f_X0_takeBack
      rw [c5, if_pos (by decide : nI 0 = (0 : Int32))]
    rw [e]
    exact ⟨rfl, hh⟩
  · have hne : ¬ nI ac = (0 : Int32) := nI_ne0 (by omega) (by omega)
    rw [if_neg hne, p_takeBack c4 c5 c1 (by omega) c2]
    have e2 : nI ac - (1 : Int32) = nI (ac - 1) := pk_sub (b := 1) (by omega)
    have e3 : nI nx + (13 : Int32) = nI (nx + 13) := nI_add nx 13
    rw [e2, e3, p_mod (by omega), show cN (27 : Int32) = 27 from rfl]
    have e : lpu f_X8_undo_L2 27 0 (oI (oI M 18 (nI (ac - 1))) 19 (nI ((nx + 13) % 14))) = oA (oI (oI M 18 (nI (ac - 1))) 19 (nI ((nx + 13) % 14))) 5 (va_cpy (M.1 20) (M.1 5) (27 * ((nx + 13) % 14)) 0 27) := by
      refine p_cpy (dst := 0) (sp := 27 * ((nx + 13) % 14)) (src := M.1 20) _ (fun i f hi _ => ?_)
      unfold f_X8_undo_L2
      rw [oA_rd, oA_oA]
      have e19 : (oA (oI (oI M 18 (nI (ac - 1))) 19 (nI ((nx + 13) % 14))) 5 f).2.1 19 = nI ((nx + 13) % 14) := rfl
      have e20 : (oA (oI (oI M 18 (nI (ac - 1))) 19 (nI ((nx + 13) % 14))) 5 f).1 20 = M.1 20 := rfl
      rw [e19, e20, ix_g (by omega), nI_clamp (by omega), Nat.zero_add]
    have eD : ∀ n, n ≤ 27 → lpuD f_X8_undo_L2 d_X8_undo_L2 n 0 (oI (oI M 18 (nI (ac - 1))) 19 (nI ((nx + 13) % 14))) := fun n hn =>
      lpuD_inv (fun _ (s : OV) => s.2.1 19 = nI ((nx + 13) % 14)) n _ rfl (fun j t hj ht => ⟨by unfold d_X8_undo_L2; rw [ht]; exact vx_g (by omega) (by omega), ht⟩)
    rw [e]
    refine ⟨fun _ => eD 27 (Nat.le_refl _), rfl, h1, h2, h3, ?_, h5, h6, h7, ?_, h9, h10, h11⟩
    · have q := c8 (ac - 1) (by omega)
      rw [show (nx + 14 - ac + (ac - 1)) % 14 = (nx + 13) % 14 by omega, show (ol + (ac - 1)) % 14 = (ol + ac - 1) % 14 by congr 1; omega] at q
      refine HR_block h1 (HR_copy h1 q _) (fun j hj => ?_)
      exact va_cpy_in (dp := 0) hj
    · refine ⟨ac - 1, ol, (nx + 13) % 14, by omega, c2, by omega, c4, rfl, rfl, rfl, fun i hi => ?_⟩
      have q := c8 i (by omega)
      rw [show ((nx + 13) % 14 + 14 - (ac - 1) + i) % 14 = (nx + 14 - ac + i) % 14 by omega]
      exact q
theorem p_vx2 {x : Int32} : f_X8_in x.toInt64 0 1 = if 0 ≤ x.toInt ∧ x.toInt < 2 then 1 else 0 := by
  have y1 : (1 : Int64).toInt = ((1 : Nat) : Int) := rfl
  have e2 : ((1 : Nat) : Int) + 1 = 2 := rfl
  rw [p_inK x 1 y1, e2]
theorem bt_1 {k : Nat} (hk : k < 32) {i : Nat} (hi : i < 32) (x : Int32) : bt (x ||| ((1 : Int32) <<< (nI k &&& 31))) i = (bt x i || decide (i = k)) := by
  rw [b_or, p_sh hk hi]
theorem r_keepS (h : RLN T co wn V7 Vr Vn Va Vac Vs Vsl VHa VHs M) (x : Int32) : d_X8_keep M x ∧ (f_X7_keep V7 Vsl VHs Vn x).1 = (f_X8_keep M x).1 ∧
    RLN T co wn V7 Vr Vn Va Vac Vs (f_X7_keep V7 Vsl VHs Vn x).2.1 VHa (f_X7_keep V7 Vsl VHs Vn x).2.2 (f_X8_keep M x).2 := by
  have hh := h
  obtain ⟨h1, h2, h3, h4, h5, h6, h7, h8, h9, h10, h11⟩ := h
  unfold d_X8_keep f_X7_keep f_X8_keep f_X6_store
  dsimp only [kAp]
  rw [p_vx2]
  by_cases hx : 0 ≤ x.toInt ∧ x.toInt < 2
  · rw [if_pos hx]
    simp only [i10, if_false]
    obtain ⟨k, hk, rfl⟩ := p_cell hx.1 (n := 2) hx.2 (by omega)
    rw [if_neg (nI_pos (by omega : k < 2 ^ 31)), if_neg (nI_ge hk (by omega)), nI_clamp (by omega : k < 2 ^ 31), show cN (27 : Int32) = 27 from rfl, show vp_nar .boolean (1 : Int32) = 1 from rfl]
    have e : lpu (f_X8_keep_L3 (nI k)) 27 0 (oA M 29 (upd (M.1 29) k 1)) = oA (oA M 29 (upd (M.1 29) k 1)) 30 (va_cpy (M.1 5) (M.1 30) 0 (27 * k) 27) := by
      refine p_cpy (sp := 0) (src := M.1 5) _ (fun i f hi _ => ?_)
      unfold f_X8_keep_L3
      rw [oA_rd, oA_oA]
      have e5 : (oA (oA M 29 (upd (M.1 29) k 1)) 30 f).1 5 = M.1 5 := rfl
      rw [e5, ix_g (by omega), nI_clamp (by omega), Nat.zero_add]
    rw [e]
    refine ⟨fun _ => ⟨vp_in_nI hk (by omega), lpuD_all 27 _ (fun j t hj => vx_g (by omega) (by omega))⟩, ?_, h1, h2, h3, h4, h5, h6, h7, h8, h9, ?_, h11⟩
    · show Vn.2.1 10 = M.1 5 26
      rw [h4.2.2.2.2.2.2.2.2.2.2.1]
    · intro i hi
      obtain ⟨q1, q2⟩ := h10 i hi
      show (bt (Vsl.2.1 1 ||| ((1 : Int32) <<< (nI k &&& 31))) i = true ↔ ¬ upd (M.1 29) k 1 i = 0) ∧ (bt (Vsl.2.1 1 ||| ((1 : Int32) <<< (nI k &&& 31))) i = true → HR T co (M.1 2) (M.1 3) (va_up VHs k (f_X2_copyFrom (VHs k) Vn) i) (va_cpy (M.1 5) (M.1 30) 0 (27 * k) 27) (27 * i))
      rw [bt_1 (by omega) (by omega), p_up]
      by_cases e : i = k
      · subst e
        rw [if_pos rfl, va_up_self]
        refine ⟨by simp, fun _ => HR_block h1 (HR_copy h1 h4 _) (fun j hj => va_cpy_in hj)⟩
      · rw [if_neg e, va_up_ne _ _ e, decide_eq_false e, Bool.or_false]
        exact ⟨q1, fun q => HR_block h1 (q2 q) (fun j hj => va_cpy_out (by omega))⟩
  · rw [if_neg hx, if_pos rfl]
    have hx' : x < 0 ∨ nI 2 ≤ x := by
      rw [Int32.lt_iff_toInt_lt, Int32.le_iff_toInt_le, nI_toInt (by omega)]
      have z0 : (0 : Int32).toInt = 0 := rfl
      rw [z0]; omega
    refine ⟨fun q => absurd rfl q, ?_⟩
    rcases hx' with q | q
    · rw [if_pos q]; exact ⟨rfl, hh⟩
    · by_cases q2 : x < 0
      · rw [if_pos q2]; exact ⟨rfl, hh⟩
      · rw [if_neg q2, if_pos q]; exact ⟨rfl, hh⟩
theorem r_again (hT : T < 2 ^ 31) (h : RLN T co wn V7 Vr Vn Va Vac Vs Vsl VHa VHs M) (x : Int32) : d_X8_again M x ∧ (f_X7_again V7 Vsl VHs Vn Vac VHa x).1 = (f_X8_again M x).1 ∧
    RLN T co wn V7 Vr (f_X7_again V7 Vsl VHs Vn Vac VHa x).2.1 Va (f_X7_again V7 Vsl VHs Vn Vac VHa x).2.2 Vs Vsl VHa VHs (f_X8_again M x).2 := by
  have hh := h
  obtain ⟨h1, h2, h3, h4, h5, h6, h7, ⟨ac, ol, nx, c1, c2, c3, c4, c5, c6, c7, c8⟩, h9, h10, h11⟩ := h
  unfold d_X8_again f_X7_again f_X8_again f_X6_fetch
  dsimp only [kAp]
  rw [p_vx2]
  by_cases hx : 0 ≤ x.toInt ∧ x.toInt < 2
  · rw [if_pos hx]
    simp only [i10, if_false]
    obtain ⟨k, hk, rfl⟩ := p_cell hx.1 (n := 2) hx.2 (by omega)
    obtain ⟨q1, q2⟩ := h10 k hk
    rw [if_neg (nI_pos (by omega : k < 2 ^ 31)), if_neg (nI_ge hk (by omega)), nI_clamp (by omega : k < 2 ^ 31), show cN (27 : Int32) = 27 from rfl, p_X7bit _ (by omega : k < 32)]
    by_cases hb : bt (Vsl.2.1 1) k = true
    · rw [if_pos hb, if_neg (q1.mp hb)]
      simp only [i10, if_false]
      have hc := HR_copy h1 (q2 hb) Vn
      have hd := hc.2.2.2.2.2.2.2.2.2.2.2.2.2
      obtain ⟨d, d1, d2⟩ := hd
      rw [d2, if_neg (nI_pos (by omega))]
      have e : lpu (f_X8_again_L4 (nI k)) 27 0 M = oA M 5 (va_cpy (M.1 30) (M.1 5) (27 * k) 0 27) := by
        refine p_cpy (dst := 0) (src := M.1 30) _ (fun i f hi _ => ?_)
        unfold f_X8_again_L4
        rw [oA_rd, oA_oA]
        have e5 : (oA M 5 f).1 30 = M.1 30 := rfl
        rw [e5, ix_g (by omega), nI_clamp (by omega), Nat.zero_add]
      rw [e]
      have hn : HR T co (M.1 2) (M.1 3) (f_X2_copyFrom Vn (VHs k)) (va_cpy (M.1 30) (M.1 5) (27 * k) 0 27) 0 := HR_block h1 hc (fun j hj => va_cpy_in (dp := 0) hj)
      refine ⟨fun _ => ⟨vp_in_nI hk (by omega), fun _ => lpuD_all 27 _ (fun j t hj => vx_g (by omega) (by omega))⟩, ?_, h1, h2, h3, hn, h5, h6, h7, ?_, h9, h10, h11⟩
      · rw [← d2, hn.2.2.2.2.2.2.2.2.2.2.1]
        rfl
      · exact ⟨0, ol, nx, by omega, c2, c3, c4, rfl, rfl, c7, fun i hi => by omega⟩
    · have hz : M.1 29 k = 0 := Classical.byContradiction (fun w => hb (q1.mpr w))
      rw [if_neg hb, if_pos rfl, if_pos hz, if_pos (by decide : (-3 : Int32) < 0)]
      exact ⟨fun _ => ⟨vp_in_nI hk (by omega), fun q => absurd hz q⟩, rfl, hh⟩
  · rw [if_neg hx, if_pos rfl]
    have hx' : x < 0 ∨ nI 2 ≤ x := by
      rw [Int32.lt_iff_toInt_lt, Int32.le_iff_toInt_le, nI_toInt (by omega)]
      have z0 : (0 : Int32).toInt = 0 := rfl
      rw [z0]; omega
    refine ⟨fun q => absurd rfl q, ?_⟩
    have m1 : (-1 : Int32) < 0 := by decide
    rcases hx' with q | q
    · rw [if_pos q, if_pos m1]; exact ⟨rfl, hh⟩
    · by_cases q2 : x < 0
      · rw [if_pos q2, if_pos m1]; exact ⟨rfl, hh⟩
      · rw [if_neg q2, if_pos q, if_pos m1]; exact ⟨rfl, hh⟩
end UNDO
