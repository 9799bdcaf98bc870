theorem p_lay (M : OV) : f_X8_layTrial M = oA M 5 (va_cpy (M.1 5) (M.1 5) 0 27 27) ∧ d_X8_layTrial M := by
  constructor
  · unfold f_X8_layTrial
    dsimp only [kAp]
    rw [show cN (27 : Int32) = 27 from rfl]
    refine p_cpy (sp := 0) (src := M.1 5) _ (fun i f hi hf => ?_)
    unfold f_X8_layTrial_L1
    have e : ((27 : Int32) + nI i).toNatClampNeg = 27 + i := by
      show (nI 27 + nI i).toNatClampNeg = _
      rw [nI_add, nI_clamp (by omega)]
    rw [oA_rd, oA_oA, e, nI_clamp (by omega), hf i (by omega), Nat.zero_add]
  · unfold d_X8_layTrial
    rw [show cN (27 : Int32) = 27 from rfl]
    refine lpuD_all 27 _ (fun i t hi => ?_)
    show vp_in (nI 27 + nI i) 54
    rw [nI_add]; exact vp_in_nI (by omega) (by omega)
theorem lpu_nI {b : Nat → Int32 → Int32} {f : Nat → Nat} : ∀ n, (∀ i, i < n → b i (nI (f i)) = nI (f (i + 1))) → lpu b n 0 (nI (f 0)) = nI (f n)
  | 0, _ => rfl
  | n + 1, h => by rw [lpu_snoc, Nat.zero_add, lpu_nI n (fun i hi => h i (by omega)), h n (by omega)]
theorem p_ten (n : Nat) (hn : n < 2 ^ 31) : f_X8_tenTo (nI n) = nI (10 ^ n) := by
  unfold f_X8_tenTo
  dsimp only [kAp]
  rw [cN_nI hn]
  exact lpu_nI (f := fun i => 10 ^ i) n (fun i hi => by
    unfold f_X8_tenTo_L1
    show nI (10 ^ i) * nI 10 = nI (10 ^ (i + 1))
    rw [pk_mul, Nat.pow_succ])
theorem p_cut {r : Nat} (hr : r < 2 ^ 31) (n : Nat) (hn : n < 2 ^ 31) : f_X7_cutFigures (nI r) (nI n) = nI (r / 10 ^ n) := by
  unfold f_X7_cutFigures
  dsimp only [kAp]
  rw [cN_nI hn]
  have h := lpu_nI (b := f_X7_cutFigures_L1) (f := fun i => r / 10 ^ i) n (fun i hi => by
    unfold f_X7_cutFigures_L1
    have hle : r / 10 ^ i ≤ r := Nat.div_le_self _ _
    show nI (r / 10 ^ i) / nI 10 = nI (r / 10 ^ (i + 1))
    rw [pk_div (by omega) (by omega) (by omega), Nat.pow_succ, Nat.div_div_eq_div_mul])
  simpa using h
theorem p_106 : ∀ n, n < 7 → 1 ≤ 10 ^ n ∧ 10 ^ n ≤ 1000000 := by decide
section JUDGE
variable {T co wn : Nat} {V7 Vr Vn Va Vac Vs Vsl Vt : OV} {VHa VHs : Nat → OV} {M : OV}
/-- a trial on both sides -/
def TRl (T co : Nat) (M H M' : OV) : Prop := ∃ f, M' = oA M 5 f ∧ (∀ j, j < 27 → f j = M.1 5 j) ∧ HR T co (M.1 2) (M.1 3) H f 27
theorem TRl_RLN {H M' : OV} (h : RLN T co wn V7 Vr Vn Va Vac Vs Vsl VHa VHs M) {T' : Nat} (t : TRl T' co M H M') : RLN T co wn V7 Vr Vn Va Vac Vs Vsl VHa VHs M' := by
  obtain ⟨f, rfl, h2, h3⟩ := t
  exact RL_set h (HR_block h.1 h.2.2.2.1 (fun j hj => by rw [Nat.zero_add]; exact h2 j hj))
theorem TRl_lay (h : RLN T co wn V7 Vr Vn Va Vac Vs Vsl VHa VHs M) : TRl T co M (f_X2_copyFrom Vt Vn) (f_X8_layTrial M) := by
  refine ⟨_, (p_lay M).1, fun j hj => va_cpy_out (by omega), ?_⟩
  exact HR_copy h.1 (HR_block h.1 h.2.2.2.1 (fun j hj => va_cpy_in hj)) _
theorem TRl_blow {T' w : Nat} {H M' : OV} (h : RLN T co wn V7 Vr Vn Va Vac Vs Vsl VHa VHs M) (t : TRl T' co M H M') (hw : w < wn) :
    d_X8_blowOn M' 1 (nI w) ∧ TRl (T' + 1) co M (f_X1_blowOver Va H (nI w)).2 (f_X8_blowOn M' 1 (nI w)) ∧ (f_X1_blowOver Va H (nI w)).1 = (f_X8_blowOn M' 1 (nI w)).1 5 52 := by
  obtain ⟨f, rfl, t2, t3⟩ := t
  obtain ⟨h1, h2, h3, h4, h5, h6, h7, h8⟩ := h
  have h7' : AR wn Va (oA M 5 f) := h7
  have t3' : HR T' co ((oA M 5 f).1 2) ((oA M 5 f).1 3) H ((oA M 5 f).1 5) (27 * 1) := by rw [oA_rd]; exact t3
  obtain ⟨b1, g, b2, b3, b4, b5⟩ := p_blow (lv := 1) (w := w) t3' h5 h6 h7' (by omega) h1 h2 hw
  have b2' : f_X8_blowOn (oA M 5 f) 1 (nI w) = oA M 5 g := by rw [oA_oA] at b2; exact b2
  refine ⟨b1, ⟨g, b2', fun j hj => ?_, b3⟩, ?_⟩
  · rw [b5 j (by omega), oA_rd]; exact t2 j hj
  · rw [b4, b2', oA_rd]
theorem r_judge (h : RLN T co wn V7 Vr Vn Va Vac Vs Vsl VHa VHs M) (x y : Int32) : d_X8_judge M x y ∧ (f_X7_judge V7 Vt Vn Va x y).1 = (f_X8_judge M x y).1 ∧ RLN T co wn V7 Vr Vn Va Vac Vs Vsl VHa VHs (f_X8_judge M x y).2 := by
  have hh := h
  obtain ⟨h1, h2, h3, h4, h5, h6, h7, h8⟩ := h
  have z0 : (0 : Int32).toInt = 0 := rfl
  have z1 : (1 : Int32).toInt = 1 := rfl
  have z6 : (6 : Int32).toInt = 6 := rfl
  have l0 : (0 : Int64).toInt = 0 := rfl
  have l1 : (1 : Int64).toInt = 1 := rfl
  have l6 : (6 : Int64).toInt = 6 := rfl
  unfold d_X8_judge f_X7_judge f_X8_judge
  dsimp only [kAp]
  rw [p_in x, l1, l6]
  by_cases hx : 1 ≤ x.toInt ∧ x.toInt ≤ 6
  · rw [if_pos hx, if_neg (fun q => by rw [Int32.lt_iff_toInt_lt, z1] at q; omega : ¬ x < 1), if_neg (fun q => by rw [Int32.lt_iff_toInt_lt, z6] at q; omega : ¬ 6 < x)]
    simp only [i10, if_false]
    obtain ⟨n, hn, rfl⟩ := p_cell (x := x) (by omega) (n := 7) (by omega) (by omega)
    have hn1 : 1 ≤ n := by
      have := hx.1
      rw [nI_toInt (by omega)] at this
      omega
    have hten := p_106 n hn
    rw [p_ten n (by omega)]
    have e1 : nI (10 ^ n) - (1 : Int32) = nI (10 ^ n - 1) := pk_sub (b := 1) hten.1
    rw [e1, p_in y, l0, Int32.toInt_toInt64, nI_toInt (by omega)]
    by_cases hy0 : y < 0
    · have hy1 : ¬ (0 ≤ y.toInt ∧ y.toInt ≤ ((10 ^ n - 1 : Nat) : Int)) := by
        rw [Int32.lt_iff_toInt_lt, z0] at hy0; omega
      rw [if_pos hy0, if_neg hy1, if_pos rfl]
      exact ⟨fun _ q => absurd rfl q, rfl, hh⟩
    · rw [if_neg hy0]
      obtain ⟨r, hr, rfl⟩ := nI_of hy0
      rw [p_cut hr n (by omega), nI_toInt hr]
      by_cases hlt : r < 10 ^ n
      · have hc : (0 : Int) ≤ (r : Int) ∧ (r : Int) ≤ ((10 ^ n - 1 : Nat) : Int) := by omega
        have hd : nI (r / 10 ^ n) ≤ 0 := by rw [Nat.div_eq_of_lt hlt]; decide
        rw [if_pos hc, if_pos hd]
        simp only [i10, if_false]
        rw [cN_nI (by omega)]
        have Tl := TRl_lay (Vt := Vt) hh
        have dig : ∀ j, j < n → f_X7_cutFigures (nI r) ((nI n - (1 : Int32)) - nI j) - f_X7_cutFigures (nI r) ((nI n - (1 : Int32)) - nI j) / (10 : Int32) * (10 : Int32) = nI (r / 10 ^ (n - 1 - j) % 10) ∧ (nI r / f_X8_tenTo ((nI n - (1 : Int32)) - nI j)) - (nI r / f_X8_tenTo ((nI n - (1 : Int32)) - nI j)) / (10 : Int32) * (10 : Int32) = nI (r / 10 ^ (n - 1 - j) % 10) ∧ ¬ f_X8_tenTo ((nI n - (1 : Int32)) - nI j) = 0 := by
          intro j hj
          have e2 : (nI n - (1 : Int32)) - nI j = nI (n - 1 - j) := by
            have : nI n - (1 : Int32) = nI (n - 1) := pk_sub (b := 1) hn1
            rw [this, pk_sub (by omega)]
          have hp := p_106 (n - 1 - j) (by omega)
          have hle : r / 10 ^ (n - 1 - j) ≤ r := Nat.div_le_self _ _
          rw [e2, p_cut hr _ (by omega), p_ten _ (by omega), pk_div hr (by omega) (by omega)]
          refine ⟨?_, ?_, nI_ne0 (by omega) (by omega)⟩
          · exact pk_rem (d := 10) (by omega) (by omega) (by omega)
          · exact pk_rem (d := 10) (by omega) (by omega) (by omega)
        have hdg : ∀ j, r / 10 ^ (n - 1 - j) % 10 < 10 := fun j => Nat.mod_lt _ (by omega)
        have hW : ∀ H M' j, TRl (T + j) co M H M' → f_X8_isWind M' (nI (r / 10 ^ (n - 1 - j) % 10)) = f_X1_hasWind Va (nI (r / 10 ^ (n - 1 - j) % 10)) := fun H M' j t => by
          obtain ⟨f, rfl, -, -⟩ := t
          rw [p_hasW h7.1 h2, p_isW (M := oA M 5 f) h7.2.1 h2]
        have step : ∀ j H M', j < n → TRl (T + j) co M H M' → ((f_X1_hasWind Va (nI (r / 10 ^ (n - 1 - j) % 10)) = 0) ∨ (¬ f_X1_hasWind Va (nI (r / 10 ^ (n - 1 - j) % 10)) = 0 ∧ r / 10 ^ (n - 1 - j) % 10 < wn)) := fun j H M' hj t => by
          have := hdg j
          rw [p_hasW h7.1 h2, nI_toInt (by omega)]
          by_cases q : r / 10 ^ (n - 1 - j) % 10 < wn
          · rw [if_pos (by omega)]; exact Or.inr ⟨by decide, q⟩
          · rw [if_neg (by omega)]; exact Or.inl rfl
        have hsim := lpx_sim (b1 := f_X7_judge_L6 Va (nI n) (nI r)) (b2 := f_X8_judge_L5 (nI n) (nI r)) (fun j H M' => TRl (T + j) co M H M') (fun (p : Int32 × OV) (q : Int32 × OV) => p.1 = q.1 ∧ ∃ T', TRl T' co M p.2 q.2) n _ _ Tl (fun j H M' hj t => by
          unfold f_X7_judge_L6 f_X8_judge_L5
          dsimp only [kAp]
          rw [(dig j hj).1, (dig j hj).2.1, hW H M' j t]
          rcases step j H M' hj t with q | ⟨q1, q2⟩
          · rw [if_pos q, if_pos q]; exact ⟨rfl, _, t⟩
          · rw [if_neg q1, if_neg q1]
            obtain ⟨b1, b2, b3⟩ := TRl_blow hh t q2
            have b3' : (f_X8_blowOn M' 1 (nI (r / 10 ^ (n - 1 - j) % 10))).1 5 (52 : Int32).toNatClampNeg = (f_X1_blowOver Va H (nI (r / 10 ^ (n - 1 - j) % 10))).1 := b3.symm
            rw [b3']
            by_cases q : (f_X1_blowOver Va H (nI (r / 10 ^ (n - 1 - j) % 10))).1 = 0
            · rw [if_pos q, if_pos q]; exact b2
            · rw [if_neg q, if_neg q]; exact ⟨rfl, _, b2⟩)
        refine ⟨fun _ _ => ⟨(p_lay M).2, ?_⟩, ?_⟩
        · refine lpxD_inv (fun j M' => ∃ H, TRl (T + j) co M H M') n _ ⟨_, Tl⟩ (fun j M' hj ⟨H, t⟩ => ?_)
          unfold d_X8_judge_L5 f_X8_judge_L5
          dsimp only [kAp]
          rw [(dig j hj).2.1, hW H M' j t]
          rcases step j H M' hj t with q | ⟨q1, q2⟩
          · refine ⟨⟨(dig j hj).2.2, fun w => absurd q w⟩, fun t' ht' => ?_⟩
            rw [if_pos q] at ht'; cases ht'
          · obtain ⟨b1, b2, b3⟩ := TRl_blow hh t q2
            refine ⟨⟨(dig j hj).2.2, fun _ => b1⟩, fun t' ht' => ?_⟩
            rw [if_neg q1] at ht'
            split at ht'
            · cases ht'; exact ⟨_, b2⟩
            · cases ht'
        · generalize lpx (f_X7_judge_L6 Va (nI n) (nI r)) n 0 (f_X2_copyFrom Vt Vn) = A at hsim
          generalize lpx (f_X8_judge_L5 (nI n) (nI r)) n 0 (f_X8_layTrial M) = B at hsim
          cases A with
          | inl a =>
            cases B with
            | inl b => exact ⟨rfl, TRl_RLN hh hsim⟩
            | inr b => exact hsim.elim
          | inr a =>
            cases B with
            | inl b => exact hsim.elim
            | inr b =>
              obtain ⟨q1, T', q2⟩ := hsim
              exact ⟨q1, TRl_RLN hh q2⟩
      · have hc : ¬ ((0 : Int) ≤ (r : Int) ∧ (r : Int) ≤ ((10 ^ n - 1 : Nat) : Int)) := by omega
        have hle : r / 10 ^ n ≤ r := Nat.div_le_self _ _
        have hd : ¬ nI (r / 10 ^ n) ≤ 0 := nI_nle (Nat.div_pos (by omega) hten.1) (by omega)
        rw [if_neg hc, if_neg hd, if_pos rfl]
        exact ⟨fun _ q => absurd rfl q, rfl, hh⟩
  · rw [if_neg hx, if_pos rfl]
    refine ⟨fun q => absurd rfl q, ?_⟩
    by_cases q1 : x < 1
    · rw [if_pos q1]; exact ⟨rfl, hh⟩
    · have q2 : 6 < x := by
        rw [Int32.lt_iff_toInt_lt, z1] at q1
        rw [Int32.lt_iff_toInt_lt, z6]; omega
      rw [if_neg q1, if_pos q2]; exact ⟨rfl, hh⟩
end JUDGE
