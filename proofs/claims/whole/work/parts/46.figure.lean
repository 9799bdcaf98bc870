/-- THE TEXT as far as it was read: letters, place, fault -/
def FX (ln pl : Nat) (ok : Bool) (Vr M : OV) : Prop := ln ≤ 64 ∧ pl ≤ ln ∧ Vr.2.1 3 = nI ln ∧ M.2.1 15 = nI ln ∧ (∀ j, j < ln → Vr.1 0 j = M.1 14 j) ∧ Vr.2.1 4 = nI pl ∧
  (if ok = true then Vr.2.1 5 = 0 ∧ M.2.1 17 = -9 ∧ M.2.1 16 = nI pl else Vr.2.1 5 = 1 ∧ M.2.1 17 = nI pl)
/-- what a figure leaves as it was -/
def KF (M M' : OV) : Prop := M'.1 = M.1 ∧ M'.2.2 = M.2.2 ∧ ∀ k, k ≠ 16 → k ≠ 17 → M'.2.1 k = M.2.1 k
theorem KF_rfl (M : OV) : KF M M := ⟨rfl, rfl, fun _ _ _ => rfl⟩
theorem KF_trans {M M' M'' : OV} (h : KF M M') (h' : KF M' M'') : KF M M'' := ⟨h'.1.trans h.1, h'.2.1.trans h.2.1, fun k h1 h2 => (h'.2.2 k h1 h2).trans (h.2.2 k h1 h2)⟩
theorem KF_16 (M : OV) (x : Int32) : KF M (oI M 16 x) := ⟨rfl, rfl, fun _ h _ => va_up_ne _ _ h⟩
theorem KF_17 (M : OV) (x : Int32) : KF M (oI M 17 x) := ⟨rfl, rfl, fun _ _ h => va_up_ne _ _ h⟩
/-- a figure on the class's side, the number being told -/
theorem p_fig4 {V : OV} {a : Int32} (h5 : V.2.1 5 = 0) {ln pl : Nat} (hl : ln ≤ 64) (hp : pl ≤ ln) (h3 : V.2.1 3 = nI ln) (h4 : V.2.1 4 = nI pl) :
    (f_X4_figure V a = ((0 : Int32), oI V 5 1) ∧ (pl < ln → ∀ z, z < 10 → V.1 0 pl - (48 : Int32) = nI z → bt a z = false)) ∨ (∃ z, z < 10 ∧ pl < ln ∧ V.1 0 pl - (48 : Int32) = nI z ∧ bt a z = true ∧ f_X4_figure V a = (nI z, oI V 4 (nI (pl + 1)))) := by
  unfold f_X4_figure
  rw [if_pos h5, h3, h4]
  by_cases q : pl < ln
  · rw [if_neg (nI_ge q (by omega)), p_at1 _ (by omega) (by omega : pl < 64)]
    generalize V.1 0 pl - (48 : Int32) = v
    have z0 : (0 : Int32).toInt = 0 := rfl
    have z9 : (9 : Int32).toInt = 9 := rfl
    by_cases hv : 0 ≤ v.toInt ∧ v.toInt < 10
    · obtain ⟨z, hz, rfl⟩ := p_cell hv.1 (n := 10) hv.2 (by omega)
      have hn9 : ¬ (9 : Int32) < nI z := nI_nlt (b := z) (a := 9) (by omega) (by omega)
      rw [if_neg (nI_pos (by omega)), if_neg hn9, p_X7bit _ (by omega : z < 32), nI_1]
      cases hb : bt a z
      · left
        rw [if_neg (by decide : ¬ false = true), if_pos rfl]
        refine ⟨rfl, fun _ y hy e => ?_⟩
        rw [← (nI_eq (by omega) (by omega)).mp e]; exact hb
      · right
        rw [if_pos rfl, if_neg (by decide : ¬ (1 : Int32) = 0)]
        exact ⟨z, hz, q, rfl, hb, rfl⟩
    · left
      refine ⟨?_, fun _ y hy e => ?_⟩
      · by_cases q1 : v < 0
        · rw [if_pos q1]
        · have q2 : (9 : Int32) < v := by
            rw [Int32.lt_iff_toInt_lt, z0] at q1
            rw [Int32.lt_iff_toInt_lt, z9]; omega
          rw [if_neg q1, if_pos q2]
      · rw [e, nI_toInt (by omega)] at hv; omega
  · rw [if_pos (nI_le (by omega) (by omega))]
    exact Or.inl ⟨rfl, fun h => absurd h q⟩
theorem p_m9 (lo hi : Nat) (h : hi < 10) : f_X8_in ((-9 : Int32).toInt64) ((nI lo).toInt64) ((nI hi).toInt64) = 0 ∨ 2 ^ 31 ≤ lo := by
  by_cases hl : lo < 2 ^ 31
  · left
    rw [p_in, if_neg]
    have z9 : (-9 : Int32).toInt = -9 := rfl
    rw [Int32.toInt_toInt64, Int32.toInt_toInt64, nI_toInt hl, z9]
    omega
  · right; omega
/-- a figure on both sides -/
def FG (ln pl : Nat) (ok : Bool) (Vr M : OV) (q r : Int32 × OV) (P : Nat → Prop) : Prop := ∃ pl' ok', pl ≤ pl' ∧ (ok' = true → ok = true) ∧ FX ln pl' ok' q.2 r.2 ∧ KF M r.2 ∧ (∃ z, z < 10 ∧ r.1 = nI z) ∧ (ok' = true → ∃ z, z < 10 ∧ P z ∧ q.1 = nI z ∧ r.1 = nI z)
theorem p_figure {ln pl : Nat} {ok : Bool} {Vr M : OV} (h : FX ln pl ok Vr M) (a : Int32) (lo hi : Nat) (hlo : lo < 10) (hhi : hi < 10) (ha : ∀ z, z < 10 → (bt a z = true ↔ lo ≤ z ∧ z ≤ hi)) :
    d_X8_figure M (nI lo) (nI hi) ∧ FG ln pl ok Vr M (f_X4_figure Vr a) (f_X8_figure M (nI lo) (nI hi)) (fun z => lo ≤ z ∧ z ≤ hi) := by
  have hF := h
  obtain ⟨h1, h2, h3, h4, h5, h6, h7⟩ := h
  have m9 : f_X8_in ((-9 : Int32).toInt64) ((nI lo).toInt64) ((nI hi).toInt64) = 0 := by
    rcases p_m9 lo hi hhi with q | q
    · exact q
    · omega
  cases ok with
  | false =>
    obtain ⟨k1, k2⟩ : Vr.2.1 5 = 1 ∧ M.2.1 17 = nI pl := h7
    have ne9 : ¬ M.2.1 17 = -9 := by
      rw [k2]; intro q
      have : (nI pl).toInt = (-9 : Int32).toInt := by rw [q]
      rw [nI_toInt (by omega)] at this
      have z9 : (-9 : Int32).toInt = -9 := rfl
      omega
    have e1 : f_X4_figure Vr a = ((0 : Int32), oI Vr 5 1) := by
      unfold f_X4_figure
      rw [k1, if_neg (by decide : ¬ (1 : Int32) = 0)]
    have e2 : f_X8_figure M (nI lo) (nI hi) = (nI lo, M) := by
      unfold f_X8_figure
      dsimp only [kAp]
      rw [if_neg ne9, m9, if_pos rfl, if_neg ne9]
    refine ⟨fun q => absurd q ne9, ?_⟩
    rw [e1, e2]
    exact ⟨pl, false, Nat.le_refl _, fun q => q, ⟨h1, h2, h3, h4, h5, h6, rfl, k2⟩, KF_rfl M, ⟨lo, hlo, rfl⟩, fun q => by cases q⟩
  | true =>
    obtain ⟨k1, k2, k3⟩ : Vr.2.1 5 = 0 ∧ M.2.1 17 = -9 ∧ M.2.1 16 = nI pl := h7
    have hD : d_X8_figure M (nI lo) (nI hi) := by
      intro _ q
      rw [k3, h4] at q
      rw [k3]
      refine vp_in_nI ?_ (by omega)
      rcases Nat.lt_or_ge pl 64 with w | w
      · exact w
      · exact absurd (nI_le (by omega) (by omega)) q
    have e0 : f_X8_figure M (nI lo) (nI hi) = (if f_X8_in ((if nI ln ≤ nI pl then (-9 : Int32) else M.1 14 pl - (48 : Int32)).toInt64) ((nI lo).toInt64) ((nI hi).toInt64) = 0 then (nI lo, oI M 17 (nI pl)) else ((if nI ln ≤ nI pl then (-9 : Int32) else M.1 14 pl - (48 : Int32)), oI M 16 (nI (pl + 1)))) := by
      unfold f_X8_figure
      dsimp only [kAp]
      rw [if_pos k2, if_pos k2, h4, k3, nI_clamp (by omega), nI_1]
    refine ⟨hD, ?_⟩
    have bad : FG ln pl true Vr M ((0 : Int32), oI Vr 5 1) (nI lo, oI M 17 (nI pl)) (fun z => lo ≤ z ∧ z ≤ hi) :=
      ⟨pl, false, Nat.le_refl _, fun _ => rfl, ⟨h1, h2, h3, h4, h5, h6, rfl, rfl⟩, KF_17 M _, ⟨lo, hlo, rfl⟩, fun q => by cases q⟩
    rcases p_fig4 (a := a) k1 h1 h2 h3 h6 with ⟨e, q⟩ | ⟨z, hz, hpl, ez, hb, e⟩
    · rw [e, e0]
      by_cases hpl : pl < ln
      · have hn : ¬ nI ln ≤ nI pl := nI_ge hpl (by omega)
        rw [if_neg hn, p_in, Int32.toInt_toInt64, Int32.toInt_toInt64, nI_toInt (by omega : lo < 2 ^ 31), nI_toInt (by omega : hi < 2 ^ 31)]
        have : ¬ ((lo : Int) ≤ (M.1 14 pl - (48 : Int32)).toInt ∧ (M.1 14 pl - (48 : Int32)).toInt ≤ (hi : Int)) := by
          intro w
          obtain ⟨z, hz, ez⟩ := p_cell (x := M.1 14 pl - (48 : Int32)) (by omega) (n := 10) (by omega) (by omega)
          have hf := q hpl z hz (by rw [h5 pl hpl]; exact ez)
          rw [ez, nI_toInt (by omega)] at w
          rw [(ha z hz).mpr (by omega)] at hf
          cases hf
        rw [if_neg this, if_pos rfl]
        exact bad
      · have hn : nI ln ≤ nI pl := nI_le (by omega) (by omega)
        rw [if_pos hn, m9, if_pos rfl]
        exact bad
    · have hn : ¬ nI ln ≤ nI pl := nI_ge hpl (by omega)
      have ez' : M.1 14 pl - (48 : Int32) = nI z := by rw [← h5 pl hpl]; exact ez
      have hr := (ha z hz).mp hb
      have hc2 : (lo : Int) ≤ (z : Int) ∧ (z : Int) ≤ (hi : Int) := by omega
      rw [e, e0, if_neg hn, ez', p_in, Int32.toInt_toInt64, Int32.toInt_toInt64, nI_toInt (by omega : lo < 2 ^ 31), nI_toInt (by omega : hi < 2 ^ 31), nI_toInt (by omega : z < 2 ^ 31), if_pos hc2, if_neg (by decide : ¬ (1 : Int32) = 0)]
      exact ⟨pl + 1, true, by omega, fun _ => rfl, ⟨h1, by omega, h3, h4, h5, rfl, k1, k2, rfl⟩, KF_16 M _, ⟨z, hz, rfl⟩, fun _ => ⟨z, hz, hr, rfl, rfl⟩⟩
theorem p_figureOf {ln pl : Nat} {ok : Bool} {Vr M : OV} (h : FX ln pl ok Vr M) (a : Int32) :
    d_X8_figureOf M a ∧ FG ln pl ok Vr M (f_X4_figure Vr a) (f_X8_figureOf M a) (fun z => bt a z = true) := by
  have hF := h
  obtain ⟨h1, h2, h3, h4, h5, h6, h7⟩ := h
  have m9 : f_X8_in ((-9 : Int32).toInt64) 0 9 = 0 := by rw [p_in9, if_neg (by decide)]
  cases ok with
  | false =>
    obtain ⟨k1, k2⟩ : Vr.2.1 5 = 1 ∧ M.2.1 17 = nI pl := h7
    have ne9 : ¬ M.2.1 17 = -9 := by
      rw [k2]; intro q
      have : (nI pl).toInt = (-9 : Int32).toInt := by rw [q]
      rw [nI_toInt (by omega)] at this
      have z9 : (-9 : Int32).toInt = -9 := rfl
      omega
    have e1 : f_X4_figure Vr a = ((0 : Int32), oI Vr 5 1) := by
      unfold f_X4_figure
      rw [k1, if_neg (by decide : ¬ (1 : Int32) = 0)]
    have e2 : f_X8_figureOf M a = ((0 : Int32), M) := by
      unfold f_X8_figureOf
      dsimp only [kAp]
      rw [if_neg ne9, m9, if_pos rfl, if_neg ne9]
    refine ⟨fun q => absurd q ne9, ?_⟩
    rw [e1, e2]
    exact ⟨pl, false, Nat.le_refl _, fun q => q, ⟨h1, h2, h3, h4, h5, h6, rfl, k2⟩, KF_rfl M, ⟨0, by omega, rfl⟩, fun q => by cases q⟩
  | true =>
    obtain ⟨k1, k2, k3⟩ : Vr.2.1 5 = 0 ∧ M.2.1 17 = -9 ∧ M.2.1 16 = nI pl := h7
    have hD : d_X8_figureOf M a := by
      intro _ q
      rw [k3, h4] at q
      rw [k3]
      refine vp_in_nI ?_ (by omega)
      rcases Nat.lt_or_ge pl 64 with w | w
      · exact w
      · exact absurd (nI_le (by omega) (by omega)) q
    have e0 : f_X8_figureOf M a = (if f_X8_in ((if nI ln ≤ nI pl then (-9 : Int32) else M.1 14 pl - (48 : Int32)).toInt64) 0 9 = 0 then ((0 : Int32), oI M 17 (nI pl)) else (if f_X8_has a (if nI ln ≤ nI pl then (-9 : Int32) else M.1 14 pl - (48 : Int32)) = 0 then ((0 : Int32), oI M 17 (nI pl)) else ((if nI ln ≤ nI pl then (-9 : Int32) else M.1 14 pl - (48 : Int32)), oI M 16 (nI (pl + 1))))) := by
      unfold f_X8_figureOf
      dsimp only [kAp]
      rw [if_pos k2, if_pos k2, h4, k3, nI_clamp (by omega), nI_1]
    refine ⟨hD, ?_⟩
    have bad : FG ln pl true Vr M ((0 : Int32), oI Vr 5 1) ((0 : Int32), oI M 17 (nI pl)) (fun z => bt a z = true) :=
      ⟨pl, false, Nat.le_refl _, fun _ => rfl, ⟨h1, h2, h3, h4, h5, h6, rfl, rfl⟩, KF_17 M _, ⟨0, by omega, rfl⟩, fun q => by cases q⟩
    rcases p_fig4 (a := a) k1 h1 h2 h3 h6 with ⟨e, q⟩ | ⟨z, hz, hpl, ez, hb, e⟩
    · rw [e, e0]
      by_cases hpl : pl < ln
      · have hn : ¬ nI ln ≤ nI pl := nI_ge hpl (by omega)
        rw [if_neg hn, p_in9]
        by_cases w : 0 ≤ (M.1 14 pl - (48 : Int32)).toInt ∧ (M.1 14 pl - (48 : Int32)).toInt < 10
        · obtain ⟨z, hz, ez⟩ := p_cell w.1 (n := 10) w.2 (by omega)
          have hf := q hpl z hz (by rw [h5 pl hpl]; exact ez)
          rw [if_pos w, if_neg (by decide : ¬ (1 : Int32) = 0), ez, p_has _ (by omega : z < 32), hf, if_neg (by decide : ¬ false = true), if_pos rfl]
          exact bad
        · rw [if_neg w, if_pos rfl]
          exact bad
      · have hn : nI ln ≤ nI pl := nI_le (by omega) (by omega)
        rw [if_pos hn, m9, if_pos rfl]
        exact bad
    · have hn : ¬ nI ln ≤ nI pl := nI_ge hpl (by omega)
      have ez' : M.1 14 pl - (48 : Int32) = nI z := by rw [← h5 pl hpl]; exact ez
      have hc : 0 ≤ (nI z).toInt ∧ (nI z).toInt < 10 := by rw [nI_toInt (by omega)]; omega
      rw [e, e0, if_neg hn, ez', p_in9, if_pos hc, if_neg (by decide : ¬ (1 : Int32) = 0), p_has _ (by omega : z < 32), hb, if_pos rfl, if_neg (by decide : ¬ (1 : Int32) = 0)]
      exact ⟨pl + 1, true, by omega, fun _ => rfl, ⟨h1, by omega, h3, h4, h5, rfl, k1, k2, rfl⟩, KF_16 M _, ⟨z, hz, rfl⟩, fun _ => ⟨z, hz, hb, rfl, rfl⟩⟩
theorem b_sets : (∀ z, z < 10 → (bt 3 z = true ↔ 0 ≤ z ∧ z ≤ 1)) ∧ (∀ z, z < 10 → (bt 15 z = true ↔ 0 ≤ z ∧ z ≤ 3)) ∧ (∀ z, z < 10 → (bt 31 z = true ↔ 0 ≤ z ∧ z ≤ 4)) ∧ (∀ z, z < 10 → (bt 63 z = true ↔ 0 ≤ z ∧ z ≤ 5)) ∧ (∀ z, z < 10 → (bt 14 z = true ↔ 1 ≤ z ∧ z ≤ 3)) ∧ (∀ z, z < 10 → (bt 1022 z = true ↔ 1 ≤ z ∧ z ≤ 9)) := by decide +kernel
