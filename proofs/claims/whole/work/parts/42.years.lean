theorem p_sh33 (u : Int64) : ∃ k, k < 2 ^ 31 ∧ (u.toUInt64 >>> ((33 : Int32).toInt64.toUInt64 &&& Int64.toUInt64 63)).toInt64 = lN k := by
  have hu : u.toBitVec.toNat < 2 ^ 64 := u.toBitVec.isLt
  refine ⟨u.toBitVec.toNat / 2 ^ 33, by omega, ?_⟩
  apply Int64.toBitVec_inj.mp
  show (u.toUInt64 >>> ((33 : Int32).toInt64.toUInt64 &&& Int64.toUInt64 63)).toBitVec = BitVec.ofNat 64 (u.toBitVec.toNat / 2 ^ 33)
  rw [UInt64.toBitVec_shiftRight]
  show u.toBitVec >>> (((33 : Int32).toInt64.toUInt64 &&& Int64.toUInt64 63).toBitVec % 64).toNat = BitVec.ofNat 64 (u.toBitVec.toNat / 2 ^ 33)
  rw [show (((33 : Int32).toInt64.toUInt64 &&& Int64.toUInt64 63).toBitVec % 64).toNat = 33 from by decide +kernel]
  apply BitVec.eq_of_toNat_eq
  rw [BitVec.toNat_ushiftRight, BitVec.toNat_ofNat, Nat.shiftRight_eq_div_pow, Nat.mod_eq_of_lt (by omega)]
theorem p_left (u : Int64) {S : Nat} (h1 : 1 ≤ S) (h2 : S ≤ 1000) : ∃ l, l < S ∧ (((u.toUInt64 >>> ((33 : Int32).toInt64.toUInt64 &&& Int64.toUInt64 63)).toInt64) - ((u.toUInt64 >>> ((33 : Int32).toInt64.toUInt64 &&& Int64.toUInt64 63)).toInt64) / ((nI S).toInt64) * ((nI S).toInt64)).toInt32 = nI l := by
  obtain ⟨k, hk, e⟩ := p_sh33 u
  rw [e, nI_l (by omega), pk_lRem (by omega) (by omega) (by omega), lN_i]
  exact ⟨k % S, Nat.mod_lt _ (by omega), rfl⟩
/-- days laid one behind the other -/
def sD (f : Nat → Nat) : Nat → Nat
  | 0 => 0
  | n + 1 => sD f n + f n
theorem sD_mono (f : Nat → Nat) {i j : Nat} (h : i ≤ j) : sD f i ≤ sD f j := by
  induction h with
  | refl => exact Nat.le_refl _
  | step _ ih => exact Nat.le_trans ih (Nat.le_add_right _ _)
theorem sD_le {f : Nat → Nat} : ∀ n, (∀ i, i < n → 1 ≤ f i ∧ f i < 10) → n ≤ sD f n ∧ sD f n ≤ 9 * n
  | 0, _ => ⟨Nat.le_refl _, Nat.le_refl _⟩
  | n + 1, h => by
    have ih := sD_le n (fun i hi => h i (by omega))
    have := h n (by omega)
    show n + 1 ≤ sD f n + f n ∧ sD f n + f n ≤ 9 * (n + 1)
    omega
theorem oL_oL (V : OV) (k : Nat) (x y : Int64) : oL (oL V k x) k y = oL V k y := by
  unfold oL
  refine Prod.ext rfl (Prod.ext rfl (funext fun j => ?_))
  show va_up (va_up V.2.2 k x) k y j = va_up V.2.2 k y j
  unfold va_up
  by_cases h : j = k <;> simp [h]
theorem oL_self (V : OV) (k : Nat) : oL V k (V.2.2 k) = V := by
  unfold oL
  refine Prod.ext rfl (Prod.ext rfl (funext fun j => ?_))
  show va_up V.2.2 k (V.2.2 k) j = V.2.2 j
  unfold va_up
  by_cases h : j = k <;> simp [h]
theorem oL_rd (V : OV) (k : Nat) (x : Int64) : (oL V k x).2.2 k = x := by
  show va_up V.2.2 k x k = x
  simp [va_up]
theorem lpub_sim {σ τ : Type} {b1 : Nat → σ → σ} {b2 : Nat → τ → τ ⊕ τ} (I : Nat → σ → τ → Prop) : ∀ (n i : Nat) (s : σ) (t : τ), I i s t → (∀ j x y, i ≤ j → j < i + n → I j x y → ∃ y', b2 j y = .inl y' ∧ I (j + 1) (b1 j x) y') → I (i + n) (lpu b1 n i s) (lpb b2 n i t)
  | 0, _, _, _, h, _ => h
  | n + 1, i, s, t, h, hs => by
    obtain ⟨y', e, h1⟩ := hs i s t (Nat.le_refl _) (by omega) h
    have h2 := lpub_sim I n (i + 1) (b1 i s) y' h1 (fun j x y h1 h2 => hs j x y (by omega) (by omega))
    rw [show i + 1 + n = i + (n + 1) by omega] at h2
    simp only [lpb]
    rw [e]
    exact h2
section YEARS
variable {T co wn : Nat} {V7 Vr Vn Va Vac Vs Vsl Vt : OV} {VHa VHs : Nat → OV} {M : OV}
theorem p_dayN (h7 : AR wn Va M) : ∃ f : Nat → Nat, (∀ i, i < wn → 1 ≤ f i ∧ f i < 10) ∧ (∀ i, i < wn → M.1 4 (3 * i + 2) = nI (f i)) := by
  refine ⟨fun i => (M.1 4 (3 * i + 2)).toInt.toNat, fun i hi => ?_, fun i hi => ?_⟩
  · obtain ⟨d, d1, d2, e⟩ := h7.2.2.2.2.2 i hi
    show 1 ≤ (M.1 4 (3 * i + 2)).toInt.toNat ∧ (M.1 4 (3 * i + 2)).toInt.toNat < 10
    rw [e, nI_toInt (by omega)]; omega
  · obtain ⟨d, d1, d2, e⟩ := h7.2.2.2.2.2 i hi
    show _ = nI (M.1 4 (3 * i + 2)).toInt.toNat
    rw [e, nI_toInt (by omega)]; rfl
theorem p_daysIn (h7 : AR wn Va M) (h2 : wn ≤ 4) {f : Nat → Nat} (hf : ∀ i, i < wn → M.1 4 (3 * i + 2) = nI (f i)) : f_X1_daysInAll Va = nI (sD f wn) ∧ ∀ M' : OV, M'.1 4 = M.1 4 → lpu (f_X8_years_L4 M') wn 0 0 = nI (sD f wn) := by
  constructor
  · unfold f_X1_daysInAll
    dsimp only [kAp]
    rw [h7.1, cN_nI (by omega)]
    refine lpu_nI (f := sD f) wn (fun i hi => ?_)
    unfold f_X1_daysInAll_L1
    rw [p_at1 _ (by omega) (by omega : i < 4), h7.2.2.2.2.1 i hi, hf i hi, nI_add]
    rfl
  · intro M' hM'
    refine lpu_nI (f := sD f) wn (fun i hi => ?_)
    unfold f_X8_years_L4
    rw [iw_2 (by omega), hM', hf i hi, nI_add]
    rfl
/-- the wind of a day -/
theorem p_windOf (h7 : AR wn Va M) (h2 : wn ≤ 4) {f : Nat → Nat} (hf1 : ∀ i, i < wn → 1 ≤ f i ∧ f i < 10) (hf : ∀ i, i < wn → M.1 4 (3 * i + 2) = nI (f i)) {M' : OV} (hM' : M'.1 4 = M.1 4) {l : Nat} (hl : l < sD f wn) :
    ∀ k i, i + k = wn → sD f i ≤ l → ∃ w, w < wn ∧ kAx (lpx (f_X1_windOfDay_L1 Va) k i (nI (l - sD f i))) (fun _ => (0 : Int32)) = nI w ∧ ∀ n, k ≤ n → (lpw (f_X8_years_L12 M') n (nI i, nI (l - sD f i))).1 = nI w ∧ lpwD (f_X8_years_L12 M') (d_X8_years_L12 M') n (nI i, nI (l - sD f i)) := by
  have hS := sD_le wn hf1
  intro k
  induction k with
  | zero =>
    intro i hi hs
    have : i = wn := by omega
    subst this
    omega
  | succ k ih =>
    intro i hi hs
    have hd := hf1 i (by omega)
    have e1 : f_X1_windOfDay_L1 Va i (nI (l - sD f i)) = if 0 ≤ nI (l - sD f i) - nI (f i) then .inl (nI (l - sD f i) - nI (f i)) else .inr (nI i) := by
      unfold f_X1_windOfDay_L1
      rw [p_at1 _ (by omega) (by omega : i < 4), h7.2.2.2.2.1 i (by omega), hf i (by omega)]
    have e2 : f_X8_years_L12 M' (nI i, nI (l - sD f i)) = if nI (l - sD f i) < nI (f i) then .inr (nI i, nI (l - sD f i)) else .inl (nI (i + 1), nI (l - sD f i) - nI (f i)) := by
      unfold f_X8_years_L12
      dsimp only
      rw [iw_2 (by omega), hM', hf i (by omega), nI_1]
    have dd : d_X8_years_L12 M' (nI i, nI (l - sD f i)) := ⟨vw_k (k := 2) (by omega) (by omega), fun _ => vw_k (k := 2) (by omega) (by omega)⟩
    by_cases q : l < sD f (i + 1)
    · have q' : l < sD f i + f i := q
      have n1 : ¬ (0 : Int32) ≤ nI (l - sD f i) - nI (f i) := by
        have := pk_sneg (a := l - sD f i) (b := f i) (by omega) (by omega)
        rw [Int32.lt_iff_toInt_lt] at this
        rw [Int32.le_iff_toInt_le]
        have z0 : (0 : Int32).toInt = 0 := rfl
        rw [z0] at this ⊢
        omega
      rw [if_neg n1] at e1
      rw [if_pos (nI_lt (by omega) (by omega))] at e2
      refine ⟨i, by omega, ?_, fun n hn => ?_⟩
      · simp only [lpx]; rw [e1]; rfl
      · cases n with
        | zero => omega
        | succ n =>
          refine ⟨?_, dd, fun s' hs' => ?_⟩
          · simp only [lpw]; rw [e2]
          · rw [e2] at hs'; cases hs'
    · have q' : sD f i + f i ≤ l := Nat.not_lt.mp q
      have e3 : nI (l - sD f i) - nI (f i) = nI (l - sD f (i + 1)) := by
        rw [pk_sub (by omega)]
        show nI (l - sD f i - f i) = nI (l - (sD f i + f i))
        rw [Nat.sub_sub]
      rw [e3, if_pos (nI_pos' (by omega))] at e1
      rw [e3, if_neg (nI_nlt (by omega) (by omega))] at e2
      obtain ⟨w, w1, w2, w3⟩ := ih (i + 1) (by omega) q'
      refine ⟨w, w1, ?_, fun n hn => ?_⟩
      · simp only [lpx]; rw [e1]; exact w2
      · cases n with
        | zero => omega
        | succ n =>
          have := w3 n (by omega)
          refine ⟨?_, dd, fun s' hs' => ?_⟩
          · simp only [lpw]; rw [e2]; exact this.1
          · rw [e2] at hs'; cases hs'; exact this.2
theorem TRl_oL {T' : Nat} {H M' : OV} (x y : Int64) (t : TRl T' co (oL M 28 x) H M') : TRl T' co (oL M 28 y) H (oL M' 28 y) := by
  obtain ⟨f, rfl, t2, t3⟩ := t
  refine ⟨f, ?_, t2, t3⟩
  show oL (oA (oL M 28 x) 5 f) 28 y = oA (oL M 28 y) 5 f
  rw [← oL_oL M 28 x y]
  rfl
theorem r_years (h : RLN T co wn V7 Vr Vn Va Vac Vs Vsl VHa VHs M) (x : Int32) : d_X7_years V7 Va Vt Vn x ∧ d_X8_years M x ∧ (f_X7_years V7 Va Vt Vn x).1 = (f_X8_years M x).1 ∧ RLN T co wn (f_X7_years V7 Va Vt Vn x).2.1 Vr Vn Va Vac Vs Vsl VHa VHs (f_X8_years M x).2 := by
  have hh := h
  obtain ⟨h1, h2, h3, h4, h5, h6, h7, h8, h9, h10, h11⟩ := h
  obtain ⟨f, hf1, hf⟩ := p_dayN h7
  have hS := sD_le wn hf1
  have hda := p_daysIn h7 h2 hf
  have z0 : (0 : Int32).toInt = 0 := rfl
  have z1 : (1 : Int32).toInt = 1 := rfl
  have z30 : (30 : Int32).toInt = 30 := rfl
  have l1 : (1 : Int64).toInt = 1 := rfl
  have l30 : (30 : Int64).toInt = 30 := rfl
  unfold d_X7_years d_X8_years f_X7_years f_X8_years
  dsimp only [kAp]
  rw [p_in x, l1, l30, hda.1]
  by_cases hx : 1 ≤ x.toInt ∧ x.toInt ≤ 30
  · rw [if_pos hx, if_neg (fun q => by rw [Int32.lt_iff_toInt_lt, z1] at q; omega : ¬ x < 1), if_pos (Int32.le_iff_toInt_le.mpr (by rw [z30]; omega) : x ≤ 30)]
    simp only [i10, if_false]
    obtain ⟨m, hm, rfl⟩ := p_cell (x := x) (by omega) (n := 31) (by omega) (by omega)
    have hl4 : (f_X8_layTrial M).1 4 = M.1 4 := by rw [(p_lay M).1]; rfl
    have hl1 : (f_X8_layTrial M).2.1 1 = nI wn := by rw [(p_lay M).1]; exact h7.2.1
    rw [hl1, cN_nI (n := wn) (by omega), hda.2 _ hl4, cN_nI (n := m) (by omega)]
    have Tl := TRl_lay (Vt := Vt) hh
    have hD4 : lpuD (f_X8_years_L4 (f_X8_layTrial M)) (d_X8_years_L4 (f_X8_layTrial M)) wn 0 0 := lpuD_all _ _ (fun w t hw => vw_k (k := 2) (by omega) (by omega))
    by_cases hw0 : wn = 0
    · subst hw0
      have e0 : sD f 0 = 0 := rfl
      rw [e0]
      have en : ¬ (1 : Int32) ≤ nI 0 := by decide
      rw [if_neg en]
      have eb : ∀ i t, t.2 = f_X8_layTrial M → f_X8_years_L8 (nI 0) i t = .inr t := fun i t ht => by
        unfold f_X8_years_L8
        rw [ht, hl1, if_pos (by decide), ← ht]
      have hlp : lpb (f_X8_years_L8 (nI 0)) m 0 ((0 : Int32), f_X8_layTrial M) = ((0 : Int32), f_X8_layTrial M) := by
        cases m with
        | zero => rfl
        | succ m => simp only [lpb]; rw [eb _ _ rfl]
      rw [hlp]
      refine ⟨fun _ _ q => absurd q en, fun _ => ⟨(p_lay M).2, hD4, ?_⟩, rfl, ?_⟩
      · refine lpxD_inv (fun _ t => t.2 = f_X8_layTrial M) m _ rfl (fun j t hj ht => ⟨fun q => ?_, fun t' ht' => ?_⟩)
        · rw [ht, hl1] at q; exact absurd (by decide) q
        · rw [eb j t ht] at ht'; cases ht'
      · exact TRl_RLN hh Tl
    · have hpos : (1 : Int32) ≤ nI (sD f wn) := nI_le (a := 1) (by omega) (by omega)
      have hne64 : ¬ (nI (sD f wn)).toInt64 = 0 := by
        rw [nI_l (by omega)]
        intro q
        have := (lN_eq (a := sD f wn) (b := 0) (by omega) (by omega)).mp q
        omega
      rw [if_pos hpos]
      have step : ∀ j (p : Int32 × OV × OV) (q : Int32 × OV), (p.1 = q.1 ∧ ∃ x, p.2.1 = oL V7 8 x ∧ TRl (T + j) co (oL M 28 x) p.2.2 q.2) →
          d_X8_years_L8 (nI (sD f wn)) j q ∧ ∃ q', f_X8_years_L8 (nI (sD f wn)) j q = .inl q' ∧ ((f_X7_years_L5 Va j p).1 = q'.1 ∧ ∃ x, (f_X7_years_L5 Va j p).2.1 = oL V7 8 x ∧ TRl (T + (j + 1)) co (oL M 28 x) (f_X7_years_L5 Va j p).2.2 q'.2) := by
        intro j p q hI
        obtain ⟨a, W7, H⟩ := p
        obtain ⟨b, M'⟩ := q
        obtain ⟨i1, x, i2, i3⟩ := hI
        have i1 : a = b := i1
        have i2 : W7 = oL V7 8 x := i2
        subst i1 i2
        have i3 : TRl (T + j) co (oL M 28 x) H M' := i3
        have hM1 : M'.2.1 1 = nI wn := by obtain ⟨g, e, -, -⟩ := i3; rw [e]; exact h7.2.1
        have hM4 : M'.1 4 = M.1 4 := by obtain ⟨g, e, -, -⟩ := i3; rw [e]; rfl
        have hM28 : M'.2.2 28 = x := by obtain ⟨g, e, -, -⟩ := i3; rw [e]; exact oL_rd M 28 x
        have hw8 : (oL V7 8 x).2.2 8 = x := oL_rd V7 8 x
        have hn0 : ¬ nI wn ≤ 0 := nI_nle (by omega) (by omega)
        obtain ⟨l, hl, el⟩ := p_left (x * (6364136223846793005 : Int64) + (1442695040888963407 : Int64)) (S := sD f wn) (by omega) (by omega)
        obtain ⟨w, w1, w2, w3⟩ := p_windOf h7 h2 hf1 hf hM4 hl wn 0 (by omega) (Nat.zero_le _)
        have w3' := w3 70 (by omega)
        have e00 : l - sD f 0 = l := rfl
        have en0 : nI 0 = (0 : Int32) := rfl
        rw [e00] at w2 w3'
        rw [en0] at w3'
        have ew : f_X1_windOfDay Va (nI l) = nI w := by
          unfold f_X1_windOfDay
          rw [h7.1, cN_nI (by omega)]
          exact w2
        have i3' := TRl_oL x (x * (6364136223846793005 : Int64) + (1442695040888963407 : Int64)) i3
        have hR := (r_seed hh (x * (6364136223846793005 : Int64) + (1442695040888963407 : Int64))).2
        have hR' : RLN T co wn (oL V7 8 (x * (6364136223846793005 : Int64) + (1442695040888963407 : Int64))) Vr Vn Va Vac Vs Vsl VHa VHs (oL M 28 (x * (6364136223846793005 : Int64) + (1442695040888963407 : Int64))) := hR
        obtain ⟨b1, b2, b3⟩ := TRl_blow hR' i3' w1
        unfold d_X8_years_L8 f_X8_years_L8 f_X7_years_L5
        dsimp only [kAp]
        rw [hM1, hM28, hw8, hda.1, el, ew, w3'.1, oL_oL]
        have nI0 : (0 : Int32) = nI 0 := rfl
        rw [if_neg hn0]
        refine ⟨fun _ => ⟨hne64, w3'.2, b1⟩, ?_⟩
        have b3' : (f_X8_blowOn (oL M' 28 (x * (6364136223846793005 : Int64) + (1442695040888963407 : Int64))) 1 (nI w)).1 5 (52 : Int32).toNatClampNeg = (f_X1_blowOver Va H (nI w)).1 := b3.symm
        rw [b3']
        by_cases q : (f_X1_blowOver Va H (nI w)).1 = 0
        · rw [if_pos q, if_pos q]
          exact ⟨_, rfl, rfl, _, rfl, b2⟩
        · rw [if_neg q, if_neg q, Int32.add_zero]
          exact ⟨_, rfl, rfl, _, rfl, b2⟩
      have I0 : (((0 : Int32), V7, f_X2_copyFrom Vt Vn) : Int32 × OV × OV).1 = (((0 : Int32), f_X8_layTrial M) : Int32 × OV).1 ∧ ∃ x, (((0 : Int32), V7, f_X2_copyFrom Vt Vn) : Int32 × OV × OV).2.1 = oL V7 8 x ∧ TRl (T + 0) co (oL M 28 x) (((0 : Int32), V7, f_X2_copyFrom Vt Vn) : Int32 × OV × OV).2.2 (((0 : Int32), f_X8_layTrial M) : Int32 × OV).2 := by
        refine ⟨rfl, V7.2.2 8, (oL_self V7 8).symm, ?_⟩
        rw [h11, oL_self]
        exact Tl
      have hsim := lpub_sim (b1 := f_X7_years_L5 Va) (b2 := f_X8_years_L8 (nI (sD f wn))) (fun j (p : Int32 × OV × OV) (q : Int32 × OV) => p.1 = q.1 ∧ ∃ x, p.2.1 = oL V7 8 x ∧ TRl (T + j) co (oL M 28 x) p.2.2 q.2) m 0 _ _ I0 (fun j p q _ _ hI => (step j p q hI).2)
      obtain ⟨q1, y, q2, q3⟩ := hsim
      refine ⟨fun _ _ _ => lpuD_all _ _ (fun j t hj => by unfold d_X7_years_L5; rw [hda.1]; exact hne64), fun _ => ⟨(p_lay M).2, hD4, ?_⟩, q1, ?_⟩
      · refine lpxD_inv (fun j (q : Int32 × OV) => ∃ p : Int32 × OV × OV, p.1 = q.1 ∧ ∃ x, p.2.1 = oL V7 8 x ∧ TRl (T + j) co (oL M 28 x) p.2.2 q.2) m _ ⟨_, I0⟩ (fun j q hj ⟨p, hI⟩ => ?_)
        obtain ⟨s1, q', s2, s3⟩ := step j p q hI
        refine ⟨s1, fun t' ht' => ?_⟩
        rw [s2] at ht'
        cases ht'
        exact ⟨_, s3⟩
      · rw [q2]
        exact TRl_RLN (r_seed hh y).2 q3
  · rw [if_neg hx, if_pos rfl]
    refine ⟨fun q1 q2 => ?_, fun q => absurd rfl q, ?_⟩
    · rw [Int32.lt_iff_toInt_lt, z1] at q1
      rw [Int32.le_iff_toInt_le, z30] at q2
      omega
    · by_cases q1 : x < 1
      · rw [if_pos q1]; exact ⟨rfl, hh⟩
      · have q2 : ¬ x ≤ 30 := by
          rw [Int32.lt_iff_toInt_lt, z1] at q1
          rw [Int32.le_iff_toInt_le, z30]; omega
        rw [if_neg q1, if_neg q2]; exact ⟨rfl, hh⟩
end YEARS
