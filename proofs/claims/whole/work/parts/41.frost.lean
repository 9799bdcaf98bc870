theorem p_gcd : ∀ (k n : Nat), 2 * k + 1 ≤ n → ∀ (a b : Nat), a < 2 ^ 31 → b < 2 ^ 31 → b < 2 ^ k → lpw f_X8_common_L1 n (nI b, nI a) = (nI 0, nI (Nat.gcd b a)) ∧ lpwD f_X8_common_L1 d_X8_common_L1 n (nI b, nI a)
  | 0, 0, h, _, _, _, _, _ => by omega
  | 0, n + 1, _, a, b, _, _, hb => by
    have : b = 0 := by
      have : (2 : Nat) ^ 0 = 1 := rfl
      omega
    subst this
    have e : f_X8_common_L1 (nI 0, nI a) = .inr (nI 0, nI a) := rfl
    rw [Nat.gcd_zero_left]
    refine ⟨?_, trivial, fun s' hs => ?_⟩
    · simp only [lpw]; rw [e]
    · rw [e] at hs; cases hs
  | k + 1, 0, h, _, _, _, _, _ => by omega
  | k + 1, n + 1, h, a, b, ha, hb, hk => by
    have e : f_X8_common_L1 (nI b, nI a) = if nI b = 0 then .inr (nI b, nI a) else .inl (nI a - nI a / nI b * nI b, nI b) := rfl
    by_cases h0 : b = 0
    · subst h0
      rw [if_pos (by decide : nI 0 = (0 : Int32))] at e
      rw [Nat.gcd_zero_left]
      refine ⟨?_, trivial, fun s' hs => ?_⟩
      · simp only [lpw]; rw [e]
      · rw [e] at hs; cases hs
    · rw [if_neg (nI_ne0 (by omega) hb), pk_rem ha (by omega) hb] at e
      have hr : a % b < b := Nat.mod_lt _ (by omega)
      -- the next step
      have nx : lpw f_X8_common_L1 n (nI (a % b), nI b) = (nI 0, nI (Nat.gcd (a % b) b)) ∧ lpwD f_X8_common_L1 d_X8_common_L1 n (nI (a % b), nI b) := by
        cases n with
        | zero => omega
        | succ n =>
          have e' : f_X8_common_L1 (nI (a % b), nI b) = if nI (a % b) = 0 then .inr (nI (a % b), nI b) else .inl (nI b - nI b / nI (a % b) * nI (a % b), nI (a % b)) := rfl
          by_cases h1 : a % b = 0
          · rw [h1, if_pos (by decide : nI 0 = (0 : Int32))] at e'
            rw [h1, Nat.gcd_zero_left]
            refine ⟨?_, trivial, fun s' hs => ?_⟩
            · simp only [lpw]; rw [e']
            · rw [e'] at hs; cases hs
          · rw [if_neg (nI_ne0 (by omega) (by omega)), pk_rem hb (by omega) (by omega)] at e'
            have hr2 : b % (a % b) < a % b := Nat.mod_lt _ (by omega)
            have hhalf : b % (a % b) < 2 ^ k := by
              have hd := Nat.mod_add_div b (a % b)
              have h1' : 1 ≤ b / (a % b) := Nat.div_pos (by omega) (by omega)
              have h2' : a % b ≤ a % b * (b / (a % b)) := Nat.le_mul_of_pos_right _ h1'
              have h3' : 2 ^ (k + 1) = 2 * 2 ^ k := by rw [Nat.pow_succ, Nat.mul_comm]
              omega
            have ih := p_gcd k n (by omega) (a % b) (b % (a % b)) (by omega) (by omega) hhalf
            have g1 : Nat.gcd (a % b) b = Nat.gcd (b % (a % b)) (a % b) := Nat.gcd_rec _ _
            rw [g1]
            refine ⟨?_, trivial, fun s' hs => ?_⟩
            · simp only [lpw]; rw [e']; exact ih.1
            · rw [e'] at hs; cases hs; exact ih.2
      have g0 : Nat.gcd b a = Nat.gcd (a % b) b := Nat.gcd_rec _ _
      rw [g0]
      refine ⟨?_, trivial, fun s' hs => ?_⟩
      · simp only [lpw]; rw [e]; exact nx.1
      · rw [e] at hs; cases hs; exact nx.2
theorem lpb_lpw {σ : Type} {b : Nat → σ → σ ⊕ σ} {c : σ → σ ⊕ σ} (h : ∀ i s, b i s = c s) : ∀ n i s, lpb b n i s = lpw c n s
  | 0, _, _ => rfl
  | n + 1, i, s => by
    simp only [lpb, lpw]
    rw [h]
    cases c s with
    | inl a => exact lpb_lpw h n _ a
    | inr a => rfl
theorem p_comm {a b : Nat} (ha : a ≤ 1000000) (hb : b ≤ 1000000) : f_X7_commonDivisor (nI a) (nI b) = nI (Nat.gcd b a) ∧ f_X8_common (nI a) (nI b) = nI (Nat.gcd b a) ∧ d_X8_common (nI a) (nI b) := by
  have h1 := p_gcd 20 64 (by omega) a b (by omega) (by omega) (by omega)
  have h2 := p_gcd 20 70 (by omega) a b (by omega) (by omega) (by omega)
  refine ⟨?_, ?_, h2.2⟩
  · unfold f_X7_commonDivisor
    dsimp only [kAp]
    rw [show cN (64 : Int32) = 64 from rfl, lpb_lpw (b := f_X7_commonDivisor_L1) (c := f_X8_common_L1) (fun i s => rfl), h1.1]
  · unfold f_X8_common
    dsimp only [kAp]
    rw [h2.1]
theorem p_all10 : ∀ co, co < 7 → ∀ t, t < 11 → lpu (fun j s => s + lpu (f_X8_frost_L5 (nI t) j) co 0 1) (2 ^ co) 0 0 = nI (10 ^ co) := by decide +kernel
theorem p_ways10 {t : Nat} (ht : t < 11) (j : Nat) : ∀ n, n < 7 → ∃ W, W ≤ 10 ^ n ∧ lpu (f_X8_frost_L5 (nI t) j) n 0 1 = nI W := by
  intro n hn
  refine lpu_inv (fun i s => ∃ W, W ≤ 10 ^ i ∧ s = nI W) n 1 ⟨1, by decide, rfl⟩ (fun i s hi hI => ?_)
  obtain ⟨W, hW, rfl⟩ := hI
  have hp := p_106 i (by omega)
  unfold f_X8_frost_L5
  have e : (10 : Int32) - nI t = nI (10 - t) := pk_sub (a := 10) (by omega)
  rw [e, pk_mul, pk_mul, Nat.pow_succ]
  split
  · exact ⟨_, Nat.mul_le_mul hW (by omega), rfl⟩
  · exact ⟨_, Nat.mul_le_mul hW (by omega), rfl⟩
section FROST
variable {T co wn : Nat} {V7 Vr Vn Va Vac Vs Vsl : OV} {VHa VHs : Nat → OV} {M : OV}
theorem r_frost (h : RLN T co wn V7 Vr Vn Va Vac Vs Vsl VHa VHs M) (x y z : Int32) : d_X7_frost V7 Va Vn x y z ∧ d_X8_frost M x y z ∧ f_X7_frost V7 Va Vn x y z = f_X8_frost M x y z := by
  obtain ⟨h1, h2, -, h4, h5, h6, h7, h8, h9, -⟩ := h
  have P := HR_PR (lv := 0) h4 h5 h6
  have B := HR_BR (lv := 0) h4 h5
  have E := p_every h4.1 h1
  have z0 : (0 : Int32).toInt = 0 := rfl
  have zt : (10 : Int32).toInt = 10 := rfl
  have y10 : (10 : Int64).toInt = ((10 : Nat) : Int) := rfl
  have e11 : ((10 : Nat) : Int) + 1 = 11 := rfl
  unfold d_X7_frost d_X8_frost f_X7_frost f_X8_frost
  dsimp only [kAp]
  rw [p_hasW h7.1 h2, p_isW h7.2.1 h2, p_inK y 10 y10, e11]
  by_cases hx : 0 ≤ x.toInt ∧ x.toInt < wn
  · rw [if_pos hx]
    obtain ⟨w, hw, rfl⟩ := p_cell hx.1 (n := wn) hx.2 (by omega)
    simp only [i10, if_false]
    by_cases hy : 0 ≤ y.toInt ∧ y.toInt < 11
    · rw [if_pos hy, if_neg (fun q => by rw [Int32.lt_iff_toInt_lt, z0] at q; omega : ¬ y < 0), if_pos (Int32.le_iff_toInt_le.mpr (by rw [zt]; omega) : y ≤ 10)]
      simp only [i10, if_false]
      obtain ⟨t, ht, rfl⟩ := p_cell hy.1 (n := 11) hy.2 (by omega)
      rw [E.2.2, p_cNpow h5 h1, h4.1, cN_nI (by omega)]
      have hways : ∀ j, f_X7_waysToFreeze V7 Vn (nI j) (nI t) = lpu (f_X8_frost_L5 (nI t) j) co 0 1 := fun j => by
        unfold f_X7_waysToFreeze
        dsimp only [kAp]
        rw [h4.1, cN_nI (by omega)]
        refine lpu_eq co 1 (fun c s hc => ?_)
        unfold f_X7_waysToFreeze_L1 f_X8_frost_L5
        rw [p_X7bit _ (by omega), p_has _ (by omega)]
        cases bt (nI j) c <;> simp
      have hund : ∀ j, f_X1_brookUnder Va Vn (nI w) (Vn.2.1 8 ||| nI j) 0 = f_X8_underOf M (0 : Int32) (nI w) (M.1 5 (24 : Int32).toNatClampNeg ||| nI j) := fun j => by
        rw [h4.2.2.2.2.2.2.2.2.1]
        exact p_under P B h7 (by omega) h1 h2 hw _
      have hp := p_106 co (by omega)
      have h2p := p_p2 co (by omega)
      have hsim := lpu_sim (b1 := f_X7_frost_L4 V7 Va Vn (nI w) (nI t)) (b2 := f_X8_frost_L3 M (nI w) (nI t)) (fun j (p : Int32) (q : Int32 × Int32) => ∃ u v, u ≤ v ∧ v ≤ j * 1000000 ∧ p = nI u ∧ q = (nI v, nI u)) (2 ^ co) 0 (0, 0) ⟨0, 0, by omega, by omega, rfl, rfl⟩ (fun j p q hj hI => by
        obtain ⟨u, v, huv, hv, rfl, rfl⟩ := hI
        obtain ⟨W, hW, eW⟩ := p_ways10 ht j co (by omega)
        unfold f_X7_frost_L4 f_X8_frost_L3
        dsimp only [kAp]
        rw [hund, hways, h5, cN_nI (by omega), eW, nI_add, nI_add, Int32.add_zero]
        split
        · exact ⟨u + W, v + W, by omega, by omega, rfl, rfl⟩
        · exact ⟨u, v + W, by omega, by omega, rfl, rfl⟩)
      have hall : (lpu (f_X8_frost_L3 M (nI w) (nI t)) (2 ^ co) 0 ((0 : Int32), (0 : Int32))).1 = nI (10 ^ co) := by
        rw [← p_all10 co (by omega) t ht]
        refine lpu_sim (b1 := f_X8_frost_L3 M (nI w) (nI t)) (b2 := fun j s => s + lpu (f_X8_frost_L5 (nI t) j) co 0 1) (fun j (p : Int32 × Int32) (q : Int32) => p.1 = q) (2 ^ co) (0, 0) 0 rfl (fun j p q hj hI => ?_)
        subst hI
        unfold f_X8_frost_L3
        dsimp only [kAp]
        rw [h5, cN_nI (by omega)]
        split <;> rfl
      have hbel : lpu f_X7_frost_L8 co 0 1 = nI (10 ^ co) := lpu_nI (f := fun i => 10 ^ i) co (fun i hi => by
        unfold f_X7_frost_L8
        show nI (10 ^ i) * nI 10 = nI (10 ^ (i + 1))
        rw [pk_mul, Nat.pow_succ])
      obtain ⟨u, v, huv, hv, e1, e2⟩ := hsim
      rw [e2] at hall
      have hv2 : v = 10 ^ co := (nI_eq (by omega) (by omega)).mp hall
      subst hv2
      rw [e1, e2, hbel]
      have c1 := p_comm (a := 10 ^ co) (b := u) hp.2 (by omega)
      have c2 := p_comm (a := u) (b := 10 ^ co) (by omega) hp.2
      have hg : 0 < Nat.gcd u (10 ^ co) := Nat.gcd_pos_of_pos_right _ hp.1
      have hgle : Nat.gcd u (10 ^ co) ≤ 10 ^ co := Nat.le_of_dvd hp.1 (Nat.gcd_dvd_right _ _)
      rw [Nat.gcd_comm] at c2
      rw [c1.1, c2.2.1]
      have hge : (1 : Int32) ≤ nI (Nat.gcd u (10 ^ co)) := nI_le (a := 1) hg (by omega)
      have hne : ¬ nI (Nat.gcd u (10 ^ co)) = 0 := nI_ne0 hg (by omega)
      rw [if_pos hge]
      refine ⟨fun _ _ _ => ⟨E.2.1, fun _ => ⟨fun _ => hne, fun _ => hne⟩⟩, fun _ _ => ⟨lpuD_all _ _ (fun j s hj => ?_), c2.2.2, fun _ => hne, fun _ => hne⟩, rfl⟩
      unfold d_X8_frost_L3
      exact p_underD P B (lv := 0) (by omega) h1 (by omega) _
    · rw [if_neg hy, if_pos rfl]
      refine ⟨fun _ q1 q2 => ?_, fun _ q => absurd rfl q, ?_⟩
      · rw [Int32.lt_iff_toInt_lt, z0] at q1
        rw [Int32.le_iff_toInt_le, zt] at q2
        omega
      · by_cases hq : y < 0
        · rw [if_pos hq]
        · rw [if_neg hq, if_neg (fun q => by rw [Int32.le_iff_toInt_le, zt] at q; rw [Int32.lt_iff_toInt_lt, z0] at hq; omega : ¬ y ≤ 10)]
  · rw [if_neg hx, if_pos rfl, if_pos rfl]
    exact ⟨fun q => absurd rfl q, fun q => absurd rfl q, rfl⟩
end FROST
