theorem p_pow : ∀ n, n < 7 → (1 : Int32) <<< (nI n &&& 31) = nI (2 ^ n) := by decide +kernel
theorem p_p2 : ∀ n, n < 7 → 1 ≤ 2 ^ n ∧ 2 ^ n ≤ 64 := by decide
theorem p_every {co : Nat} {H : OV} (h : H.2.1 5 = nI co) (hco : co ≤ 6) : f_X2_everyCock H = nI (2 ^ co - 1) ∧ (f_X2_everyCock H).toInt < 2147483647 ∧ cM (f_X2_everyCock H) = 2 ^ co := by
  have h2 := p_p2 co (by omega)
  have e : f_X2_everyCock H = nI (2 ^ co - 1) := by
    unfold f_X2_everyCock
    rw [h, p_pow co (by omega)]
    exact pk_sub (b := 1) h2.1
  refine ⟨e, ?_, ?_⟩
  · rw [e, nI_toInt (by omega)]; omega
  · unfold cM
    rw [e, nI_toInt (by omega)]
    omega
theorem p_cNpow {co : Nat} {M : OV} (h : M.2.1 0 = nI co) (hco : co ≤ 6) : cN ((1 : Int32) <<< (M.2.1 0 &&& 31)) = 2 ^ co := by
  have h2 := p_p2 co (by omega)
  rw [h, p_pow co (by omega)]
  exact cN_nI (by omega)
theorem p_and1 (a : Int32) {k : Nat} (hk : k < 32) : (a &&& ((1 : Int32) <<< (nI k &&& 31))) = 0 ↔ bt a k = false := by
  constructor
  · intro h
    have h2 : bt (a &&& ((1 : Int32) <<< (nI k &&& 31))) k = bt 0 k := by rw [h]
    rw [b_and, p_sh hk hk, b_0] at h2
    simpa using h2
  · intro h
    refine b_ext fun i hi => ?_
    rw [b_and, p_sh hk hi, b_0]
    by_cases e : i = k
    · subst e; rw [h]; rfl
    · rw [decide_eq_false e, Bool.and_false]
section UNDER
variable {T co wn : Nat} {V7 Vr Vn Va Vac Vs Vsl : OV} {VHa VHs : Nat → OV} {M : OV}
theorem r_decides (h : RLN T co wn V7 Vr Vn Va Vac Vs Vsl VHa VHs M) (x : Int32) : d_X8_decides M x ∧ f_X7_decides V7 Va Vn x = f_X8_decides M x := by
  obtain ⟨h1, h2, -, h4, h5, h6, h7, -⟩ := h
  have P := HR_PR (lv := 0) h4 h5 h6
  have B := HR_BR (lv := 0) h4 h5
  unfold d_X8_decides f_X7_decides f_X8_decides
  dsimp only [kAp]
  rw [p_hasW h7.1 h2, p_isW h7.2.1 h2]
  by_cases hx : 0 ≤ x.toInt ∧ x.toInt < wn
  · rw [if_pos hx]
    obtain ⟨w, hw, rfl⟩ := p_cell hx.1 (n := wn) hx.2 (by omega)
    simp only [i10, if_false]
    rw [h4.1, h5, cN_nI (by omega)]
    have hb : ∀ Q, f_X2_brookBy Vn Q = f_X8_brookBy M (0 : Int32) Q := fun Q => p_brook B (by omega) h1 Q
    have hbD : ∀ Q, d_X8_brookBy M (0 : Int32) Q := fun Q => p_brookD B (lv := 0) (by omega) h1 Q
    have hw3 : f_X1_waysBehind Va Vn (nI w) (Vn.2.1 8) 0 = f_X8_pointsBy M (0 : Int32) (nI w) (M.1 5 (24 : Int32).toNatClampNeg) := by
      rw [h4.2.2.2.2.2.2.2.2.1]
      exact p_ways P h7 (by omega) h1 h2 hw _
    refine ⟨fun _ => ⟨p_waysD P (lv := 0) (by omega) h1 (by omega) _, lpuD_all co _ (fun k t hk => ⟨hbD _, hbD _⟩)⟩, lpu_eq co 0 (fun k s hk => ?_)⟩
    unfold f_X7_decides_L2 f_X8_decides_L3
    rw [hw3, hb, hb]
    split
    · rw [Int32.or_zero]
    · rfl
  · rw [if_neg hx, if_pos rfl, if_pos rfl]
    exact ⟨fun q => absurd rfl q, rfl⟩
theorem r_power (h : RLN T co wn V7 Vr Vn Va Vac Vs Vsl VHa VHs M) (x : Int32) : d_X7_power V7 Vn x ∧ d_X8_power M x ∧ f_X7_power V7 Vn x = f_X8_power M x := by
  obtain ⟨h1, h2, -, h4, h5, h6, h7, -⟩ := h
  have B := HR_BR (lv := 0) h4 h5
  have E := p_every h4.1 h1
  unfold d_X7_power d_X8_power f_X7_power f_X8_power
  dsimp only [kAp]
  rw [p_hasC h4.1 h1, p_isC h5 h1]
  refine ⟨fun _ => E.2.1, ?_⟩
  by_cases hx : 0 ≤ x.toInt ∧ x.toInt < co
  · rw [if_pos hx]
    obtain ⟨k, hk, rfl⟩ := p_cell hx.1 (n := co) hx.2 (by omega)
    simp only [i10, if_false]
    rw [E.2.2, p_cNpow h5 h1]
    have hb : ∀ Q, f_X2_brookBy Vn Q = f_X8_brookBy M (0 : Int32) Q := fun Q => p_brook B (by omega) h1 Q
    have hbD : ∀ Q, d_X8_brookBy M (0 : Int32) Q := fun Q => p_brookD B (lv := 0) (by omega) h1 Q
    refine ⟨fun _ => lpuD_all _ _ (fun j t hj _ => ⟨hbD _, hbD _⟩), lpu_eq _ 0 (fun j s hj => ?_)⟩
    unfold f_X7_power_L2 f_X8_power_L2
    rw [p_has _ (by omega : k < 32), hb, hb]
    by_cases hbt : bt (nI j) k = true
    · have hn : ¬ (nI j &&& ((1 : Int32) <<< (nI k &&& 31))) = 0 := fun q => by
        rw [(p_and1 _ (by omega)).mp q] at hbt; cases hbt
      rw [if_neg hn, if_pos hbt]
      simp only [i10, if_false]
      rw [Int32.add_zero]
    · have hf : bt (nI j) k = false := by
        cases e : bt (nI j) k
        · rfl
        · exact absurd e hbt
      rw [if_pos ((p_and1 _ (by omega)).mpr hf), if_neg hbt, if_pos rfl, Int32.add_zero]
  · rw [if_neg hx, if_pos rfl, if_pos rfl]
    exact ⟨fun q => absurd rfl q, rfl⟩
/-- a walk that ends early on one side, and goes on with 0 on the other -/
theorem lpxu {b1 : Nat → Unit → Unit ⊕ Int32} {b2 : Nat → Int32 → Int32} (N : Nat) (hz : ∀ i, b2 i 0 = 0) (hs : ∀ i, i < N → (b1 i () = .inl () ∧ b2 i 1 = 1) ∨ (b1 i () = .inr 0 ∧ b2 i 1 = 0)) :
    ∀ n i, i + n ≤ N → kAx (lpx b1 n i ()) (fun _ => (1 : Int32)) = lpu b2 n i 1 ∧ (lpu b2 n i 1 = 0 ∨ lpu b2 n i 1 = 1) := by
  have z : ∀ n i, lpu b2 n i 0 = 0 := by
    intro n
    induction n with
    | zero => intro i; rfl
    | succ n ih => intro i; show lpu b2 n (i + 1) (b2 i 0) = 0; rw [hz]; exact ih _
  intro n
  induction n with
  | zero => intro i _; exact ⟨rfl, Or.inr rfl⟩
  | succ n ih =>
    intro i hi
    show kAx (lpx b1 (n + 1) i ()) (fun _ => (1 : Int32)) = lpu b2 n (i + 1) (b2 i 1) ∧ (lpu b2 n (i + 1) (b2 i 1) = 0 ∨ lpu b2 n (i + 1) (b2 i 1) = 1)
    rcases hs i (by omega) with ⟨q1, q2⟩ | ⟨q1, q2⟩
    · rw [q2]
      simp only [lpx]
      rw [q1]
      exact ih (i + 1) (by omega)
    · rw [q2, z]
      simp only [lpx]
      rw [q1]
      exact ⟨rfl, Or.inl trivial⟩
theorem p_agree (h1 : co ≤ 6) (hn : Vn.2.1 5 = nI co) (hM : M.2.1 0 = nI co) (hS : SX Vs M) {x hd P : Int32} (hP : f_X8_pointsBy M (0 : Int32) x hd = P) (hD : d_X8_pointsBy M (0 : Int32) x hd) :
    d_X8_isSeen M x hd ∧ f_X5_agree Vs Vn P = f_X8_isSeen M x hd := by
  obtain ⟨sn, s1, s2, s3, s4⟩ := hS
  have key := lpxu (b1 := f_X5_agree_L1 Vs Vn P) (b2 := f_X8_isSeen_L2 M x hd) sn (fun i => by unfold f_X8_isSeen_L2; rw [if_pos rfl]) (fun i hi => by
    unfold f_X5_agree_L1 f_X8_isSeen_L2
    rw [p_at1 _ (by omega) (by omega : i < 6), p_at1 _ (by omega) (by omega : i < 6), (s4 i hi).1, (s4 i hi).2, nI_clamp (by omega), p_hasC hn h1, p_isC hM h1, hP, if_neg (by decide : ¬ (1 : Int32) = 0)]
    by_cases hc : 0 ≤ (M.1 26 i).toInt ∧ (M.1 26 i).toInt < co
    · rw [if_pos hc]
      simp only [i10, if_false]
      by_cases e : f_X7_bit P (M.1 26 i) = M.1 27 i
      · have e' : (P >>> (M.1 26 i &&& 31)) &&& (1 : Int32) = M.1 27 i := e
        rw [if_pos e, if_pos e']; exact Or.inl ⟨rfl, rfl⟩
      · have e' : ¬ (P >>> (M.1 26 i &&& 31)) &&& (1 : Int32) = M.1 27 i := e
        rw [if_neg e, if_neg e']; exact Or.inr ⟨rfl, rfl⟩
    · rw [if_neg hc, if_pos rfl, if_pos rfl]; exact Or.inl ⟨rfl, rfl⟩) sn 0 (by omega)
  unfold d_X8_isSeen f_X5_agree f_X8_isSeen
  dsimp only [kAp]
  rw [s2, s3, cN_nI (by omega)]
  exact ⟨⟨hD, lpuD_all sn _ (fun j t hj _ => ⟨vp_in_nI (by omega) (by omega), fun _ => ⟨vp_in_nI (by omega) (by omega), vp_in_nI (by omega) (by omega)⟩⟩), key.2⟩, key.1⟩
theorem r_strings (h : RLN T co wn V7 Vr Vn Va Vac Vs Vsl VHa VHs M) (x y : Int32) : d_X7_strings V7 Va Vn Vs x y ∧ d_X8_strings M x y ∧ f_X7_strings V7 Va Vn Vs x y = f_X8_strings M x y := by
  obtain ⟨h1, h2, -, h4, h5, h6, h7, h8, h9, -⟩ := h
  have P := HR_PR (lv := 0) h4 h5 h6
  have E := p_every h4.1 h1
  have z0 : (0 : Int32).toInt = 0 := rfl
  have z2 : (2 : Int32).toInt = 2 := rfl
  have y2 : (2 : Int64).toInt = ((2 : Nat) : Int) := rfl
  have e3 : ((2 : Nat) : Int) + 1 = 3 := rfl
  unfold d_X7_strings d_X8_strings f_X7_strings f_X8_strings
  dsimp only [kAp]
  rw [p_hasW h7.1 h2, p_isW h7.2.1 h2, p_inK y 2 y2, e3]
  refine ⟨fun _ _ _ => E.2.1, ?_⟩
  by_cases hx : 0 ≤ x.toInt ∧ x.toInt < wn
  · rw [if_pos hx]
    obtain ⟨w, hw, rfl⟩ := p_cell hx.1 (n := wn) hx.2 (by omega)
    simp only [i10, if_false]
    by_cases hy : 0 ≤ y.toInt ∧ y.toInt < 3
    · rw [if_pos hy, if_neg (fun q => by rw [Int32.lt_iff_toInt_lt, z0] at q; omega : ¬ y < 0), if_pos (Int32.le_iff_toInt_le.mpr (by rw [z2]; omega) : y ≤ 2)]
      simp only [i10, if_false]
      rw [E.2.2, p_cNpow h5 h1]
      have he : ((1 : Int32) <<< (M.2.1 0 &&& 31)) - (1 : Int32) = f_X2_everyCock Vn := by
        unfold f_X2_everyCock; rw [h4.1, h5]
      rw [he]
      have ha : ∀ hd, d_X8_isSeen M (nI w) hd ∧ f_X5_agree Vs Vn (f_X1_waysBehind Va Vn (nI w) hd 0) = f_X8_isSeen M (nI w) hd := fun hd =>
        p_agree h1 h4.1 h5 h9 (p_ways P h7 (by omega) h1 h2 hw hd).symm (p_waysD P (lv := 0) (by omega) h1 (by omega) hd)
      have hl : lpu (f_X7_strings_L4 Va Vn Vs (nI w)) (2 ^ co) 0 ((0 : Int32), f_X2_everyCock Vn, (0 : Int32)) = lpu (f_X8_strings_L3 M (nI w)) (2 ^ co) 0 ((0 : Int32), f_X2_everyCock Vn, (0 : Int32)) :=
        lpu_eq _ _ (fun j s hj => by unfold f_X7_strings_L4 f_X8_strings_L3; rw [(ha (nI j)).2])
      rw [hl]
      exact ⟨fun _ _ => lpuD_all _ _ (fun j t hj => (ha (nI j)).1), rfl⟩
    · rw [if_neg hy, if_pos rfl]
      refine ⟨fun _ q => absurd rfl q, ?_⟩
      by_cases hq : y < 0
      · rw [if_pos hq]
      · rw [if_neg hq, if_neg (fun q => by rw [Int32.le_iff_toInt_le, z2] at q; rw [Int32.lt_iff_toInt_lt, z0] at hq; omega : ¬ y ≤ 2)]
  · rw [if_neg hx, if_pos rfl, if_pos rfl]
    exact ⟨fun q => absurd rfl q, rfl⟩
theorem r_winds (h : RLN T co wn V7 Vr Vn Va Vac Vs Vsl VHa VHs M) : d_X8_winds M ∧ f_X7_winds V7 Va Vn Vs = f_X8_winds M := by
  obtain ⟨h1, h2, -, h4, h5, h6, h7, h8, h9, -⟩ := h
  have P := HR_PR (lv := 0) h4 h5 h6
  have ha : ∀ w, w < wn → d_X8_isSeen M (nI w) 0 ∧ f_X5_agree Vs Vn (f_X1_waysBehind Va Vn (nI w) 0 0) = f_X8_isSeen M (nI w) 0 := fun w hw =>
    p_agree h1 h4.1 h5 h9 (p_ways P h7 (by omega) h1 h2 hw 0).symm (p_waysD P (lv := 0) (by omega) h1 (by omega) 0)
  unfold d_X8_winds f_X7_winds f_X8_winds
  dsimp only [kAp]
  rw [h7.1, h7.2.1, cN_nI (by omega)]
  refine ⟨lpuD_all wn _ (fun j t hj => (ha j hj).1), lpu_eq wn 0 (fun j s hj => ?_)⟩
  unfold f_X7_winds_L1 f_X8_winds_L1
  rw [(ha j hj).2]
  split
  · rw [Int32.or_zero]
  · rfl
end UNDER
