theorem lpu_split {σ : Type} (b : Nat → σ → σ) (m : Nat) : ∀ (n i : Nat) (s : σ), lpu b (n + m) i s = lpu b m (i + n) (lpu b n i s)
  | 0, i, s => by rw [Nat.zero_add]; rfl
  | n + 1, i, s => by
    have h := lpu_split b m n (i + 1) (b i s)
    rw [show n + 1 + m = (n + m) + 1 by omega]
    show lpu b (n + m) (i + 1) (b i s) = _
    rw [h, show i + 1 + n = i + (n + 1) by omega]
    rfl
theorem lpu_idle {σ : Type} {b : Nat → σ → σ} {s : σ} : ∀ (m i : Nat), (∀ j, i ≤ j → j < i + m → b j s = s) → lpu b m i s = s
  | 0, _, _ => rfl
  | m + 1, i, h => by
    show lpu b m (i + 1) (b i s) = s
    rw [h i (Nat.le_refl _) (by omega)]
    exact lpu_idle m (i + 1) (fun j h1 h2 => h j (by omega) (by omega))
theorem lpu_cut {σ : Type} {b : Nat → σ → σ} {n m : Nat} {s : σ} (hnm : n ≤ m) (h : ∀ j, n ≤ j → j < m → b j (lpu b n 0 s) = lpu b n 0 s) : lpu b m 0 s = lpu b n 0 s := by
  rw [show m = n + (m - n) by omega, lpu_split, Nat.zero_add]
  exact lpu_idle _ _ (fun j h1 h2 => h j h1 (by omega))
theorem p_shl1 : ∀ i, i < 7 → ((1 : Int32) <<< (nI i &&& 31)) >>> ((1 : Int32) &&& 31) = (if nI i = 0 then (0 : Int32) else ((1 : Int32) <<< ((nI i - (1 : Int32)) &&& 31))) := by decide +kernel
theorem p_cM {n : Nat} (h : n < 2 ^ 31) : cM (nI n) = n + 1 := by unfold cM; rw [nI_toInt h]; omega
theorem p_mb01 {M : OV} (Q : Int32) : f_X8_brookBy M (0 : Int32) Q = 0 ∨ f_X8_brookBy M (0 : Int32) Q = 1 ∨ f_X8_brookBy M (0 : Int32) Q = M.1 5 25 := by
  unfold f_X8_brookBy
  split
  · split
    · exact Or.inr (Or.inr rfl)
    · exact Or.inr (Or.inl rfl)
  · exact Or.inl rfl
section RESTS
variable {T co wn : Nat} {V7 Vr Vn Va Vac Vs Vsl : OV} {VHa VHs : Nat → OV} {M : OV}
theorem p_held {w a b : Nat} (P : PR co 0 0 Vn M) (B : BR co 0 Vn M) (h7 : AR wn Va M) (h1 : co ≤ 6) (h2 : wn ≤ 4) (hw : w < wn) (ha : a < 7) (hb : b < 7) :
    f_X7_brookHeld V7 Va Vn (nI w) (nI a) (nI b) = f_X8_heldBy M (nI w) (nI a) (nI b) ∧ d_X8_heldBy M (nI w) (nI a) (nI b) ∧ (f_X8_heldBy M (nI w) (nI a) (nI b) = 0 ∨ f_X8_heldBy M (nI w) (nI a) (nI b) = 1 ∨ f_X8_heldBy M (nI w) (nI a) (nI b) = M.1 5 25) := by
  refine ⟨?_, ?_, ?_⟩
  · unfold f_X7_brookHeld f_X8_heldBy
    dsimp only [kAp]
    rw [p_shl1 a ha, p_shl1 b hb]
    exact p_under P B h7 (by omega) h1 h2 hw _
  · unfold d_X8_heldBy
    exact p_underD P B (lv := 0) (by omega) h1 (by omega) _
  · exact p_mb01 _
theorem p_choice {i : Nat} (h4 : HR T co (M.1 2) (M.1 3) Vn (M.1 5) 0) (h5 : M.2.1 0 = nI co) (h1 : co ≤ 6) (p : Int32) : (i ≤ co → f_X7_mayHold V7 Vn p (nI i) = f_X8_isChoice M p (nI i)) ∧ (i < 7 → co < i → f_X8_isChoice M p (nI i) = 0) := by
  unfold f_X7_mayHold f_X8_isChoice
  by_cases h0 : i = 0
  · subst h0
    rw [if_pos (by decide : nI 0 = (0 : Int32)), if_pos (by decide : nI 0 = (0 : Int32))]
    exact ⟨fun _ => rfl, fun _ q => by omega⟩
  · have e1 : nI i - (1 : Int32) = nI (i - 1) := pk_sub (b := 1) (by omega)
    refine ⟨fun hi => ?_, fun hi hq => ?_⟩
    · have hc : 0 ≤ (nI (i - 1)).toInt ∧ (nI (i - 1)).toInt < co := by rw [nI_toInt (by omega)]; omega
      rw [if_neg (nI_ne0 (by omega) (by omega)), if_neg (nI_ne0 (by omega) (by omega)), e1, p_isC h5 h1, if_pos hc, h4.2.2.2.2.2.2.1, if_neg (by decide : ¬ (1 : Int32) = 0)]
      rfl
    · have hc : ¬ (0 ≤ (nI (i - 1)).toInt ∧ (nI (i - 1)).toInt < co) := by rw [nI_toInt (by omega)]; omega
      rw [if_neg (nI_ne0 (by omega) (by omega)), e1, p_isC h5 h1, if_neg hc, if_pos rfl]
theorem p_rest {w a b : Nat} (h4 : HR T co (M.1 2) (M.1 3) Vn (M.1 5) 0) (h5 : M.2.1 0 = nI co) (h6 : ∀ k, k < co → 0 ≤ (M.1 2 k).toInt) (h7 : AR wn Va M) (h1 : co ≤ 6) (h2 : wn ≤ 4) (hw : w < wn) (ha : a < 7) (hb : b < 7) :
    d_X7_isAtRest V7 Va Vn (nI w) (nI a) (nI b) ∧ d_X8_isRest M (nI w) (nI a) (nI b) ∧ f_X7_isAtRest V7 Va Vn (nI w) (nI a) (nI b) = f_X8_isRest M (nI w) (nI a) (nI b) := by
  have P := HR_PR (lv := 0) h4 h5 h6
  have B := HR_BR (lv := 0) h4 h5
  have H : ∀ i j, i < 7 → j < 7 → _ := fun i j hi hj => p_held (V7 := V7) P B h7 h1 h2 hw hi hj
  have hO : f_X8_heldBy M (nI w) (nI a) (nI b) = 0 ∨ f_X8_heldBy M (nI w) (nI a) (nI b) = 1 := by
    rcases (H a b ha hb).2.2 with q | q | q
    · exact Or.inl q
    · exact Or.inr q
    · rw [q]
      have h10 : Vn.2.1 9 = M.1 5 25 := h4.2.2.2.2.2.2.2.2.2.1
      rw [← h10]
      exact h4.2.2.2.2.2.2.2.2.2.2.2.2.1
  have key := lpxu (b1 := f_X7_isAtRest_L1 V7 Va Vn (nI w) (nI a) (nI b)) (b2 := f_X8_isRest_L2 M (nI w) (nI a) (nI b)) (co + 1) (fun i => by
      unfold f_X8_isRest_L2
      dsimp only [kAp]
      rw [if_pos rfl, if_pos rfl]) (fun i hi => by
      unfold f_X7_isAtRest_L1 f_X8_isRest_L2
      dsimp only [kAp]
      rw [(H a b ha hb).1, (H i b (by omega) hb).1, (H a i ha (by omega)).1, (p_choice (V7 := V7) h4 h5 h1 0).1 (by omega), (p_choice (V7 := V7) h4 h5 h1 1).1 (by omega)]
      generalize f_X8_heldBy M (nI w) (nI i) (nI b) = X
      generalize f_X8_heldBy M (nI w) (nI a) (nI i) = Y
      generalize f_X8_isChoice M 0 (nI i) = m0
      generalize f_X8_isChoice M 1 (nI i) = m1
      rcases hO with q | q <;> rw [q]
      · by_cases e1 : m1 = 0
        · simp [e1]
        · by_cases e2 : Y = 1
          · simp [e1, e2]
          · simp [e1, e2]
      · by_cases e1 : m0 = 0
        · simp [e1]
        · by_cases e2 : X = 0
          · simp [e1, e2]
          · simp [e1, e2]) (co + 1) 0 (by omega)
  have hcut : lpu (f_X8_isRest_L2 M (nI w) (nI a) (nI b)) 7 0 1 = lpu (f_X8_isRest_L2 M (nI w) (nI a) (nI b)) (co + 1) 0 1 := by
    refine lpu_cut (by omega) (fun j h1' h2' => ?_)
    have k2 := key.2
    generalize lpu (f_X8_isRest_L2 M (nI w) (nI a) (nI b)) (co + 1) 0 1 = s at k2
    unfold f_X8_isRest_L2
    dsimp only [kAp]
    rw [(p_choice (V7 := V7) h4 h5 h1 0).2 h2' (by omega), (p_choice (V7 := V7) h4 h5 h1 1).2 h2' (by omega)]
    rcases k2 with rfl | rfl
    · simp
    · simp
  refine ⟨?_, ?_, ?_⟩
  · unfold d_X7_isAtRest
    rw [h4.1, nI_toInt (by omega)]; omega
  · unfold d_X8_isRest
    dsimp only [kAp]
    rw [show cN (7 : Int32) = 7 from rfl, hcut]
    refine ⟨(H a b ha hb).2.1, lpuD_all 7 _ (fun j t hj => ?_), key.2⟩
    unfold d_X8_isRest_L2
    dsimp only [kAp]
    exact ⟨fun _ _ _ => (H j b hj hb).2.1, fun _ _ _ => (H a j ha hj).2.1⟩
  · unfold f_X7_isAtRest f_X8_isRest
    dsimp only [kAp]
    rw [show cN (7 : Int32) = 7 from rfl, hcut, h4.1, p_cM (by omega)]
    exact key.1
/-- what is told so far of RESTS: the first, and how many -/
def rsI (n : Nat) (s : Int32 × Int32) : Prop := (s.1 = -9 ∧ s.2 = 0) ∨ (s.1 ≠ -9 ∧ ∃ c, 1 ≤ c ∧ c ≤ n ∧ s.2 = nI c)
theorem rsI_mono {n m : Nat} {s : Int32 × Int32} (h : n ≤ m) (q : rsI n s) : rsI m s := by
  rcases q with q | ⟨q, c, c1, c2, c3⟩
  · exact Or.inl q
  · exact Or.inr ⟨q, c, c1, by omega, c3⟩
theorem r_rests (h : RLN T co wn V7 Vr Vn Va Vac Vs Vsl VHa VHs M) (x y : Int32) : d_X7_rests V7 Va Vn x y ∧ d_X8_rests M x y ∧ f_X7_rests V7 Va Vn x y = f_X8_rests M x y := by
  obtain ⟨h1, h2, -, h4, h5, h6, h7, h8, h9, -⟩ := h
  have z0 : (0 : Int32).toInt = 0 := rfl
  have z1 : (1 : Int32).toInt = 1 := rfl
  have hco : (Vn.2.1 5).toInt < 2147483647 := by rw [h4.1, nI_toInt (by omega)]; omega
  unfold d_X7_rests d_X8_rests f_X7_rests f_X8_rests
  dsimp only [kAp]
  rw [p_hasW h7.1 h2, p_isW h7.2.1 h2, p_vx2]
  by_cases hx : 0 ≤ x.toInt ∧ x.toInt < wn
  · rw [if_pos hx]
    obtain ⟨w, hw, rfl⟩ := p_cell hx.1 (n := wn) hx.2 (by omega)
    simp only [i10, if_false]
    have R : ∀ a b, a < 7 → b < 7 → _ := fun a b ha hb => p_rest (V7 := V7) h4 h5 h6 h7 h1 h2 hw ha hb
    have hin : ∀ a n s, a ≤ co → n ≤ 1000 → rsI n s → lpu (f_X7_rests_L6 V7 Va Vn (nI w) a) (co + 1) 0 s = lpu (f_X8_rests_L5 M (nI w) a) 7 0 s ∧ rsI (n + 7) (lpu (f_X7_rests_L6 V7 Va Vn (nI w) a) (co + 1) 0 s) := by
      intro a n s ha hn hs
      have hsim := lpu_sim (b1 := f_X7_rests_L6 V7 Va Vn (nI w) a) (b2 := f_X8_rests_L5 M (nI w) a) (fun j p q => p = q ∧ rsI (n + j) p) (co + 1) s s ⟨rfl, hs⟩ (fun j p q hj hI => by
        obtain ⟨rfl, hI⟩ := hI
        unfold f_X7_rests_L6 f_X8_rests_L5
        rw [(p_choice (V7 := V7) h4 h5 h1 0).1 ha, (p_choice (V7 := V7) h4 h5 h1 1).1 (by omega : j ≤ co), (R a j (by omega) (by omega)).2.2]
        have up : rsI (n + (j + 1)) p := rsI_mono (by omega) hI
        by_cases e1 : f_X8_isChoice M 0 (nI a) = 0
        · rw [if_pos e1, if_pos e1]; exact ⟨rfl, up⟩
        · rw [if_neg e1, if_neg e1]
          by_cases e2 : f_X8_isChoice M 1 (nI j) = 0
          · rw [if_pos e2, if_pos e2]; exact ⟨rfl, up⟩
          · rw [if_neg e2, if_neg e2]
            by_cases e3 : f_X8_isRest M (nI w) (nI a) (nI j) = 0
            · rw [if_pos e3, if_pos e3]; exact ⟨rfl, up⟩
            · rw [if_neg e3, if_neg e3]
              have e4 : (10 : Int32) * nI a + nI j = nI (10 * a + j) := by
                show nI 10 * nI a + nI j = _
                rw [pk_mul, nI_add]
              have e5 : nI (10 * a + j) ≠ -9 := fun q => by
                have : (nI (10 * a + j)).toInt = (-9 : Int32).toInt := by rw [q]
                rw [nI_toInt (by omega)] at this
                have z9 : (-9 : Int32).toInt = -9 := rfl
                omega
              rcases hI with ⟨q1, q2⟩ | ⟨q1, c, c1, c2, c3⟩
              · rw [if_pos q1, if_pos q2, e4, q2]
                exact ⟨rfl, Or.inr ⟨e5, 1, by omega, by omega, rfl⟩⟩
              · rw [if_neg q1, c3, if_neg (nI_ne0 (by omega) (by omega)), nI_1]
                exact ⟨rfl, Or.inr ⟨q1, c + 1, by omega, by omega, rfl⟩⟩)
      refine ⟨?_, rsI_mono (by omega) hsim.2⟩
      rw [hsim.1]
      refine (lpu_cut (by omega) (fun j h1' h2' => ?_)).symm
      unfold f_X8_rests_L5
      rw [(p_choice (V7 := V7) h4 h5 h1 1).2 h2' (by omega)]
      split
      · rfl
      · rw [if_pos rfl]
    have hout : lpu (f_X7_rests_L4 V7 Va Vn (nI w)) (co + 1) 0 ((-9 : Int32), (0 : Int32)) = lpu (f_X8_rests_L3 M (nI w)) 7 0 ((-9 : Int32), (0 : Int32)) := by
      have hsim := lpu_sim (b1 := f_X7_rests_L4 V7 Va Vn (nI w)) (b2 := f_X8_rests_L3 M (nI w)) (fun j p q => p = q ∧ rsI (7 * j) p) (co + 1) ((-9 : Int32), (0 : Int32)) ((-9 : Int32), (0 : Int32)) ⟨rfl, Or.inl ⟨rfl, rfl⟩⟩ (fun j p q hj hI => by
        obtain ⟨rfl, hI⟩ := hI
        have q := hin j (7 * j) p (by omega) (by omega) hI
        have e1 : f_X7_rests_L4 V7 Va Vn (nI w) j p = lpu (f_X7_rests_L6 V7 Va Vn (nI w) j) (co + 1) 0 p := by
          unfold f_X7_rests_L4
          rw [h4.1, p_cM (by omega)]
          rfl
        have e2 : f_X8_rests_L3 M (nI w) j p = lpu (f_X8_rests_L5 M (nI w) j) 7 0 p := rfl
        rw [e1, e2]
        exact ⟨q.1, rsI_mono (by omega) q.2⟩)
      rw [hsim.1]
      refine (lpu_cut (by omega) (fun j h1' h2' => ?_)).symm
      have e2 : ∀ p, f_X8_rests_L3 M (nI w) j p = lpu (f_X8_rests_L5 M (nI w) j) 7 0 p := fun p => rfl
      rw [e2]
      refine lpu_idle _ _ (fun i _ _ => ?_)
      unfold f_X8_rests_L5
      rw [(p_choice (V7 := V7) h4 h5 h1 0).2 h2' (by omega), if_pos rfl]
    have hD7 : lpuD (f_X7_rests_L4 V7 Va Vn (nI w)) (d_X7_rests_L4 V7 Va Vn (nI w)) (co + 1) 0 ((-9 : Int32), (0 : Int32)) := lpuD_all _ _ (fun a t ha => by
      unfold d_X7_rests_L4
      refine ⟨hco, ?_⟩
      rw [h4.1, p_cM (by omega)]
      exact lpuD_all _ _ (fun b t hb _ _ => (R a b (by omega) (by omega)).1))
    have hD8 : lpuD (f_X8_rests_L3 M (nI w)) (d_X8_rests_L3 M (nI w)) 7 0 ((-9 : Int32), (0 : Int32)) := lpuD_all _ _ (fun a t ha => by
      unfold d_X8_rests_L3
      rw [show cN (7 : Int32) = 7 from rfl]
      exact lpuD_all _ _ (fun b t hb _ _ => (R a b (by omega) (by omega)).2.1))
    rw [show cN (7 : Int32) = 7 from rfl]
    refine ⟨fun _ _ _ => ⟨hco, by rw [h4.1, p_cM (by omega)]; exact hD7⟩, fun _ _ => hD8, ?_⟩
    rw [h4.1, p_cM (by omega), hout]
    by_cases hy : 0 ≤ y.toInt ∧ y.toInt < 2
    · rw [if_pos hy, if_neg (fun q => by rw [Int32.lt_iff_toInt_lt, z0] at q; omega : ¬ y < 0), if_pos (Int32.le_iff_toInt_le.mpr (by rw [z1]; omega) : y ≤ 1)]
      simp only [i10, if_false]
    · rw [if_neg hy, if_pos rfl]
      by_cases hq : y < 0
      · rw [if_pos hq]
      · rw [if_neg hq, if_neg (fun q => by rw [Int32.le_iff_toInt_le, z1] at q; rw [Int32.lt_iff_toInt_lt, z0] at hq; omega : ¬ y ≤ 1)]
  · rw [if_neg hx, if_pos rfl, if_pos rfl]
    exact ⟨fun q => absurd rfl q, fun q => absurd rfl q, rfl⟩
end RESTS
