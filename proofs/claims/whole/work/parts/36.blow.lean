theorem p_upd4 (A : Nat → Int32) (b : Nat) (B P D : Int32) :
    upd (upd (upd (upd A (b + 25) B) (b + 23) P) (b + 24) 0) (b + 26) D (b + 23) = P ∧ upd (upd (upd (upd A (b + 25) B) (b + 23) P) (b + 24) 0) (b + 26) D (b + 24) = 0 ∧
    upd (upd (upd (upd A (b + 25) B) (b + 23) P) (b + 24) 0) (b + 26) D (b + 25) = B ∧ upd (upd (upd (upd A (b + 25) B) (b + 23) P) (b + 24) 0) (b + 26) D (b + 26) = D ∧
    ∀ j, (j < b + 23 ∨ b + 27 ≤ j) → upd (upd (upd (upd A (b + 25) B) (b + 23) P) (b + 24) 0) (b + 26) D j = A j := by
  refine ⟨by simp [p_up], by simp [p_up], by simp [p_up], by simp [p_up], fun j hj => ?_⟩
  rw [p_up, if_neg (by omega), p_up, if_neg (by omega), p_up, if_neg (by omega), p_up, if_neg (by omega)]
theorem p_blowOn (M : OV) {lv : Nat} (hlv : lv < 2) (w : Int32) : f_X8_blowOn M (nI lv) w =
    oA M 5 (upd (upd (upd (upd (M.1 5) (27 * lv + 25) (f_X8_brookBy M (nI lv) (f_X8_pointsBy M (nI lv) w (M.1 5 (27 * lv + 24))))) (27 * lv + 23) (f_X8_pointsBy M (nI lv) w (M.1 5 (27 * lv + 24)))) (27 * lv + 24) 0) (27 * lv + 26) (M.1 5 (27 * lv + 26) + 1)) := by
  unfold f_X8_blowOn
  dsimp only [kAp]
  rw [ix_24 hlv, ix_25 hlv, ix_23 hlv, ix_26 hlv]
  generalize f_X8_pointsBy M (nI lv) w (M.1 5 (27 * lv + 24)) = P
  generalize f_X8_brookBy M (nI lv) P = B
  simp only [oA_rd, oA_oA]
  have e : upd (upd (upd (M.1 5) (27 * lv + 25) B) (27 * lv + 23) P) (27 * lv + 24) 0 (27 * lv + 26) = M.1 5 (27 * lv + 26) := by
    rw [p_up, if_neg (by omega), p_up, if_neg (by omega), p_up, if_neg (by omega)]
  rw [e]
theorem p_brook01 {H : OV} (h : H.2.1 9 = 0 ∨ H.2.1 9 = 1) (P : Int32) : f_X2_brookBy H P = 0 ∨ f_X2_brookBy H P = 1 := by
  unfold f_X2_brookBy
  dsimp only [kAp]
  split
  · exact h
  · split
    · exact Or.inr rfl
    · exact Or.inl rfl
theorem p_blow {T co wn lv w : Nat} {Va H M : OV} (h : HR T co (M.1 2) (M.1 3) H (M.1 5) (27 * lv)) (hM : M.2.1 0 = nI co) (h0 : ∀ k, k < co → 0 ≤ (M.1 2 k).toInt) (hA : AR wn Va M) (hlv : lv < 2) (hco : co ≤ 6) (hwn : wn ≤ 4) (hw : w < wn) :
    d_X8_blowOn M (nI lv) (nI w) ∧ ∃ f, f_X8_blowOn M (nI lv) (nI w) = oA M 5 f ∧ HR (T + 1) co (M.1 2) (M.1 3) (f_X1_blowOver Va H (nI w)).2 f (27 * lv) ∧ (f_X1_blowOver Va H (nI w)).1 = f (27 * lv + 25) ∧ ∀ j, (j < 27 * lv ∨ 27 * lv + 27 ≤ j) → f j = M.1 5 j := by
  have P := HR_PR h hM h0
  have B := HR_BR h hM
  have e8 : H.2.1 8 = M.1 5 (27 * lv + 24) := h.2.2.2.2.2.2.2.2.1
  have ew : f_X1_waysBehind Va H (nI w) (H.2.1 8) 0 = f_X8_pointsBy M (nI lv) (nI w) (M.1 5 (27 * lv + 24)) := by rw [e8]; exact p_ways P hA hlv hco hwn hw _
  have eb : ∀ Q R : Int32, f_X2_brookBy (oI H 7 R) Q = f_X8_brookBy M (nI lv) Q := fun Q R => p_brook (H := H) B hlv hco Q
  obtain ⟨h1, h2, h3, h4, h5, h6, h7, h8, h9, h10, h11, h12, h13, d, h14, h15⟩ := h
  obtain ⟨u23, u24, u25, u26, uo⟩ := p_upd4 (M.1 5) (27 * lv) (f_X8_brookBy M (nI lv) (f_X8_pointsBy M (nI lv) (nI w) (M.1 5 (27 * lv + 24)))) (f_X8_pointsBy M (nI lv) (nI w) (M.1 5 (27 * lv + 24))) (M.1 5 (27 * lv + 26) + 1)
  refine ⟨?_, _, p_blowOn M hlv _, ?_, ?_, fun j hj => uo j (by omega)⟩
  · unfold d_X8_blowOn
    dsimp only [kAp]
    exact ⟨vx_0 (k := 24) hlv (by omega), p_waysD P hlv hco (by omega) _, p_brookD B hlv hco _, vx_0 (k := 25) hlv (by omega), vx_0 (k := 23) hlv (by omega), vx_0 (k := 24) hlv (by omega), vx_0 (k := 26) hlv (by omega), vx_0 (k := 26) hlv (by omega)⟩
  · refine ⟨h1, fun k hk => by rw [uo _ (by omega)]; exact h2 k hk, h3, fun k hk => by rw [uo _ (by omega)]; exact h4 k hk, h5, fun c hc => by rw [uo _ (by omega)]; exact h6 c hc, by rw [uo _ (by omega)]; exact h7, ?_, ?_, ?_, ?_, h12, ?_, d + 1, by omega, ?_⟩
    · rw [u23]; exact ew
    · rw [u24]; rfl
    · rw [u25, ← ew]; exact eb _ _
    · rw [u26, ← h11]; rfl
    · exact p_brook01 (H := oI H 7 _) h13 _
    · show H.2.1 10 + 1 = nI (d + 1)
      rw [h15, nI_1]
  · rw [u25, ← ew]; exact eb _ _
section BLOW
variable {T co wn : Nat} {V7 Vr Vn Va Vac Vs Vsl : OV} {VHa VHs : Nat → OV} {M : OV}
theorem r_blow (h : RLN T co wn V7 Vr Vn Va Vac Vs Vsl VHa VHs M) (x : Int32) : d_X8_blow M x ∧ (f_X7_blow V7 Va Vac VHa Vn x).1 = (f_X8_blow M x).1 ∧
    RLN (T + 1) co wn V7 Vr (f_X7_blow V7 Va Vac VHa Vn x).2.2.1 Va (f_X7_blow V7 Va Vac VHa Vn x).2.1 Vs Vsl (f_X7_blow V7 Va Vac VHa Vn x).2.2.2 VHs (f_X8_blow M x).2 := by
  obtain ⟨k1, k2, k3⟩ := r_keep h
  have h0 := h
  obtain ⟨h1, h2, h3, h4, h5, h6, h7, -⟩ := h
  unfold d_X8_blow f_X7_blow f_X8_blow
  rw [p_hasW h7.1 h2, p_isW h7.2.1 h2]
  by_cases hx : 0 ≤ x.toInt ∧ x.toInt < wn
  · rw [if_pos hx]
    obtain ⟨w, hw, rfl⟩ := p_cell hx.1 (n := wn) hx.2 (by omega)
    simp only [i10, if_false]
    dsimp only [kAp]
    have k0 := k2
    obtain ⟨a1, a2, a3, a4, a5, a6, a7, a8⟩ := k2
    obtain ⟨b1, f, b2, b3, b4, b5⟩ := p_blow (lv := 0) a4 a5 a6 a7 (by omega) h1 h2 hw
    have b2' : f_X8_blowOn (f_X8_keepAct M) 0 (nI w) = oA (f_X8_keepAct M) 5 f := b2
    rw [b2', oA_rd]
    refine ⟨fun _ => ⟨k1, b1⟩, b4, ?_⟩
    exact RL_set (RLN_mono (Nat.le_succ T) k0) b3
  · rw [if_neg hx, if_pos rfl, if_pos rfl]
    exact ⟨fun q => absurd rfl q, rfl, RLN_mono (Nat.le_succ T) h0⟩
theorem p_taken {H : OV} (h5 : H.2.1 5 = nI co) (hco : co ≤ 6) (hc : ∀ k, k < co → ∃ z, z < 10 ∧ H.1 1 k = nI z) {j : Nat} (hj : j < 32) : bt (f_X2_takenCells H) j = true ↔ ∃ k, k < co ∧ H.1 1 k = nI j := by
  unfold f_X2_takenCells
  dsimp only [kAp]
  rw [h5, cN_nI (by omega)]
  refine lpu_inv (fun i s => ∀ j, j < 32 → (bt s j = true ↔ ∃ k, k < i ∧ H.1 1 k = nI j)) co 0 (fun j _ => ?_) (fun i s hi hI j hj => ?_) j hj
  · rw [b_0]
    exact ⟨fun q => (by cases q), fun ⟨k, hk, _⟩ => (by omega)⟩
  · obtain ⟨z, hz, e⟩ := hc i hi
    unfold f_X2_takenCells_L1
    rw [p_at1 _ (by omega) (by omega : i < 6), e, b_or, p_sh (by omega) hj, Bool.or_eq_true, hI j hj, decide_eq_true_iff]
    constructor
    · rintro (⟨k, hk, hk2⟩ | rfl)
      · exact ⟨k, by omega, hk2⟩
      · exact ⟨i, by omega, e⟩
    · rintro ⟨k, hk, hk2⟩
      by_cases hki : k = i
      · subst hki
        rw [e] at hk2
        exact Or.inr ((nI_eq (by omega) (by omega)).mp hk2).symm
      · exact Or.inl ⟨k, by omega, hk2⟩
theorem p_cockOn {A : OV} {x : Int32} {n : Nat} (h : A.2.1 0 = nI n) (hn : n ≤ 6) : d_X8_isCockOn A x ∧ ((f_X8_isCockOn A x = 0 ∧ ∀ k, k < n → A.1 5 k ≠ x) ∨ (f_X8_isCockOn A x = 1 ∧ ∃ k, k < n ∧ A.1 5 k = x)) := by
  have key : ∀ m, m ≤ n → (lpu (f_X8_isCockOn_L1 A x) m 0 0 = 0 ∧ ∀ k, k < m → A.1 5 k ≠ x) ∨ (lpu (f_X8_isCockOn_L1 A x) m 0 0 = 1 ∧ ∃ k, k < m ∧ A.1 5 k = x) := by
    intro m hm
    refine lpu_inv (fun i s => (s = 0 ∧ ∀ k, k < i → A.1 5 k ≠ x) ∨ (s = 1 ∧ ∃ k, k < i ∧ A.1 5 k = x)) m 0 (Or.inl ⟨rfl, fun k hk => by omega⟩) (fun i s hi hI => ?_)
    unfold f_X8_isCockOn_L1
    rw [nI_clamp (by omega)]
    rcases hI with ⟨rfl, q⟩ | ⟨rfl, k, hk, q⟩
    · rw [if_pos rfl]
      by_cases e : A.1 5 i = x
      · rw [if_pos e]; exact Or.inr ⟨rfl, i, by omega, e⟩
      · rw [if_neg e]
        refine Or.inl ⟨rfl, fun k hk => ?_⟩
        by_cases hki : k = i
        · subst hki; exact e
        · exact q k (by omega)
    · rw [if_neg (by decide)]; exact Or.inr ⟨rfl, k, by omega, q⟩
  have hc : cN (A.2.1 0) = n := by rw [h]; exact cN_nI (by omega)
  refine ⟨?_, ?_⟩
  · unfold d_X8_isCockOn
    dsimp only [kAp]
    rw [hc]
    refine ⟨lpuD_all n _ (fun k t hk _ => vp_in_nI (by omega) (by omega)), ?_⟩
    rcases key n (Nat.le_refl _) with q | q
    · exact Or.inl q.1
    · exact Or.inr q.1
  · unfold f_X8_isCockOn
    dsimp only [kAp]
    rw [hc]
    exact key n (Nat.le_refl _)
theorem r_move (h : RLN T co wn V7 Vr Vn Va Vac Vs Vsl VHa VHs M) (x y : Int32) : d_X8_move M x y ∧ (f_X7_move V7 Vn Vac VHa x y).1 = (f_X8_move M x y).1 ∧
    RLN T co wn V7 Vr (f_X7_move V7 Vn Vac VHa x y).2.1 Va (f_X7_move V7 Vn Vac VHa x y).2.2.1 Vs Vsl (f_X7_move V7 Vn Vac VHa x y).2.2.2 VHs (f_X8_move M x y).2 := by
  obtain ⟨k1, k2, k3⟩ := r_keep h
  have h0 := h
  obtain ⟨h1, h2, h3, h4, h5, h6, h7, -⟩ := h
  obtain ⟨d1, d2⟩ := p_cockOn (A := M) (x := y) h5 h1
  unfold d_X8_move f_X7_move f_X8_move
  rw [p_hasC h4.1 h1, p_isC h5 h1, p_in9, p_isCell]
  by_cases hx : 0 ≤ x.toInt ∧ x.toInt < co
  · rw [if_pos hx]
    simp only [i10, if_false]
    obtain ⟨k, hk, rfl⟩ := p_cell hx.1 (n := co) hx.2 (by omega)
    by_cases hy : 0 ≤ y.toInt ∧ y.toInt < 10
    · rw [if_pos hy]
      simp only [i10, if_false]
      obtain ⟨z, hz, rfl⟩ := p_cell hy.1 (n := 10) hy.2 (by omega)
      rw [p_X7bit _ (by omega : z < 32)]
      have ht := p_taken (H := Vn) h4.1 h1 h4.2.2.2.2.2.2.2.2.2.2.2.1 (j := z) (by omega)
      have hcell : ∀ k, k < co → Vn.1 1 k = M.1 5 k := fun k hk => by rw [h4.2.1 k hk, Nat.zero_add]
      rcases d2 with ⟨e, q⟩ | ⟨e, j, hj, q⟩
      · have hb : ¬ bt (f_X2_takenCells Vn) z = true := fun w => by
          obtain ⟨j, hj, w⟩ := ht.mp w
          exact q j hj (by rw [← hcell j hj]; exact w)
        rw [if_neg hb, e, if_neg (by decide), if_pos rfl]
        dsimp only [kAp]
        rw [p_put _ _ (by omega) (by omega : k < 6), p_at1 _ (by omega) (by omega : k < 6), nI_clamp (by omega), k3]
        refine ⟨fun _ _ => ⟨d1, fun _ => ⟨k1, vp_in_nI (by omega) (by omega), vp_in_nI (by omega) (by omega)⟩⟩, hcell k hk, ?_⟩
        have := RL_set k2 (HR_cell h1 k2.2.2.2.1 hk hz)
        rw [k3] at this
        exact this
      · have hb : bt (f_X2_takenCells Vn) z = true := ht.mpr ⟨j, hj, by rw [hcell j hj]; exact q⟩
        rw [if_pos hb, e, if_pos rfl]
        simp only [i10, if_false]
        exact ⟨fun _ _ => ⟨d1, fun q => q.elim⟩, trivial, h0⟩
    · rw [if_neg hy, if_pos rfl, if_pos rfl]
      exact ⟨fun _ q => absurd rfl q, rfl, h0⟩
  · rw [if_neg hx, if_pos rfl, if_pos rfl]
    exact ⟨fun q => absurd rfl q, rfl, h0⟩
end BLOW
