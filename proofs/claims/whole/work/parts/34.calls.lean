/-! ===== a call on both sides: the answers are the same, the relation is kept ===== -/
theorem i10 : ((1 : Int32) = 0) = False := eq_false (by decide)
section CALLS
variable {T co wn : Nat} {V7 Vr Vn Va Vac Vs Vsl : OV} {VHa VHs : Nat → OV} {M : OV}
theorem r_write (h : RLN T co wn V7 Vr Vn Va Vac Vs Vsl VHa VHs M) (x : Int32) : d_X8_write M x ∧ (f_X7_write V7 Vr x).1 = (f_X8_write M x).1 ∧ RLN T co wn V7 (f_X7_write V7 Vr x).2 Vn Va Vac Vs Vsl VHa VHs (f_X8_write M x).2 := by
  obtain ⟨h1, h2, ⟨ln, t1, t2, t3, t4⟩, h4⟩ := h
  have z0 : (0 : Int32).toInt = 0 := rfl
  have z255 : (255 : Int32).toInt = 255 := rfl
  have y255 : (255 : Int64).toInt = ((255 : Nat) : Int) := rfl
  unfold d_X8_write f_X7_write f_X8_write
  rw [p_inK x 255 y255, t3]
  simp only [Int32.lt_iff_toInt_lt (x := x), Int32.le_iff_toInt_le, z0, z255]
  by_cases hx : 0 ≤ x.toInt ∧ x.toInt < 255 + 1
  · have hx' : 0 ≤ x.toInt ∧ x.toInt < ((255 : Nat) : Int) + 1 := hx
    rw [if_pos hx', if_neg (by omega : ¬ x.toInt < 0), if_pos (by omega : x.toInt ≤ 255)]
    simp only [i10, if_false]
    unfold f_X4_append
    dsimp only [kAp]
    rw [t2]
    by_cases hl : ln = 64
    · subst hl
      have e64 : nI 64 = (64 : Int32) := rfl
      rw [e64, if_pos rfl]
      simp only [i10, if_false]
      exact ⟨fun _ q => (q trivial).elim, rfl, h1, h2, ⟨64, by omega, t2, t3, t4⟩, h4⟩
    · have hne : ¬ nI ln = (64 : Int32) := fun q => hl ((nI_eq (b := 64) (by omega) (by omega)).mp q)
      have hlt : nI ln < (64 : Int32) := nI_lt (b := 64) (by omega) (by omega)
      rw [if_pos hlt, if_neg hne, p_put _ _ (by omega) (by omega : ln < 64), nI_clamp (by omega)]
      refine ⟨fun _ _ => vp_in_nI (by omega) (by omega), rfl, h1, h2, ⟨ln + 1, by omega, nI_1 ln, nI_1 ln, fun j hj => ?_⟩, h4⟩
      show upd (Vr.1 0) ln x j = upd (M.1 14) ln x j
      rw [p_up, p_up]
      by_cases hj2 : j = ln
      · rw [if_pos hj2, if_pos hj2]
      · rw [if_neg hj2, if_neg hj2]; exact t4 j (by omega)
  · have hx' : ¬ (0 ≤ x.toInt ∧ x.toInt < ((255 : Nat) : Int) + 1) := hx
    rw [if_neg hx', if_pos rfl]
    refine ⟨fun q => absurd rfl q, ?_⟩
    by_cases h5 : x.toInt < 0
    · rw [if_pos h5]; exact ⟨rfl, h1, h2, ⟨ln, t1, t2, t3, t4⟩, h4⟩
    · rw [if_neg h5, if_neg (by omega)]; exact ⟨rfl, h1, h2, ⟨ln, t1, t2, t3, t4⟩, h4⟩
theorem r_wipe (h : RLN T co wn V7 Vr Vn Va Vac Vs Vsl VHa VHs M) : (f_X7_wipe V7 Vr).1 = (f_X8_wipe M).1 ∧ RLN T co wn V7 (f_X7_wipe V7 Vr).2 Vn Va Vac Vs Vsl VHa VHs (f_X8_wipe M).2 := by
  obtain ⟨h1, h2, ⟨ln, t1, t2, t3, t4⟩, h4⟩ := h
  refine ⟨?_, h1, h2, ⟨0, by omega, rfl, rfl, fun j hj => by omega⟩, h4⟩
  show Vr.2.1 3 = M.2.1 15
  rw [t2, t3]
theorem r_tree (h : RLN T co wn V7 Vr Vn Va Vac Vs Vsl VHa VHs M) (x : Int32) : d_X8_tree M x ∧ f_X7_tree V7 Vn x = f_X8_tree M x := by
  obtain ⟨h1, h2, -, h4, -⟩ := h
  unfold d_X8_tree f_X7_tree f_X8_tree
  rw [p_in9, p_isCell]
  by_cases hx : 0 ≤ x.toInt ∧ x.toInt < 10
  · rw [if_pos hx]
    obtain ⟨z, hz, rfl⟩ := p_cell hx.1 (n := 10) hx.2 (by omega)
    simp only [i10, if_false]
    rw [p_at1 _ (by omega) hz, h4.2.2.2.2.2.1 z hz]
    refine ⟨fun _ => ?_, ?_⟩
    · show vp_in (nI 12 + nI z) 54
      rw [nI_add]; exact vp_in_nI (by omega) (by omega)
    · show _ = M.1 5 (nI 12 + nI z).toNatClampNeg
      rw [nI_add, nI_clamp (by omega), Nat.zero_add]
  · rw [if_neg hx, if_pos rfl, if_pos rfl]
    exact ⟨fun q => absurd rfl q, rfl⟩
theorem r_cock (h : RLN T co wn V7 Vr Vn Va Vac Vs Vsl VHa VHs M) (x y : Int32) : d_X8_cock M x y ∧ f_X7_cock V7 Vn x y = f_X8_cock M x y := by
  obtain ⟨h1, h2, -, h4, h5, -⟩ := h
  unfold d_X8_cock f_X7_cock f_X8_cock
  rw [p_hasC h4.1 h1, p_isC h5 h1]
  by_cases hx : 0 ≤ x.toInt ∧ x.toInt < co
  · rw [if_pos hx]
    obtain ⟨k, hk, rfl⟩ := p_cell hx.1 (n := co) hx.2 (by omega)
    obtain ⟨a1, a2, a3, a4, a5, a6, a7, a8, a9, a10, a11, a12, a13⟩ := h4
    have e6 : ((6 : Int32) + nI k).toNatClampNeg = 6 + k := by
      show (nI 6 + nI k).toNatClampNeg = _
      rw [nI_add, nI_clamp (by omega)]
    have v6 : vp_in ((6 : Int32) + nI k) 54 := by
      show vp_in (nI 6 + nI k) 54
      rw [nI_add]; exact vp_in_nI (by omega) (by omega)
    simp only [i10, if_false]
    rw [nI_clamp (by omega : k < 2 ^ 31), e6]
    refine ⟨fun _ => ⟨fun _ => vp_in_nI (by omega) (by omega), fun _ _ => ⟨fun _ => vp_in_nI (by omega) (by omega), fun _ => ⟨fun _ => v6, fun _ _ => vp_in_nI (by omega) (by omega)⟩⟩⟩, ?_⟩
    rw [p_at1 _ (by omega) (by omega : k < 6), p_at1 _ (by omega) (by omega : k < 6), p_at1 _ (by omega) (by omega : k < 6), p_at1 _ (by omega) (by omega : k < 6), a2 k hk, a3 k hk, a4 k hk, a5 k hk, a7, a8, a9, Nat.zero_add, Nat.zero_add, Nat.zero_add, Nat.zero_add, Nat.zero_add]
    rfl
  · rw [if_neg hx, if_pos rfl, if_pos rfl]
    exact ⟨fun q => absurd rfl q, rfl⟩
theorem r_seed (h : RLN T co wn V7 Vr Vn Va Vac Vs Vsl VHa VHs M) (v : Int64) : (f_X7_seed V7 v).1 = (f_X8_seed M v).1 ∧ RLN T co wn (f_X7_seed V7 v).2 Vr Vn Va Vac Vs Vsl VHa VHs (f_X8_seed M v).2 := by
  obtain ⟨h1, h2, h3, h4, h5, h6, h7, h8, h9, h10, h11⟩ := h
  exact ⟨h11, h1, h2, h3, h4, h5, h6, h7, h8, h9, h10, rfl⟩
theorem r_unsee (h : RLN T co wn V7 Vr Vn Va Vac Vs Vsl VHa VHs M) : (f_X7_unsee V7 Vs).1 = (f_X8_unsee M).1 ∧ RLN T co wn V7 Vr Vn Va Vac (f_X7_unsee V7 Vs).2 Vsl VHa VHs (f_X8_unsee M).2 := by
  obtain ⟨h1, h2, h3, h4, h5, h6, h7, h8, ⟨sn, s1, s2, s3, s4⟩, h10, h11⟩ := h
  refine ⟨?_, h1, h2, h3, h4, h5, h6, h7, h8, ⟨0, by omega, rfl, rfl, fun i hi => by omega⟩, h10, h11⟩
  show Vs.2.1 2 = M.2.1 25
  rw [s2, s3]
theorem r_see (h : RLN T co wn V7 Vr Vn Va Vac Vs Vsl VHa VHs M) (x y : Int32) : d_X8_see M x y ∧ (f_X7_see V7 Vn Vs x y).1 = (f_X8_see M x y).1 ∧ RLN T co wn V7 Vr Vn Va Vac (f_X7_see V7 Vn Vs x y).2 Vsl VHa VHs (f_X8_see M x y).2 := by
  have h0 := h
  obtain ⟨h1, h2, h3, h4, h5, h6, h7, h8, ⟨sn, s1, s2, s3, s4⟩, h10, h11⟩ := h
  have z0 : (0 : Int32).toInt = 0 := rfl
  have z1 : (1 : Int32).toInt = 1 := rfl
  have y1 : (1 : Int64).toInt = ((1 : Nat) : Int) := rfl
  unfold d_X8_see f_X7_see f_X8_see
  rw [p_hasC h4.1 h1, p_isC h5 h1, p_inK y 1 y1, s3]
  simp only [Int32.lt_iff_toInt_lt (x := y), Int32.le_iff_toInt_le, z0, z1]
  by_cases hx : 0 ≤ x.toInt ∧ x.toInt < co
  · rw [if_pos hx]
    simp only [i10, if_false]
    by_cases hy : 0 ≤ y.toInt ∧ y.toInt < 1 + 1
    · have hy' : 0 ≤ y.toInt ∧ y.toInt < ((1 : Nat) : Int) + 1 := hy
      rw [if_pos hy', if_neg (by omega : ¬ y.toInt < 0), if_pos (by omega : y.toInt ≤ 1)]
      simp only [i10, if_false]
      unfold f_X5_add
      dsimp only [kAp]
      rw [s2]
      by_cases hs : sn = 6
      · subst hs
        have e6 : nI 6 = (6 : Int32) := rfl
        rw [e6, if_pos rfl]
        simp only [i10, if_false]
        exact ⟨fun _ _ q => (q trivial).elim, rfl, h0⟩
      · have hne : ¬ nI sn = (6 : Int32) := fun q => hs ((nI_eq (b := 6) (by omega) (by omega)).mp q)
        have hlt : nI sn < (6 : Int32) := nI_lt (b := 6) (by omega) (by omega)
        rw [if_pos hlt, if_neg hne, p_put _ _ (by omega) (by omega : sn < 6), p_put _ _ (by omega) (by omega : sn < 6), nI_clamp (by omega)]
        refine ⟨fun _ _ _ => ⟨vp_in_nI (by omega) (by omega), vp_in_nI (by omega) (by omega)⟩, rfl, h1, h2, h3, h4, h5, h6, h7, h8, ⟨sn + 1, by omega, nI_1 sn, nI_1 sn, fun j hj => ?_⟩, h10, h11⟩
        show upd (Vs.1 0) sn x j = upd (M.1 26) sn x j ∧ upd (Vs.1 1) sn y j = upd (M.1 27) sn y j
        rw [p_up, p_up, p_up, p_up]
        by_cases hj2 : j = sn
        · rw [if_pos hj2, if_pos hj2, if_pos hj2, if_pos hj2]; exact ⟨rfl, rfl⟩
        · rw [if_neg hj2, if_neg hj2, if_neg hj2, if_neg hj2]; exact s4 j (by omega)
    · have hy' : ¬ (0 ≤ y.toInt ∧ y.toInt < ((1 : Nat) : Int) + 1) := hy
      rw [if_neg hy', if_pos rfl]
      refine ⟨fun _ q => absurd rfl q, ?_⟩
      by_cases h5' : y.toInt < 0
      · rw [if_pos h5']; exact ⟨rfl, h0⟩
      · rw [if_neg h5', if_neg (by omega)]; exact ⟨rfl, h0⟩
  · rw [if_neg hx, if_pos rfl, if_pos rfl]
    exact ⟨fun q => absurd rfl q, rfl, h0⟩
theorem r_wind (h : RLN T co wn V7 Vr Vn Va Vac Vs Vsl VHa VHs M) (x y : Int32) : d_X8_wind M x y ∧ f_X7_wind V7 Va Vn x y = f_X8_wind M x y := by
  obtain ⟨h1, h2, -, h4, h5, h6, h7, -⟩ := h
  unfold d_X8_wind f_X7_wind f_X8_wind
  have y2 : (2 : Int64).toInt = ((2 : Nat) : Int) := rfl
  rw [p_hasW h7.1 h2, p_isW h7.2.1 h2, p_inK y 2 y2]
  by_cases hx : 0 ≤ x.toInt ∧ x.toInt < wn
  · rw [if_pos hx]
    obtain ⟨w, hw, rfl⟩ := p_cell hx.1 (n := wn) hx.2 (by omega)
    simp only [i10, if_false]
    rw [p_at1 _ (by omega) (by omega : w < 4), p_at1 _ (by omega) (by omega : w < 4), p_at1 _ (by omega) (by omega : w < 4), h7.2.2.1 w hw, h7.2.2.2.1 w hw, h7.2.2.2.2.1 w hw]
    have P := HR_PR (lv := 0) h4 h5 h6
    have hw3 := p_ways P h7 (by omega) h1 h2 hw (Vn.2.1 8)
    have hD3 : ∀ z, d_X8_pointsBy M 0 (nI w) z := fun z => p_waysD P (lv := 0) (by omega) h1 (by omega) z
    refine ⟨fun _ => ⟨fun _ _ => hD3 _, fun q => ?_⟩, ?_⟩
    · have hy : 0 ≤ y.toInt ∧ y.toInt < ((2 : Nat) : Int) + 1 := by
        rcases Classical.em (0 ≤ y.toInt ∧ y.toInt < ((2 : Nat) : Int) + 1) with z | z
        · exact z
        · rw [if_neg z] at q; exact absurd rfl q
      obtain ⟨j, hj, rfl⟩ := p_cell hy.1 (n := 3) (by omega) (by omega)
      exact vw_k (by omega) hj
    · by_cases hy : 0 ≤ y.toInt ∧ y.toInt < ((2 : Nat) : Int) + 1
      · rw [if_pos hy]
        simp only [i10, if_false]
        obtain ⟨j, hj, rfl⟩ := p_cell hy.1 (n := 3) (by omega) (by omega)
        rw [iw_k (by omega) hj]
        have : j = 0 ∨ j = 1 ∨ j = 2 := by omega
        rcases this with rfl | rfl | rfl
        · rw [if_pos (by decide : nI 0 = (0 : Int32))]; rfl
        · rw [if_neg (by decide : ¬ nI 1 = (0 : Int32)), if_pos (by decide : nI 1 = (1 : Int32))]
        · rw [if_neg (by decide : ¬ nI 2 = (0 : Int32)), if_neg (by decide : ¬ nI 2 = (1 : Int32)), if_pos (by decide : nI 2 = (2 : Int32))]
      · rw [if_neg hy, if_pos rfl]
        have n0 : ¬ y = 0 := fun q => hy (by subst q; decide)
        have n1 : ¬ y = 1 := fun q => hy (by subst q; decide)
        have n2 : ¬ y = 2 := fun q => hy (by subst q; decide)
        rw [if_neg n0, if_neg n1, if_neg n2, hw3, Int32.xor_comm, h4.2.2.2.2.2.2.2.1, h4.2.2.2.2.2.2.2.2.1]
        rfl
  · rw [if_neg hx, if_pos rfl, if_pos rfl]
    exact ⟨fun q => absurd rfl q, rfl⟩
theorem r_under (h : RLN T co wn V7 Vr Vn Va Vac Vs Vsl VHa VHs M) (x : Int32) : d_X8_under M x ∧ f_X7_under V7 Va Vn x = f_X8_under M x := by
  obtain ⟨h1, h2, -, h4, h5, h6, h7, -⟩ := h
  unfold d_X8_under f_X7_under f_X8_under
  rw [p_hasW h7.1 h2, p_isW h7.2.1 h2]
  by_cases hx : 0 ≤ x.toInt ∧ x.toInt < wn
  · rw [if_pos hx]
    obtain ⟨w, hw, rfl⟩ := p_cell hx.1 (n := wn) hx.2 (by omega)
    have P := HR_PR (lv := 0) h4 h5 h6
    have B := HR_BR (lv := 0) h4 h5
    simp only [i10, if_false]
    rw [p_under P B h7 (by omega) h1 h2 hw, h4.2.2.2.2.2.2.2.2.1]
    exact ⟨fun _ => p_underD P B (lv := 0) (by omega) h1 (by omega) _, rfl⟩
  · rw [if_neg hx, if_pos rfl, if_pos rfl]
    exact ⟨fun q => absurd rfl q, rfl⟩
theorem r_year (h : RLN T co wn V7 Vr Vn Va Vac Vs Vsl VHa VHs M) (x : Int32) : d_X8_year M x ∧ f_X7_year V7 Va Vn x = f_X8_year M x := by
  obtain ⟨h1, h2, -, h4, h5, h6, h7, -⟩ := h
  have P := HR_PR (lv := 0) h4 h5 h6
  have B := HR_BR (lv := 0) h4 h5
  unfold d_X8_year f_X7_year f_X8_year
  have y1 : (1 : Int64).toInt = ((1 : Nat) : Int) := rfl
  have e2 : ((1 : Nat) : Int) + 1 = 2 := rfl
  rw [p_isPar, p_inK x 1 y1, e2, p_year P B h7 h1 h2 h4.2.2.2.2.2.2.2.2.1]
  exact ⟨fun _ => p_yearD P B h7 h1 h2 _, rfl⟩
theorem p_treesNow {H M : OV} (h : ∀ c, c < 10 → H.1 0 c = M.1 5 (12 + c)) : f_X2_treeCells H = f_X8_treesNow M := by
  unfold f_X2_treeCells f_X8_treesNow
  dsimp only [kAp]
  rw [show cN (nI 10) = 10 from rfl, show cN (10 : Int32) = 10 from rfl]
  refine lpu_eq 10 0 (fun c s hc => ?_)
  unfold f_X2_treeCells_L1 f_X8_treesNow_L1
  have e : ((12 : Int32) + nI c).toNatClampNeg = 12 + c := by
    show (nI 12 + nI c).toNatClampNeg = _
    rw [nI_add, nI_clamp (by omega)]
  rw [nI_clamp (by omega), h c hc, e]
  split <;> simp
theorem p_treesNowD (M : OV) : d_X8_treesNow M := by
  unfold d_X8_treesNow
  rw [show cN (10 : Int32) = 10 from rfl]
  refine lpuD_all 10 _ (fun c t hc => ?_)
  show vp_in (nI 12 + nI c) 54
  rw [nI_add]; exact vp_in_nI (by omega) (by omega)
theorem r_count (h : RLN T co wn V7 Vr Vn Va Vac Vs Vsl VHa VHs M) (x : Int32) : d_X8_count M x ∧ f_X7_count V7 Vr Vn Va Vac VHa Vs x = f_X8_count M x := by
  obtain ⟨h1, h2, ⟨ln, t1, t2, t3, t4⟩, h4, h5, h6, h7, ⟨ac, ol, nx, c1, c2, c3, c4, c5, c6, c7, c8⟩, ⟨sn, s1, s2, s3, s4⟩, h10, h11⟩ := h
  have B := HR_BR (lv := 0) h4 h5
  have hw := p_weights B h4.2.2.2.2.2.2.2.1 h1
  have hwD : ∀ p P, d_X8_weightOf M 0 p P := fun p P => by
    unfold d_X8_weightOf
    rw [h5, cN_nI (by omega)]
    exact lpuD_all co _ (fun k t hk => ⟨vx_0 (lv := 0) (k := 22) (by omega) (by omega), fun _ _ => vp_in_nI (by omega) (by omega)⟩)
  have ht : f_X2_treeCells Vn = f_X8_treesNow M := p_treesNow (fun c hc => by rw [h4.2.2.2.2.2.1 c hc, Nat.zero_add])
  unfold d_X8_count f_X7_count f_X8_count
  rw [ht, hw.1, hw.2, t2, t3, h4.1, h5, h7.1, h7.2.1, c5, c6, s2, s3, h4.2.2.2.2.2.2.2.2.1, h4.2.2.2.2.2.2.2.2.2.1, h4.2.2.2.2.2.2.2.2.2.2.1]
  refine ⟨?_, rfl⟩
  first
    | exact fun _ _ _ _ _ => ⟨fun _ => hwD _ _, fun _ => ⟨fun _ => hwD _ _, fun _ _ => p_treesNowD M⟩⟩
    | (intros; simp only [hwD, p_treesNowD, implies_true, and_self, true_and, and_true])
end CALLS
