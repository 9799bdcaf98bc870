theorem p_ones : ∀ n, n < 1024 → f_J6_bitCount_0f7a4 (nI n) = f_X8_ones (nI n) := by decide +kernel
section TREES
variable {T co wn : Nat} {V7 Vr Vn Va Vac Vs Vsl : OV} {VHa VHs : Nat → OV} {M : OV}
/-- the trial with these felled -/
def fG (n : Nat) (f : Nat → Int32) (k : Nat) : Nat → Int32 := fun j => if 39 ≤ j ∧ j < 39 + k ∧ bt (nI n) (j - 39) = true then 0 else f j
theorem p_fell (n : Nat) (f : Nat → Int32) : lpu (f_X8_trees_L10 n) 10 0 (oA M 5 f) = oA M 5 (fG n f 10) ∧ lpuD (f_X8_trees_L10 n) (d_X8_trees_L10 n) 10 0 (oA M 5 f) := by
  have e39 : ∀ i, i < 10 → ((39 : Int32) + nI i).toNatClampNeg = 39 + i := fun i hi => by
    show (nI 39 + nI i).toNatClampNeg = _
    rw [nI_add, nI_clamp (by omega)]
  have v39 : ∀ i, i < 10 → vp_in ((39 : Int32) + nI i) 54 := fun i hi => by
    show vp_in (nI 39 + nI i) 54
    rw [nI_add]; exact vp_in_nI (by omega) (by omega)
  constructor
  · refine lpu_inv (fun i s => s = oA M 5 (fG n f i)) 10 _ ?_ (fun i s hi hI => ?_)
    · congr 1
      funext j
      unfold fG
      rw [if_neg (by omega)]
    · subst hI
      unfold f_X8_trees_L10
      rw [p_has _ (by omega : i < 32), oA_rd, oA_oA, oA_oA, e39 i hi]
      by_cases hb : bt (nI n) i = true
      · rw [if_pos hb]
        simp only [i10, if_false]
        congr 1
        funext j
        rw [p_up]
        unfold fG
        by_cases e : j = 39 + i
        · subst e
          rw [if_pos rfl, if_pos ⟨by omega, by omega, by rw [Nat.add_sub_cancel_left]; exact hb⟩]
        · rw [if_neg e]
          by_cases q : 39 ≤ j ∧ j < 39 + i ∧ bt (nI n) (j - 39) = true
          · rw [if_pos q, if_pos ⟨q.1, by omega, q.2.2⟩]
          · rw [if_neg q, if_neg (fun z => q ⟨z.1, by omega, z.2.2⟩)]
      · rw [if_neg hb, if_pos rfl]
        congr 1
        funext j
        rw [p_up]
        by_cases e : j = 39 + i
        · subst e
          rw [if_pos rfl]
          unfold fG
          rw [if_neg (by omega), if_neg (fun z => hb (by have := z.2.2; rw [Nat.add_sub_cancel_left] at this; exact this))]
        · rw [if_neg e]
          unfold fG
          by_cases q : 39 ≤ j ∧ j < 39 + i ∧ bt (nI n) (j - 39) = true
          · rw [if_pos q, if_pos ⟨q.1, by omega, q.2.2⟩]
          · rw [if_neg q, if_neg (fun z => q ⟨z.1, by omega, z.2.2⟩)]
  · exact lpuD_all 10 _ (fun i t hi => ⟨fun _ => ⟨v39 i hi, v39 i hi⟩, fun _ => v39 i hi⟩)
/-- the state of the search: the numbers of now are as they were -/
def TI (M : OV) (s : Int32) (q : Int32 × OV) : Prop := s = q.1 ∧ (s = -9 ∨ ∃ n, n < 1024 ∧ s = nI n) ∧ ∃ f, q.2 = oA M 5 f ∧ ∀ j, j < 27 → f j = M.1 5 j
theorem p_treesStep (h : RLN T co wn V7 Vr Vn Va Vac Vs Vsl VHa VHs M) {w : Nat} (hw : w < wn) (x : Int32) {i : Nat} (hi : i < 1024) {s : Int32} {q : Int32 × OV} (hI : TI M s q) :
    d_X8_trees_L3 x (nI w) i q ∧ TI M (f_X7_trees_L3 Va Vn x (nI w) i s) (f_X8_trees_L3 x (nI w) i q) := by
  obtain ⟨h1, h2, h3, h4, h5, h6, h7, h8⟩ := h
  obtain ⟨b, M'⟩ := q
  obtain ⟨i1, i2, f, i3, i4⟩ := hI
  have i1 : s = b := i1
  have i3 : M' = oA M 5 f := i3
  subst i1 i3
  have ht : f_X2_treeCells Vn = f_X8_treesNow (oA M 5 f) := p_treesNow (fun c hc => by rw [oA_rd, i4 _ (by omega), h4.2.2.2.2.2.1 c hc, Nat.zero_add])
  have hlay : f_X8_layTrial (oA M 5 f) = oA M 5 (va_cpy f f 0 27 27) := by rw [(p_lay _).1, oA_rd, oA_oA]
  have hg : ∀ j, j < 27 → fG i (va_cpy f f 0 27 27) 10 j = M.1 5 j := fun j hj => by
    unfold fG
    rw [if_neg (by omega), va_cpy_out (by omega), i4 j hj]
  have hg2 : ∀ j, j < 27 → (¬ (12 ≤ j ∧ j < 22)) → fG i (va_cpy f f 0 27 27) 10 (27 + j) = M.1 5 j := fun j hj hn => by
    unfold fG
    rw [if_neg (by omega), va_cpy_in hj, Nat.zero_add, i4 j hj]
  have hg3 : ∀ c, c < 10 → fG i (va_cpy f f 0 27 27) 10 (39 + c) = if bt (nI i) c = true then 0 else M.1 5 (12 + c) := fun c hc => by
    unfold fG
    rw [Nat.add_sub_cancel_left]
    by_cases hb : bt (nI i) c = true
    · rw [if_pos ⟨by omega, by omega, hb⟩, if_pos hb]
    · rw [if_neg (fun z => hb z.2.2), if_neg hb, show 39 + c = 27 + (12 + c) by omega, va_cpy_in (by omega), Nat.zero_add, i4 _ (by omega)]
  have P : PR co 1 (nI i) Vn (oA M 5 (fG i (va_cpy f f 0 27 27) 10)) := by
    obtain ⟨a1, a2, a3, a4, a5, a6, a7, a8, a9⟩ := h4
    refine ⟨a1, h5, fun k hk => ?_, a3, fun k hk => ?_, fun c hc => ?_, ?_, h6⟩
    · rw [oA_rd, hg2 k (by omega) (by omega), a2 k hk, Nat.zero_add]
    · rw [oA_rd, show 27 * 1 + 6 + k = 27 + (6 + k) by omega, hg2 _ (by omega) (by omega), a4 k hk, Nat.zero_add]
    · rw [oA_rd, show 27 * 1 + 12 + c = 39 + c by omega, hg3 c hc, a6 c hc, Nat.zero_add]
    · rw [oA_rd, show 27 * 1 + 23 = 27 + 23 by omega, hg2 _ (by omega) (by omega), a8]
  have B : BR co 1 Vn (oA M 5 (fG i (va_cpy f f 0 27 27) 10)) := by
    obtain ⟨a1, a2, a3, a4, a5, a6, a7, a8, a9, a10, a11⟩ := h4
    refine ⟨a1, h5, a5, ?_, ?_⟩
    · rw [oA_rd, show 27 * 1 + 22 = 27 + 22 by omega, hg2 _ (by omega) (by omega), a7]
    · rw [oA_rd, show 27 * 1 + 25 = 27 + 25 by omega, hg2 _ (by omega) (by omega), a10]
  have h7' : AR wn Va (oA M 5 (fG i (va_cpy f f 0 27 27) 10)) := h7
  have hun : f_X1_brookUnder Va Vn (nI w) (Vn.2.1 8) (nI i) = f_X8_underOf (oA M 5 (fG i (va_cpy f f 0 27 27) 10)) (1 : Int32) (nI w) ((oA M 5 (fG i (va_cpy f f 0 27 27) 10)).1 5 (24 : Int32).toNatClampNeg) := by
    have e24 : (oA M 5 (fG i (va_cpy f f 0 27 27) 10)).1 5 (24 : Int32).toNatClampNeg = Vn.2.1 8 := by
      rw [oA_rd]
      show fG i (va_cpy f f 0 27 27) 10 24 = _
      rw [hg 24 (by omega), h4.2.2.2.2.2.2.2.2.1]
    rw [e24]
    exact p_under P B h7' (by omega) h1 h2 hw _
  have hunD : ∀ z, d_X8_underOf (oA M 5 (fG i (va_cpy f f 0 27 27) 10)) (1 : Int32) (nI w) z := fun z => p_underD P B (lv := 1) (by omega) h1 (by omega) z
  have hL := p_fell (M := M) i (va_cpy f f 0 27 27)
  have hL22 : f_X8_trees_L22 i = f_X8_trees_L10 i := rfl
  have hD22 : d_X8_trees_L22 i = d_X8_trees_L10 i := rfl
  have hlD : d_X8_layTrial (oA M 5 f) := (p_lay _).2
  have keepI : TI M s (s, oA M 5 f) := ⟨rfl, i2, f, rfl, i4⟩
  have newI : TI M (if f_X1_brookUnder Va Vn (nI w) (Vn.2.1 8) (nI i) = x then nI i else s) (if f_X1_brookUnder Va Vn (nI w) (Vn.2.1 8) (nI i) = x then (nI i, oA M 5 (fG i (va_cpy f f 0 27 27) 10)) else (s, oA M 5 (fG i (va_cpy f f 0 27 27) 10))) := by
    split
    · exact ⟨rfl, Or.inr ⟨i, hi, rfl⟩, _, rfl, hg⟩
    · exact ⟨rfl, i2, _, rfl, hg⟩
  constructor
  · unfold d_X8_trees_L3
    dsimp only [kAp]
    rw [hlay, hL22, hD22, show cN (10 : Int32) = 10 from rfl, hL.1]
    exact ⟨p_treesNowD _, fun _ => ⟨fun _ => ⟨hlD, hL.2, hunD _⟩, fun _ _ => ⟨hlD, hL.2, hunD _⟩⟩⟩
  · unfold f_X7_trees_L3 f_X8_trees_L3
    dsimp only [kAp]
    rw [hlay, hL22, show cN (10 : Int32) = 10 from rfl, hL.1, ← hun, ht]
    by_cases c1 : nI i &&& (f_X8_treesNow (oA M 5 f) ^^^ (-1 : Int32)) = 0
    · rw [if_pos c1, if_pos c1]
      by_cases c2 : s = -9
      · rw [if_pos c2, if_pos c2]
        simp only [i10, if_false]
        exact newI
      · rw [if_neg c2, if_neg c2]
        have eo : f_J6_bitCount_0f7a4 s = f_X8_ones s := by
          rcases i2 with q | ⟨n, hn, q⟩
          · exact absurd q c2
          · rw [q]; exact p_ones n hn
        rw [eo, p_ones i hi]
        by_cases c3 : f_X8_ones s ≤ f_X8_ones (nI i)
        · rw [if_pos c3, if_pos c3, if_pos rfl]
          exact keepI
        · rw [if_neg c3, if_neg c3]
          simp only [i10, if_false]
          exact newI
    · rw [if_neg c1, if_neg c1]
      have : ∀ v : Int32, (if v = 0 then s else s) = s := fun v => ite_self _
      rw [ite_self]
      exact keepI
theorem p_treesLoop (h : RLN T co wn V7 Vr Vn Va Vac Vs Vsl VHa VHs M) {w : Nat} (hw : w < wn) (x : Int32) (N : Nat) (hN : N ≤ 1024) :
    lpuD (f_X8_trees_L3 x (nI w)) (d_X8_trees_L3 x (nI w)) N 0 ((-9 : Int32), M) ∧ TI M (lpu (f_X7_trees_L3 Va Vn x (nI w)) N 0 (-9 : Int32)) (lpu (f_X8_trees_L3 x (nI w)) N 0 ((-9 : Int32), M)) := by
  have I0 : TI M (-9 : Int32) ((-9 : Int32), M) := ⟨rfl, Or.inl rfl, M.1 5, (oA_self M 5).symm, fun j _ => rfl⟩
  refine ⟨?_, ?_⟩
  · exact lpuD_inv (fun _ q => ∃ s, TI M s q) N _ ⟨_, I0⟩ (fun j q hj ⟨s, hI⟩ => ⟨(p_treesStep h hw x (by omega) hI).1, _, (p_treesStep h hw x (by omega) hI).2⟩)
  · exact lpu_sim (b1 := f_X7_trees_L3 Va Vn x (nI w)) (b2 := f_X8_trees_L3 x (nI w)) (fun _ s q => TI M s q) N _ _ I0 (fun j s q hj hI => (p_treesStep h hw x (by omega) hI).2)
theorem r_trees (h : RLN T co wn V7 Vr Vn Va Vac Vs Vsl VHa VHs M) (x y : Int32) : d_X7_trees V7 Va Vn x y ∧ d_X8_trees M x y ∧ f_X7_trees V7 Va Vn x y = (f_X8_trees M x y).1 ∧ RLN T co wn V7 Vr Vn Va Vac Vs Vsl VHa VHs (f_X8_trees M x y).2 := by
  have hh := h
  obtain ⟨h1, h2, h3, h4, h5, h6, h7, h8⟩ := h
  obtain ⟨N, hN⟩ : ∃ N, N = 1024 := ⟨_, rfl⟩
  have hcM : cM (1023 : Int32) = N := by rw [hN]; decide
  have hcN : cN (1024 : Int32) = N := by rw [hN]; decide
  unfold d_X7_trees d_X8_trees f_X7_trees f_X8_trees
  rw [hcM, hcN]
  dsimp only [kAp]
  rw [p_vx2, p_isPar, p_hasW h7.1 h2, p_isW h7.2.1 h2]
  have L : ∀ w, w < wn → _ := fun w hw => p_treesLoop hh hw x N (by omega)
  refine ⟨fun _ _ => by decide, ?_⟩
  by_cases hx : 0 ≤ x.toInt ∧ x.toInt < 2
  · rw [if_pos hx]
    simp only [i10, if_false]
    by_cases hy : 0 ≤ y.toInt ∧ y.toInt < wn
    · rw [if_pos hy]
      simp only [i10, if_false]
      obtain ⟨w, hw, rfl⟩ := p_cell hy.1 (n := wn) hy.2 (by omega)
      obtain ⟨L1, L2, -, f, e, i4⟩ := L w hw
      refine ⟨fun _ _ => L1, L2, ?_⟩
      rw [e]
      exact RL_set hh (HR_block h1 h4 (fun j hj => by rw [Nat.zero_add]; exact i4 j hj))
    · rw [if_neg hy, if_pos rfl, if_pos rfl]
      exact ⟨fun _ q => absurd rfl q, rfl, hh⟩
  · rw [if_neg hx, if_pos rfl, if_pos rfl]
    exact ⟨fun q => absurd rfl q, rfl, hh⟩
end TREES
