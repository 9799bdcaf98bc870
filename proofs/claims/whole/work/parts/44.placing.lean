theorem upd_self (f : Nat → Int32) (k : Nat) : upd f k (f k) = f := funext fun j => by
  rw [p_up]
  by_cases h : j = k
  · rw [if_pos h, h]
  · rw [if_neg h]
theorem upd_upd (f : Nat → Int32) (k : Nat) (x y : Int32) : upd (upd f k x) k y = upd f k y := funext fun j => by
  rw [p_up, p_up, p_up]
  by_cases h : j = k
  · rw [if_pos h, if_pos h]
  · rw [if_neg h, if_neg h, if_neg h]
/-- what a search for plans leaves as it was -/
def KM (M M' : OV) : Prop := M'.1 = M.1 ∧ M'.2.2 = M.2.2 ∧ ∀ k, (k < 21 ∨ 24 < k) → M'.2.1 k = M.2.1 k
theorem KM_rfl (M : OV) : KM M M := ⟨rfl, rfl, fun _ _ => rfl⟩
theorem KM_trans {M M' M'' : OV} (h : KM M M') (h' : KM M' M'') : KM M M'' := ⟨h'.1.trans h.1, h'.2.1.trans h.2.1, fun k hk => (h'.2.2 k hk).trans (h.2.2 k hk)⟩
/-- the best plan so far -/
def PL (V M : OV) : Prop := V.2.1 1 = M.2.1 21 ∧ V.2.1 2 = M.2.1 22 ∧ V.2.1 3 = M.2.1 23 ∧ V.2.1 4 = M.2.1 24
def mT (M : OV) (y a b c : Int32) : OV := if y ≤ M.2.1 21 then M else oI (oI (oI (oI M 21 y) 22 a) 23 b) 24 c
theorem va_up_out {f : Nat → Int32} {k j : Nat} {x : Int32} (h : j ≠ k) : va_up f k x j = f j := va_up_ne _ _ h
theorem mT_KM (M : OV) (y a b c : Int32) : KM M (mT M y a b c) := by
  unfold mT
  split
  · exact KM_rfl M
  · refine ⟨rfl, rfl, fun k hk => ?_⟩
    show va_up (va_up (va_up (va_up M.2.1 21 y) 22 a) 23 b) 24 c k = _
    rw [va_up_ne _ _ (by omega), va_up_ne _ _ (by omega), va_up_ne _ _ (by omega), va_up_ne _ _ (by omega)]
theorem mT_PL {V M : OV} (h : PL V M) (y a b c : Int32) : PL (f_X3_tryOne V y a b c) (mT M y a b c) := by
  unfold f_X3_tryOne mT
  rw [h.1]
  split
  · exact h
  · exact ⟨rfl, rfl, rfl, rfl⟩
def QT (T co wn : Nat) (Va H M : OV) : Prop := HR T co (M.1 2) (M.1 3) H (M.1 5) 0 ∧ M.2.1 0 = nI co ∧ (∀ k, k < co → 0 ≤ (M.1 2 k).toInt) ∧ AR wn Va M ∧ co ≤ 6 ∧ wn ≤ 4
theorem QT_KM {T co wn : Nat} {Va H M M' : OV} (h : QT T co wn Va H M) (k : KM M M') : QT T co wn Va H M' := by
  obtain ⟨k1, k2, k3⟩ := k
  unfold QT AR at *
  rw [k1, k3 0 (by omega), k3 1 (by omega)]
  exact h
theorem p_yr0 {T co wn : Nat} {Va H M : OV} (h : QT T co wn Va H M) (p : Int32) : f_X1_yearOf Va H p 0 = f_X8_yearOf M p ∧ d_X8_yearOf M p := by
  obtain ⟨h1, h2, h3, h4, h5, h6⟩ := h
  have P := HR_PR (lv := 0) h1 h2 h3
  have B := HR_BR (lv := 0) h1 h2
  exact ⟨p_year P B h4 h5 h6 h1.2.2.2.2.2.2.2.2.1 p, p_yearD P B h4 h5 h6 p⟩
theorem p_yrc {T co wn c : Nat} {Va H M : OV} (h : QT T co wn Va H M) (hc : c < 10) (p : Int32) : f_X1_yearOf Va H p ((1 : Int32) <<< (nI c &&& 31)) = f_X8_yearOf (oA M 5 (upd (M.1 5) (12 + c) 0)) p ∧ d_X8_yearOf (oA M 5 (upd (M.1 5) (12 + c) 0)) p := by
  obtain ⟨h1, h2, h3, h4, h5, h6⟩ := h
  obtain ⟨a1, a2, a3, a4, a5, a6, a7, a8, a9, a10, a11⟩ := h1
  have h4' : AR wn Va (oA M 5 (upd (M.1 5) (12 + c) 0)) := h4
  have P : PR co 0 ((1 : Int32) <<< (nI c &&& 31)) H (oA M 5 (upd (M.1 5) (12 + c) 0)) := by
    refine ⟨a1, h2, fun k hk => ?_, a3, fun k hk => ?_, fun d hd => ?_, ?_, h3⟩
    · rw [oA_rd, p_up, if_neg (by omega)]; exact a2 k hk
    · rw [oA_rd, p_up, if_neg (by omega)]; exact a4 k hk
    · rw [oA_rd, p_up, p_sh (by omega) (by omega)]
      by_cases e : d = c
      · subst e; simp
      · rw [decide_eq_false e, if_neg (by omega : ¬ 27 * 0 + 12 + d = 12 + c)]
        simpa using a6 d hd
    · rw [oA_rd, p_up, if_neg (by omega)]; exact a8
  have B : BR co 0 H (oA M 5 (upd (M.1 5) (12 + c) 0)) := by
    refine ⟨a1, h2, a5, ?_, ?_⟩
    · rw [oA_rd, p_up, if_neg (by omega)]; exact a7
    · rw [oA_rd, p_up, if_neg (by omega)]; exact a10
  have e24 : H.2.1 8 = (oA M 5 (upd (M.1 5) (12 + c) 0)).1 5 24 := by rw [oA_rd, p_up, if_neg (by omega)]; exact a9
  exact ⟨p_year P B h4' h5 h6 e24 p, p_yearD P B h4' h5 h6 p⟩
theorem p_tryBody {M : OV} {p a b : Int32} {c : Nat} (hc : c < 10) : f_X8_tryTrees_L1 p a b (nI c, M) = (if M.1 5 (12 + c) ≤ 0 then .inl (nI (c + 1), M) else .inl (nI (c + 1), mT M (f_X8_yearOf (oA M 5 (upd (M.1 5) (12 + c) 0)) p) a b (nI c))) := by
  have e12 : ((12 : Int32) + nI c).toNatClampNeg = 12 + c := by
    show (nI 12 + nI c).toNatClampNeg = _
    rw [nI_add, nI_clamp (by omega)]
  have hge : ¬ (10 : Int32) ≤ nI c := nI_ge (b := 10) (by omega) (by omega)
  have hpos : (0 : Int32) ≤ nI c := nI_pos' (by omega)
  have hneg : ¬ nI c < 0 := nI_pos (by omega)
  unfold f_X8_tryTrees_L1
  dsimp only [kAp]
  rw [if_neg hge, if_pos hpos, if_neg hneg, e12, nI_1, upd_upd, upd_self, oA_self]
  split
  · rfl
  · unfold mT
    split
    · rfl
    · rfl
theorem p_tryBody0 {M : OV} {p a b : Int32} : f_X8_tryTrees_L1 p a b ((-1 : Int32), M) = .inl (nI 0, mT M (f_X8_yearOf M p) a b (-9 : Int32)) := by
  have hge : ¬ (10 : Int32) ≤ (-1 : Int32) := by decide
  have hneg : (-1 : Int32) < 0 := by decide
  have e : (-1 : Int32) + 1 = nI 0 := by decide
  unfold f_X8_tryTrees_L1
  dsimp only [kAp]
  rw [if_neg hge, if_pos hneg, e, upd_upd, upd_self, oA_self]
  unfold mT
  split
  · rfl
  · rfl
theorem p_tryLoop {T co wn : Nat} {Va H : OV} (p a b : Int32) : ∀ (k c n : Nat) (V M : OV), c + k = 10 → k + 1 ≤ n → QT T co wn Va H M → PL V M →
    lpwD (f_X8_tryTrees_L1 p a b) (d_X8_tryTrees_L1 p a b) n (nI c, M) ∧ PL (lpu (f_X3_tryTrees_L2 Va H p a b) k c V) (lpw (f_X8_tryTrees_L1 p a b) n (nI c, M)).2 ∧ KM M (lpw (f_X8_tryTrees_L1 p a b) n (nI c, M)).2
  | _, _, 0, _, _, _, hn, _, _ => by omega
  | 0, c, n + 1, V, M, hc, hn, hQ, hP => by
    have : c = 10 := by omega
    subst this
    have e : f_X8_tryTrees_L1 p a b (nI 10, M) = .inr (nI 10, M) := by
      unfold f_X8_tryTrees_L1
      rw [if_pos (by decide : (10 : Int32) ≤ nI 10)]
    refine ⟨⟨?_, fun s' hs => ?_⟩, ?_⟩
    · unfold d_X8_tryTrees_L1
      exact fun q => absurd (by decide : (10 : Int32) ≤ nI 10) q
    · rw [e] at hs; cases hs
    · simp only [lpw]
      rw [e]
      exact ⟨hP, KM_rfl M⟩
  | k + 1, c, n + 1, V, M, hc, hn, hQ, hP => by
    have e := p_tryBody (M := M) (p := p) (a := a) (b := b) (c := c) (by omega)
    have hy := p_yrc hQ (by omega : c < 10) p
    have ht : f_X7_at 10 (H.1 0) (nI c) = M.1 5 (12 + c) := by rw [p_at1 _ (by omega) (by omega : c < 10), hQ.1.2.2.2.2.2.1 c (by omega), Nat.zero_add]
    have e12 : ((12 : Int32) + nI c).toNatClampNeg = 12 + c := by
      show (nI 12 + nI c).toNatClampNeg = _
      rw [nI_add, nI_clamp (by omega)]
    have v12 : vp_in ((12 : Int32) + nI c) 54 := by
      show vp_in (nI 12 + nI c) 54
      rw [nI_add]; exact vp_in_nI (by omega) (by omega)
    have dd : d_X8_tryTrees_L1 p a b (nI c, M) := by
      unfold d_X8_tryTrees_L1
      dsimp only [kAp]
      rw [e12]
      exact fun _ => ⟨fun _ => v12, fun q => absurd q (nI_pos (by omega)), fun _ _ => ⟨v12, v12, hy.2, v12⟩⟩
    have ec : f_X3_tryTrees_L2 Va H p a b c V = if M.1 5 (12 + c) ≤ 0 then V else f_X3_tryOne V (f_X8_yearOf (oA M 5 (upd (M.1 5) (12 + c) 0)) p) a b (nI c) := by
      unfold f_X3_tryTrees_L2
      dsimp only [kAp]
      rw [ht, hy.1]
    show _ ∧ PL (lpu (f_X3_tryTrees_L2 Va H p a b) k (c + 1) (f_X3_tryTrees_L2 Va H p a b c V)) _ ∧ _
    rw [ec]
    by_cases q : M.1 5 (12 + c) ≤ 0
    · rw [if_pos q] at e ⊢
      have ih := p_tryLoop p a b k (c + 1) n V M (by omega) (by omega) hQ hP
      refine ⟨⟨dd, fun s' hs => ?_⟩, ?_⟩
      · rw [e] at hs; cases hs; exact ih.1
      · simp only [lpw]
        rw [e]
        exact ih.2
    · rw [if_neg q] at e ⊢
      have hk := mT_KM M (f_X8_yearOf (oA M 5 (upd (M.1 5) (12 + c) 0)) p) a b (nI c)
      have ih := p_tryLoop p a b k (c + 1) n _ _ (by omega) (by omega) (QT_KM hQ hk) (mT_PL hP (f_X8_yearOf (oA M 5 (upd (M.1 5) (12 + c) 0)) p) a b (nI c))
      refine ⟨⟨dd, fun s' hs => ?_⟩, ?_⟩
      · rw [e] at hs; cases hs; exact ih.1
      · simp only [lpw]
        rw [e]
        exact ⟨ih.2.1, KM_trans hk ih.2.2⟩
theorem lpw_go {σ : Type} {b : σ → σ ⊕ σ} {n : Nat} {s s' : σ} (h : b s = .inl s') : lpw b (n + 1) s = lpw b n s' := by simp only [lpw]; rw [h]
theorem lpw_no {σ : Type} {b : σ → σ ⊕ σ} {n : Nat} {s s' : σ} (h : b s = .inr s') : lpw b (n + 1) s = s' := by simp only [lpw]; rw [h]
theorem p_tryTreesG {T co wn : Nat} {Va H V M : OV} (hQ : QT T co wn Va H M) (p a b : Int32) (hP : PL (f_X3_tryOne V (f_X8_yearOf M p) a b (-9 : Int32)) (mT M (f_X8_yearOf M p) a b (-9 : Int32))) :
    d_X8_tryTrees M p a b ∧ PL (f_X3_tryTrees V Va H p a b) (f_X8_tryTrees M p a b) ∧ KM M (f_X8_tryTrees M p a b) := by
  have hy := p_yr0 hQ p
  have hk := mT_KM M (f_X8_yearOf M p) a b (-9 : Int32)
  have ih := p_tryLoop (H := H) p a b 10 0 69 _ _ (by omega) (by omega) (QT_KM hQ hk) hP
  have e := p_tryBody0 (M := M) (p := p) (a := a) (b := b)
  have dd : d_X8_tryTrees_L1 p a b ((-1 : Int32), M) := by
    unfold d_X8_tryTrees_L1
    dsimp only [kAp]
    have h12 : vp_in ((12 : Int32) + (0 : Int32)) 54 := vp_in_nI (n := 12) (by omega) (by omega)
    rw [upd_self, oA_self]
    exact fun _ => ⟨fun q => absurd q (by decide), fun _ => ⟨h12, h12, hy.2, h12⟩, fun q => absurd (by decide) q⟩
  have e70 : lpw (f_X8_tryTrees_L1 p a b) 70 ((-1 : Int32), M) = lpw (f_X8_tryTrees_L1 p a b) 69 (nI 0, mT M (f_X8_yearOf M p) a b (-9 : Int32)) := lpw_go (n := 69) e
  refine ⟨⟨dd, fun s' hs => ?_⟩, ?_⟩
  · rw [e] at hs; cases hs; exact ih.1
  · unfold f_X3_tryTrees f_X8_tryTrees
    dsimp only [kAp]
    rw [e70, hy.1, show cN (10 : Int32) = 10 from rfl]
    exact ⟨ih.2.1, KM_trans hk ih.2.2⟩
theorem p_tryTrees {T co wn : Nat} {Va H V M : OV} (hQ : QT T co wn Va H M) (hP : PL V M) (p a b : Int32) :
    d_X8_tryTrees M p a b ∧ PL (f_X3_tryTrees V Va H p a b) (f_X8_tryTrees M p a b) ∧ KM M (f_X8_tryTrees M p a b) := p_tryTreesG hQ p a b (mT_PL hP _ _ _ _)
theorem p_yrpos {T co wn : Nat} {Va H M : OV} (h : QT T co wn Va H M) (p : Int32) : ∃ u, u ≤ 36 ∧ f_X8_yearOf M p = nI u := by
  obtain ⟨h1, h2, h3, h4, h5, h6⟩ := h
  unfold f_X8_yearOf
  dsimp only [kAp]
  rw [h4.2.1, cN_nI (by omega)]
  have := lpu_inv (body := f_X8_yearOf_L1 M p) (fun i s => ∃ u, u ≤ 9 * i ∧ s = nI u) wn 0 ⟨0, by omega, rfl⟩ (fun i s hi hI => by
    obtain ⟨u, hu, rfl⟩ := hI
    obtain ⟨d, d1, d2, e⟩ := h4.2.2.2.2.2 i hi
    unfold f_X8_yearOf_L1
    rw [iw_2 (by omega), e, nI_add, Int32.add_zero]
    split
    · exact ⟨u + d, by omega, rfl⟩
    · exact ⟨u, by omega, rfl⟩)
  obtain ⟨u, hu, e⟩ := this
  exact ⟨u, by omega, e⟩
theorem mT_PL0 {V M : OV} (hV : V.2.1 1 = -1) (hM : M.2.1 21 = -1) {u : Nat} (hu : u ≤ 36) (a b c : Int32) : PL (f_X3_tryOne V (nI u) a b c) (mT M (nI u) a b c) := by
  have hn : ¬ nI u ≤ (-1 : Int32) := by
    rw [Int32.le_iff_toInt_le, nI_toInt (by omega)]
    have z : (-1 : Int32).toInt = -1 := rfl
    omega
  unfold f_X3_tryOne mT
  rw [hV, hM, if_neg hn, if_neg hn]
  exact ⟨rfl, rfl, rfl, rfl⟩
