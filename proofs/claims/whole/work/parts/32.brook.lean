theorem lpu_snoc {σ : Type} (body : Nat → σ → σ) : ∀ (n i : Nat) (s : σ), lpu body (n + 1) i s = body (i + n) (lpu body n i s)
  | 0, _, _ => rfl
  | n + 1, i, s => by
    have h := lpu_snoc body n (i + 1) (body i s)
    show lpu body (n + 1) (i + 1) (body i s) = _
    rw [h, show i + 1 + n = i + (n + 1) by omega]
    rfl
theorem p_r1 (a b v : Int32) : (a - b) + v = (a + v) - b := by
  simp only [Int32.sub_eq_add_neg]
  rw [Int32.add_assoc, Int32.add_comm (-b) v, ← Int32.add_assoc]
theorem p_r2 (a b v : Int32) : (a - b) + (-v) = a - (b + v) := by
  simp only [Int32.sub_eq_add_neg]
  rw [Int32.neg_add, Int32.sub_eq_add_neg, Int32.add_assoc]
theorem p_r3 (a b v : Int32) : (a + (-v)) - b = a - (b + v) := by
  simp only [Int32.sub_eq_add_neg]
  rw [Int32.neg_add, Int32.sub_eq_add_neg, Int32.add_assoc, Int32.add_comm (-v) (-b)]
/-- whose the brook is: what it needs -/
def BR (co lv : Nat) (H M : OV) : Prop := H.2.1 5 = nI co ∧ M.2.1 0 = nI co ∧ (∀ k, k < co → H.1 4 k = M.1 3 k) ∧ H.2.1 6 = M.1 5 (27 * lv + 22) ∧ H.2.1 9 = M.1 5 (27 * lv + 25)
theorem p_w0 {lv k : Nat} {M : OV} (hlv : lv < 2) (hk : k < 6) (P s : Int32) : f_X8_weightOf_L1 M (nI lv) 0 P k s = if bt (M.1 5 (27 * lv + 22)) k = false ∧ bt P k = true then s + M.1 3 k else s := by
  unfold f_X8_weightOf_L1
  dsimp only [kAp]
  rw [ix_22 hlv, p_bit _ (by omega), nI_clamp (by omega), p_has _ (by omega)]
  cases bt (M.1 5 (27 * lv + 22)) k <;> cases bt P k <;> simp
theorem p_w1 {lv k : Nat} {M : OV} (hlv : lv < 2) (hk : k < 6) (P s : Int32) : f_X8_weightOf_L1 M (nI lv) 1 P k s = if bt (M.1 5 (27 * lv + 22)) k = true ∧ bt P k = false then s + M.1 3 k else s := by
  unfold f_X8_weightOf_L1
  dsimp only [kAp]
  rw [ix_22 hlv, p_bit _ (by omega), nI_clamp (by omega), p_has _ (by omega)]
  cases bt (M.1 5 (27 * lv + 22)) k <;> cases bt P k <;> simp
theorem p_lb {co lv k : Nat} {H M : OV} (R : BR co lv H M) (hco : co ≤ 6) (hk : k < co) (P s : Int32) : f_X2_brookBy_L1 H P k s = if bt (M.1 5 (27 * lv + 22)) k = true then (if bt P k = true then s else s + (-(M.1 3 k))) else (if bt P k = true then s + M.1 3 k else s) := by
  unfold f_X2_brookBy_L1
  dsimp only [kAp]
  rw [p_X7bit _ (by omega), p_X7bit _ (by omega), p_at1 _ (by omega) (by omega : k < 6), R.2.2.1 k hk, R.2.2.2.1, b_xor]
  cases bt (M.1 5 (27 * lv + 22)) k <;> cases bt P k <;> simp
theorem p_lead {co lv : Nat} {H M : OV} (R : BR co lv H M) (hlv : lv < 2) (hco : co ≤ 6) (P : Int32) :
    ∀ n, n ≤ co → lpu (f_X2_brookBy_L1 H P) n 0 0 = lpu (f_X8_weightOf_L1 M (nI lv) 0 P) n 0 0 - lpu (f_X8_weightOf_L1 M (nI lv) 1 P) n 0 0
  | 0, _ => by simp [lpu]
  | n + 1, hn => by
    have ih := p_lead R hlv hco P n (by omega)
    rw [lpu_snoc, lpu_snoc, lpu_snoc, Nat.zero_add, ih, p_lb R hco (by omega), p_w0 hlv (by omega), p_w1 hlv (by omega)]
    cases h1 : bt (M.1 5 (27 * lv + 22)) n <;> cases h2 : bt P n <;> simp [p_r1, p_r2, p_r3]
theorem p_brook {co lv : Nat} {H M : OV} (R : BR co lv H M) (hlv : lv < 2) (hco : co ≤ 6) (P : Int32) : f_X2_brookBy H P = f_X8_brookBy M (nI lv) P := by
  have h1 : cN (H.2.1 5) = co := by rw [R.1]; exact cN_nI (by omega)
  have h2 : cN (M.2.1 0) = co := by rw [R.2.1]; exact cN_nI (by omega)
  unfold f_X2_brookBy f_X8_brookBy f_X8_weightOf
  dsimp only [kAp]
  rw [h1, h2, p_lead R hlv hco P co (Nat.le_refl _), ix_25 hlv, R.2.2.2.2]
  have key : ∀ z y : Int32, (if z = 0 then y else if z ≤ 0 then (1 : Int32) else 0) = if z ≤ 0 then (if 0 ≤ z then y else 1) else 0 := by
    intro z y
    have z0 : (0 : Int32).toInt = 0 := rfl
    by_cases hz : z = 0
    · subst hz; simp
    · rw [if_neg hz]
      have hz2 : ¬ z.toInt = 0 := fun q => hz (Int32.toInt_inj.mp (by rw [q]; rfl))
      by_cases hl : z ≤ 0
      · rw [if_pos hl, if_pos hl, if_neg]
        rw [Int32.le_iff_toInt_le, z0] at hl ⊢
        omega
      · rw [if_neg hl, if_neg hl]
  exact key _ _
theorem p_brookD {co lv : Nat} {H M : OV} (R : BR co lv H M) (hlv : lv < 2) (hco : co ≤ 6) (P : Int32) : d_X8_brookBy M (nI lv) P := by
  have h2 : cN (M.2.1 0) = co := by rw [R.2.1]; exact cN_nI (by omega)
  have hw : ∀ x, d_X8_weightOf M (nI lv) x P := fun x => by
    unfold d_X8_weightOf
    rw [h2]
    exact lpuD_all co _ (fun k t hk => ⟨vx_0 (k := 22) hlv (by omega), fun _ _ => vp_in_nI (by omega) (by omega)⟩)
  exact ⟨hw _, hw _, fun _ _ => vx_0 (k := 25) hlv (by omega)⟩
theorem p_under {co lv w wn : Nat} {fe : Int32} {Va H M : OV} (R : PR co lv fe H M) (B : BR co lv H M) (hA : AR wn Va M) (hlv : lv < 2) (hco : co ≤ 6) (hwn : wn ≤ 4) (hw : w < wn) (held : Int32) :
    f_X1_brookUnder Va H (nI w) held fe = f_X8_underOf M (nI lv) (nI w) held := by
  unfold f_X1_brookUnder f_X8_underOf
  rw [p_ways R hA hlv hco hwn hw, p_brook B hlv hco]
theorem p_underD {co lv w : Nat} {fe : Int32} {H M : OV} (R : PR co lv fe H M) (B : BR co lv H M) (hlv : lv < 2) (hco : co ≤ 6) (hw : w < 4) (held : Int32) : d_X8_underOf M (nI lv) (nI w) held :=
  ⟨p_waysD R hlv hco hw held, p_brookD B hlv hco _⟩
/-- days in a year -/
theorem p_year {co wn : Nat} {fe : Int32} {Va H M : OV} (R : PR co 0 fe H M) (B : BR co 0 H M) (hA : AR wn Va M) (hco : co ≤ 6) (hwn : wn ≤ 4) (hh : H.2.1 8 = M.1 5 24) (p : Int32) :
    f_X1_yearOf Va H p fe = f_X8_yearOf M p := by
  have h1 : cN (Va.2.1 3) = wn := by rw [hA.1]; exact cN_nI (by omega)
  have h2 : cN (M.2.1 1) = wn := by rw [hA.2.1]; exact cN_nI (by omega)
  unfold f_X1_yearOf f_X8_yearOf
  dsimp only [kAp]
  rw [h1, h2]
  refine lpu_eq wn 0 (fun w s hw => ?_)
  unfold f_X1_yearOf_L1 f_X8_yearOf_L1
  have hu : f_X1_brookUnder Va H (nI w) (H.2.1 8) fe = f_X8_underOf M (0 : Int32) (nI w) (M.1 5 (24 : Int32).toNatClampNeg) := by
    rw [hh]; exact p_under R B hA (by omega) hco hwn hw _
  rw [hu, p_at1 _ (by omega) (by omega : w < 4), iw_2 (by omega), hA.2.2.2.2.1 w hw]
  split <;> simp
theorem p_yearD {co wn : Nat} {fe : Int32} {Va H M : OV} (R : PR co 0 fe H M) (B : BR co 0 H M) (hA : AR wn Va M) (hco : co ≤ 6) (hwn : wn ≤ 4) (p : Int32) : d_X8_yearOf M p := by
  have h2 : cN (M.2.1 1) = wn := by rw [hA.2.1]; exact cN_nI (by omega)
  unfold d_X8_yearOf
  rw [h2]
  exact lpuD_all wn _ (fun w s hw => ⟨p_underD R B (lv := 0) (by omega) hco (by omega) _, fun _ => vw_k (k := 2) (by omega) (by omega)⟩)
/-- the weights as all point now -/
theorem p_weights {co : Nat} {H M : OV} (B : BR co 0 H M) (hway : H.2.1 7 = M.1 5 23) (hco : co ≤ 6) : f_X2_weightFor H 0 = f_X8_weightOf M 0 0 (M.1 5 (23 : Int32).toNatClampNeg) ∧ f_X2_weightFor H 1 = f_X8_weightOf M 0 1 (M.1 5 (23 : Int32).toNatClampNeg) := by
  have h1 : cN (H.2.1 5) = co := by rw [B.1]; exact cN_nI (by omega)
  have h2 : cN (M.2.1 0) = co := by rw [B.2.1]; exact cN_nI (by omega)
  unfold f_X2_weightFor f_X8_weightOf
  dsimp only [kAp]
  rw [h1, h2]
  refine ⟨lpu_eq co 0 (fun k s hk => ?_), lpu_eq co 0 (fun k s hk => ?_)⟩
  · have h3 : f_X8_weightOf_L1 M 0 0 (M.1 5 (23 : Int32).toNatClampNeg) k s = _ := p_w0 (lv := 0) (M := M) (by omega) (by omega : k < 6) (M.1 5 (23 : Int32).toNatClampNeg) s
    rw [h3]
    unfold f_X2_weightFor_L1
    rw [p_X7bit _ (by omega), p_X7bit _ (by omega), p_at1 _ (by omega) (by omega : k < 6), B.2.2.1 k hk, B.2.2.2.1, hway]
    show _ = if bt (M.1 5 (27 * 0 + 22)) k = false ∧ bt (M.1 5 23) k = true then s + M.1 3 k else s
    cases bt (M.1 5 (27 * 0 + 22)) k <;> cases bt (M.1 5 23) k <;> simp
  · have h3 : f_X8_weightOf_L1 M 0 1 (M.1 5 (23 : Int32).toNatClampNeg) k s = _ := p_w1 (lv := 0) (M := M) (by omega) (by omega : k < 6) (M.1 5 (23 : Int32).toNatClampNeg) s
    rw [h3]
    unfold f_X2_weightFor_L1
    rw [p_X7bit _ (by omega), p_X7bit _ (by omega), p_at1 _ (by omega) (by omega : k < 6), B.2.2.1 k hk, B.2.2.2.1, hway]
    show _ = if bt (M.1 5 (27 * 0 + 22)) k = true ∧ bt (M.1 5 23) k = false then s + M.1 3 k else s
    cases bt (M.1 5 (27 * 0 + 22)) k <;> cases bt (M.1 5 23) k <;> simp
