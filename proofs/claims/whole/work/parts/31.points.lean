/-! ===== places in the other side's rows ===== -/
theorem ix_0 {lv k : Nat} (h : lv < 2) (hk : k < 27) : (((27 : Int32) * nI lv) + nI k).toNatClampNeg = 27 * lv + k := by
  show (nI 27 * nI lv + nI k).toNatClampNeg = _
  rw [pk_mul, nI_add, nI_clamp (by omega)]
theorem ix_6 {lv k : Nat} (h : lv < 2) (hk : k < 6) : ((((27 : Int32) * nI lv) + (6 : Int32)) + nI k).toNatClampNeg = 27 * lv + 6 + k := by
  show (nI 27 * nI lv + nI 6 + nI k).toNatClampNeg = _
  rw [pk_mul, nI_add, nI_add, nI_clamp (by omega)]
theorem ix_12 {lv k : Nat} (h : lv < 2) (hk : k < 10) : ((((27 : Int32) * nI lv) + (12 : Int32)) + nI k).toNatClampNeg = 27 * lv + 12 + k := by
  show (nI 27 * nI lv + nI 12 + nI k).toNatClampNeg = _
  rw [pk_mul, nI_add, nI_add, nI_clamp (by omega)]
theorem ix_22 {lv : Nat} (h : lv < 2) : (((27 : Int32) * nI lv) + (22 : Int32)).toNatClampNeg = 27 * lv + 22 := ix_0 (k := 22) h (by omega)
theorem ix_23 {lv : Nat} (h : lv < 2) : (((27 : Int32) * nI lv) + (23 : Int32)).toNatClampNeg = 27 * lv + 23 := ix_0 (k := 23) h (by omega)
theorem ix_24 {lv : Nat} (h : lv < 2) : (((27 : Int32) * nI lv) + (24 : Int32)).toNatClampNeg = 27 * lv + 24 := ix_0 (k := 24) h (by omega)
theorem ix_25 {lv : Nat} (h : lv < 2) : (((27 : Int32) * nI lv) + (25 : Int32)).toNatClampNeg = 27 * lv + 25 := ix_0 (k := 25) h (by omega)
theorem ix_26 {lv : Nat} (h : lv < 2) : (((27 : Int32) * nI lv) + (26 : Int32)).toNatClampNeg = 27 * lv + 26 := ix_0 (k := 26) h (by omega)
theorem vx_0 {lv k : Nat} (h : lv < 2) (hk : k < 27) : vp_in (((27 : Int32) * nI lv) + nI k) 54 := by
  show vp_in (nI 27 * nI lv + nI k) 54
  rw [pk_mul, nI_add]
  exact vp_in_nI (by omega) (by omega)
theorem vx_6 {lv k : Nat} (h : lv < 2) (hk : k < 6) : vp_in ((((27 : Int32) * nI lv) + (6 : Int32)) + nI k) 54 := by
  show vp_in (nI 27 * nI lv + nI 6 + nI k) 54
  rw [pk_mul, nI_add, nI_add]
  exact vp_in_nI (by omega) (by omega)
theorem vx_12 {lv k : Nat} (h : lv < 2) (hk : k < 10) : vp_in ((((27 : Int32) * nI lv) + (12 : Int32)) + nI k) 54 := by
  show vp_in (nI 27 * nI lv + nI 12 + nI k) 54
  rw [pk_mul, nI_add, nI_add]
  exact vp_in_nI (by omega) (by omega)
theorem iw_0 {w : Nat} (h : w < 4) : ((3 : Int32) * nI w).toNatClampNeg = 3 * w := by
  show (nI 3 * nI w).toNatClampNeg = _
  rw [pk_mul, nI_clamp (by omega)]
theorem iw_k {w k : Nat} (h : w < 4) (hk : k < 3) : (((3 : Int32) * nI w) + nI k).toNatClampNeg = 3 * w + k := by
  show (nI 3 * nI w + nI k).toNatClampNeg = _
  rw [pk_mul, nI_add, nI_clamp (by omega)]
theorem iw_1 {w : Nat} (h : w < 4) : (((3 : Int32) * nI w) + (1 : Int32)).toNatClampNeg = 3 * w + 1 := iw_k (k := 1) h (by omega)
theorem iw_2 {w : Nat} (h : w < 4) : (((3 : Int32) * nI w) + (2 : Int32)).toNatClampNeg = 3 * w + 2 := iw_k (k := 2) h (by omega)
theorem vw_k {w k : Nat} (h : w < 4) (hk : k < 3) : vp_in (((3 : Int32) * nI w) + nI k) 12 := by
  show vp_in (nI 3 * nI w + nI k) 12
  rw [pk_mul, nI_add]
  exact vp_in_nI (by omega) (by omega)
theorem vw_0 {w : Nat} (h : w < 4) : vp_in ((3 : Int32) * nI w) 12 := by
  show vp_in (nI 3 * nI w) 12
  rw [pk_mul]
  exact vp_in_nI (by omega) (by omega)
/-! ===== a hill against a block of the other side's numbers ===== -/
/-- what a wind needs of them: the cocks' cells, heights, rusts; the trees, those of fe felled; the ways -/
def PR (co lv : Nat) (fe : Int32) (H M : OV) : Prop :=
  H.2.1 5 = nI co ∧ M.2.1 0 = nI co ∧ (∀ k, k < co → H.1 1 k = M.1 5 (27 * lv + k)) ∧ (∀ k, k < co → H.1 2 k = M.1 2 k) ∧ (∀ k, k < co → H.1 3 k = M.1 5 (27 * lv + 6 + k)) ∧
  (∀ c, c < 10 → (if bt fe c = true then 0 else H.1 0 c) = M.1 5 (27 * lv + 12 + c)) ∧ H.2.1 7 = M.1 5 (27 * lv + 23) ∧ (∀ k, k < co → 0 ≤ (M.1 2 k).toInt)
/-- the winds -/
def AR (wn : Nat) (Va M : OV) : Prop :=
  Va.2.1 3 = nI wn ∧ M.2.1 1 = nI wn ∧ (∀ w, w < wn → Va.1 0 w = M.1 4 (3 * w)) ∧ (∀ w, w < wn → Va.1 1 w = M.1 4 (3 * w + 1)) ∧ (∀ w, w < wn → Va.1 2 w = M.1 4 (3 * w + 2)) ∧ (∀ w, w < wn → ∃ d : Nat, 1 ≤ d ∧ d < 10 ∧ M.1 4 (3 * w + 2) = nI d)
/-- the wind of this goal and strength turns the cock, nobody being held -/
abbrev tnP (M : OV) (lv : Nat) (goal str : Int32) (k : Nat) : Prop := ¬ str ≤ M.1 5 (27 * lv + 6 + k) ∧ f_X8_isSheltered M (nI lv) (nI k) goal = 0
theorem p_shel {co lv k : Nat} {fe : Int32} {H M : OV} (R : PR co lv fe H M) (hlv : lv < 2) (hco : co ≤ 6) (hk : k < co) (goal : Int32) :
    (H.1 2 k < (if f_X7_bit fe (H.1 1 k + (if goal = (1 : Int32) then (-1 : Int32) else (1 : Int32))) = (1 : Int32) then (0 : Int32) else f_X7_at 10 (H.1 0) (H.1 1 k + (if goal = (1 : Int32) then (-1 : Int32) else (1 : Int32))))) ↔ ¬ f_X8_isSheltered M (nI lv) (nI k) goal = 0 := by
  obtain ⟨-, -, hc, hh, -, ht, -, h0⟩ := R
  unfold f_X8_isSheltered
  dsimp only [kAp]
  rw [ix_0 hlv (by omega : k < 27), nI_clamp (by omega : k < 2 ^ 31), ← hc k hk, ← hh k hk, p_in]
  generalize H.1 1 k + (if goal = (1 : Int32) then (-1 : Int32) else (1 : Int32)) = W
  have hhk : 0 ≤ (H.1 2 k).toInt := by rw [hh k hk]; exact h0 k hk
  generalize H.1 2 k = hgt at hhk ⊢
  have e0 : (0 : Int64).toInt = 0 := rfl
  have e9 : (9 : Int64).toInt = 9 := rfl
  have z0 : (0 : Int32).toInt = 0 := rfl
  rw [e0, e9]
  by_cases hW : 0 ≤ W.toInt ∧ W.toInt ≤ 9
  · obtain ⟨z, hz, rfl⟩ := p_cell hW.1 (n := 10) (by omega) (by omega)
    rw [if_pos hW, if_neg (by decide : ¬ (1 : Int32) = 0), ix_12 hlv hz, ← ht z hz, p_X7bit fe (by omega : z < 32), p_at1 _ (by omega) hz]
    cases hb : bt fe z
    · simp only [Bool.false_eq_true, if_false]
      rw [if_neg (by decide : ¬ (0 : Int32) = 1)]
      by_cases hle : H.1 0 z ≤ hgt
      · rw [if_pos hle]; rw [Int32.le_iff_toInt_le] at hle; rw [Int32.lt_iff_toInt_lt]; simp; omega
      · rw [if_neg hle]; rw [Int32.le_iff_toInt_le] at hle; rw [Int32.lt_iff_toInt_lt]; simp; omega
    · simp only [if_true]
      rw [if_pos (Int32.le_iff_toInt_le.mpr (by rw [z0]; exact hhk)), Int32.lt_iff_toInt_lt, z0]
      simp
      omega
  · rw [if_neg hW, if_pos rfl, p_atout _ (by omega) (by omega)]
    simp only [ite_self]
    rw [Int32.lt_iff_toInt_lt]
    simp
    omega
theorem p_yb {co lv k : Nat} {fe : Int32} {H M : OV} (R : PR co lv fe H M) (hlv : lv < 2) (hco : co ≤ 6) (hk : k < co) (goal str s : Int32) :
    f_X2_yieldingTo_L1 H goal str fe k s = if tnP M lv goal str k then s ||| ((1 : Int32) <<< (nI k &&& 31)) else s := by
  have h1 := p_shel R hlv hco hk goal
  unfold f_X2_yieldingTo_L1
  dsimp only [kAp]
  rw [p_at1 _ (by omega) (by omega : k < 6), p_at1 _ (by omega) (by omega : k < 6), p_at1 _ (by omega) (by omega : k < 6), R.2.2.2.2.1 k hk]
  by_cases h2 : str ≤ M.1 5 (27 * lv + 6 + k)
  · rw [if_pos h2, if_neg (fun q => q.1 h2)]
  · rw [if_neg h2]
    by_cases h3 : f_X8_isSheltered M (nI lv) (nI k) goal = 0
    · rw [if_neg (fun q => h1.mp q h3), if_pos ⟨h2, h3⟩]
    · rw [if_pos (h1.mpr h3), if_neg (fun q => h3 q.2)]
theorem p_yield {co lv : Nat} {fe : Int32} {H M : OV} (R : PR co lv fe H M) (hlv : lv < 2) (hco : co ≤ 6) (goal str : Int32) {j : Nat} (hj : j < 32) :
    bt (f_X2_yieldingTo H goal str fe) j = decide (j < co ∧ tnP M lv goal str j) := by
  have hcN : cN (H.2.1 5) = co := by rw [R.1]; exact cN_nI (by omega)
  unfold f_X2_yieldingTo
  dsimp only [kAp]
  rw [hcN]
  refine lpu_inv (fun i s => ∀ j, j < 32 → bt s j = decide (j < i ∧ tnP M lv goal str j)) co 0 (fun j _ => by rw [b_0]; simp) (fun i s hi hI j hj => ?_) j hj
  rw [p_yb R hlv hco hi]
  by_cases hT : tnP M lv goal str i
  · rw [if_pos hT, b_or, hI j hj, p_sh (by omega) hj]
    by_cases hji : j = i
    · subst hji; simp [hT]
    · rw [decide_eq_false hji, Bool.or_false]
      exact decide_eq_decide.mpr ⟨fun q => ⟨by omega, q.2⟩, fun q => ⟨by omega, q.2⟩⟩
  · rw [if_neg hT, hI j hj]
    refine decide_eq_decide.mpr ⟨fun q => ⟨by omega, q.2⟩, fun q => ⟨?_, q.2⟩⟩
    rcases Nat.lt_or_ge j i with h | h
    · exact h
    · have : j = i := by omega
      subst this; exact absurd q.2 hT
theorem p_pb {co lv w k : Nat} {fe : Int32} {H M : OV} (_R : PR co lv fe H M) (hlv : lv < 2) (hco : co ≤ 6) (hw : w < 4) (hk : k < co) (held s : Int32) :
    f_X8_pointsBy_L2 M (nI lv) (nI w) held k s = if tnP M lv (M.1 4 (3 * w)) (M.1 4 (3 * w + 1)) k ∧ bt held k = false then (if M.1 4 (3 * w) = (1 : Int32) then s ||| ((1 : Int32) <<< (nI k &&& 31)) else s &&& (((1 : Int32) <<< (nI k &&& 31)) ^^^ (-1 : Int32))) else s := by
  unfold f_X8_pointsBy_L2
  dsimp only [kAp]
  rw [iw_1 hw, iw_0 hw, ix_6 hlv (by omega : k < 6), p_has held (by omega : k < 32)]
  by_cases h2 : M.1 4 (3 * w + 1) ≤ M.1 5 (27 * lv + 6 + k)
  · simp [tnP, h2]
  · by_cases h3 : f_X8_isSheltered M (nI lv) (nI k) (M.1 4 (3 * w)) = 0
    · cases hb : bt held k <;> simp [tnP, h2, h3]
    · cases hb : bt held k <;> simp [tnP, h2, h3]
theorem p_pts {co lv w : Nat} {fe : Int32} {H M : OV} (R : PR co lv fe H M) (hlv : lv < 2) (hco : co ≤ 6) (hw : w < 4) (held : Int32) {j : Nat} (hj : j < 32) :
    bt (f_X8_pointsBy M (nI lv) (nI w) held) j = if j < co ∧ tnP M lv (M.1 4 (3 * w)) (M.1 4 (3 * w + 1)) j ∧ bt held j = false then decide (M.1 4 (3 * w) = 1) else bt (M.1 5 (27 * lv + 23)) j := by
  have hcN : cN (M.2.1 0) = co := by rw [R.2.1]; exact cN_nI (by omega)
  unfold f_X8_pointsBy
  dsimp only [kAp]
  rw [hcN, ix_23 hlv]
  refine lpu_inv (fun i s => ∀ j, j < 32 → bt s j = if j < i ∧ tnP M lv (M.1 4 (3 * w)) (M.1 4 (3 * w + 1)) j ∧ bt held j = false then decide (M.1 4 (3 * w) = 1) else bt (M.1 5 (27 * lv + 23)) j) co (M.1 5 (27 * lv + 23)) (fun j _ => by simp) (fun i s hi hI j hj => ?_) j hj
  rw [p_pb R hlv hco hw hi]
  by_cases hT : tnP M lv (M.1 4 (3 * w)) (M.1 4 (3 * w + 1)) i ∧ bt held i = false
  · rw [if_pos hT]
    by_cases hji : j = i
    · subst hji
      rw [if_pos (show j < j + 1 ∧ _ from ⟨by omega, hT⟩)]
      by_cases hg : M.1 4 (3 * w) = 1
      · rw [if_pos hg, b_or, p_sh (by omega) hj]; simp [hg]
      · rw [if_neg hg, b_and, p_nt hj, p_sh (by omega) hj]; simp [hg]
    · have hb : bt (if M.1 4 (3 * w) = (1 : Int32) then s ||| ((1 : Int32) <<< (nI i &&& 31)) else s &&& (((1 : Int32) <<< (nI i &&& 31)) ^^^ (-1 : Int32))) j = bt s j := by
        by_cases hg : M.1 4 (3 * w) = 1
        · rw [if_pos hg, b_or, p_sh (by omega) hj]; simp [hji]
        · rw [if_neg hg, b_and, p_nt hj, p_sh (by omega) hj]; simp [hji]
      rw [hb, hI j hj]
      by_cases hq : j < i ∧ tnP M lv (M.1 4 (3 * w)) (M.1 4 (3 * w + 1)) j ∧ bt held j = false
      · rw [if_pos hq, if_pos ⟨by omega, hq.2⟩]
      · rw [if_neg hq, if_neg (fun z => hq ⟨by omega, z.2⟩)]
  · rw [if_neg hT, hI j hj]
    by_cases hq : j < i ∧ tnP M lv (M.1 4 (3 * w)) (M.1 4 (3 * w + 1)) j ∧ bt held j = false
    · rw [if_pos hq, if_pos ⟨by omega, hq.2⟩]
    · rw [if_neg hq, if_neg (fun z => hq ⟨by
        rcases Nat.lt_or_ge j i with h | h
        · exact h
        · have : j = i := by omega
          subst this; exact absurd z.2 hT, z.2⟩)]
/-- how all point behind a wind: the same on both sides -/
theorem p_ways {co lv w wn : Nat} {fe : Int32} {Va H M : OV} (R : PR co lv fe H M) (hA : AR wn Va M) (hlv : lv < 2) (hco : co ≤ 6) (hwn : wn ≤ 4) (hw : w < wn) (held : Int32) :
    f_X1_waysBehind Va H (nI w) held fe = f_X8_pointsBy M (nI lv) (nI w) held := by
  refine b_ext fun j hj => ?_
  rw [p_pts R hlv hco (by omega) held hj]
  unfold f_X1_waysBehind
  rw [p_at1 _ (by omega) (by omega : w < 4), p_at1 _ (by omega) (by omega : w < 4), hA.2.2.1 w hw, hA.2.2.2.1 w hw, R.2.2.2.2.2.2.1]
  by_cases hg : M.1 4 (3 * w) = 1
  · rw [if_pos hg, b_or, b_and, p_nt hj, p_yield R hlv hco _ _ hj]
    by_cases hq : j < co ∧ tnP M lv (M.1 4 (3 * w)) (M.1 4 (3 * w + 1)) j
    · cases hb : bt held j
      · rw [if_pos ⟨hq.1, hq.2, rfl⟩, decide_eq_true hq]; simp [hg]
      · rw [if_neg (fun z => by cases z.2.2)]; simp
    · rw [if_neg (fun z => hq ⟨z.1, z.2.1⟩), decide_eq_false hq]; simp
  · rw [if_neg hg, b_and, p_nt hj, b_and, p_nt hj, p_yield R hlv hco _ _ hj]
    by_cases hq : j < co ∧ tnP M lv (M.1 4 (3 * w)) (M.1 4 (3 * w + 1)) j
    · cases hb : bt held j
      · rw [if_pos ⟨hq.1, hq.2, rfl⟩, decide_eq_true hq]; simp [hg]
      · rw [if_neg (fun z => by cases z.2.2)]; simp
    · rw [if_neg (fun z => hq ⟨z.1, z.2.1⟩), decide_eq_false hq]; simp
theorem p_waysD {co lv w : Nat} {fe : Int32} {H M : OV} (R : PR co lv fe H M) (hlv : lv < 2) (hco : co ≤ 6) (hw : w < 4) (held : Int32) : d_X8_pointsBy M (nI lv) (nI w) held := by
  have hcN : cN (M.2.1 0) = co := by rw [R.2.1]; exact cN_nI (by omega)
  refine ⟨vx_0 (k := 23) hlv (by omega), ?_⟩
  rw [hcN]
  refine lpuD_all co _ (fun k t hk => ?_)
  refine ⟨vw_k (k := 1) hw (by omega), vx_6 hlv (by omega), fun _ _ => ⟨vw_0 hw, vx_0 hlv (by omega), ?_⟩, fun _ => vw_0 hw⟩
  show ¬ _ → _
  intro hin
  rw [ix_0 hlv (by omega : k < 27), p_in0] at hin
  have hin := Classical.not_not.mp hin
  have e0 : (0 : Int64).toInt = 0 := rfl
  have e9 : (9 : Int64).toInt = 9 := rfl
  rw [e0, e9] at hin
  obtain ⟨z, hz, hW⟩ := p_cell hin.1 (n := 10) (by omega) (by omega)
  rw [ix_0 hlv (by omega : k < 27), hW]
  exact ⟨vx_12 hlv hz, vp_in_nI (by omega) (by omega)⟩
