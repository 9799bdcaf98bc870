/-! bits: rows out of the kit's family on bits, to paste -/
/-! ===== Int32 by its bits: bt x i ===== -/
def bt (x : Int32) (i : Nat) : Bool := x.toBitVec.getLsbD i
theorem b_ext {x y : Int32} (h : ∀ i, i < 32 → bt x i = bt y i) : x = y := Int32.toBitVec_inj.mp (BitVec.eq_of_getLsbD_eq (fun i hi => h i hi))
theorem b_or (x y : Int32) (i : Nat) : bt (x ||| y) i = (bt x i || bt y i) := by unfold bt; rw [Int32.toBitVec_or, BitVec.getLsbD_or]
theorem b_and (x y : Int32) (i : Nat) : bt (x &&& y) i = (bt x i && bt y i) := by unfold bt; rw [Int32.toBitVec_and, BitVec.getLsbD_and]
theorem b_xor (x y : Int32) (i : Nat) : bt (x ^^^ y) i = (bt x i ^^ bt y i) := by unfold bt; rw [Int32.toBitVec_xor, BitVec.getLsbD_xor]
theorem b_big {x : Int32} {i : Nat} (h : 32 ≤ i) : bt x i = false := BitVec.getLsbD_of_ge _ _ h
theorem b_255 (i : Nat) : bt 255 i = decide (i < 8) := by
  rcases Nat.lt_or_ge i 32 with h | h
  · exact (by decide +kernel : ∀ i, i < 32 → bt 255 i = decide (i < 8)) i h
  · rw [b_big h, decide_eq_false (by omega)]
theorem b_65535 (i : Nat) : bt 65535 i = decide (i < 16) := by
  rcases Nat.lt_or_ge i 32 with h | h
  · exact (by decide +kernel : ∀ i, i < 32 → bt 65535 i = decide (i < 16)) i h
  · rw [b_big h, decide_eq_false (by omega)]
theorem b_m1 : ∀ i, i < 32 → bt (-1) i = true := by decide +kernel
theorem b_0 (i : Nat) : bt 0 i = false := BitVec.getLsbD_zero
theorem s_l : ∀ n, n < 32 → ((nI n &&& 31).toBitVec.smod 32).toNat = n := by decide +kernel
theorem s_u : ∀ n, n < 32 → (((nI n).toUInt32 &&& Int32.toUInt32 31).toBitVec % 32).toNat = n := by decide +kernel
theorem b_shl (n : Nat) (hn : n < 32) (x : Int32) {i : Nat} (hi : i < 32) : bt (x <<< (nI n &&& 31)) i = (decide (n ≤ i) && bt x (i - n)) := by
  unfold bt
  rw [Int32.toBitVec_shiftLeft]
  show (x.toBitVec <<< ((nI n &&& 31).toBitVec.smod 32).toNat).getLsbD i = _
  rw [s_l n hn, BitVec.getLsbD_shiftLeft]
  rcases Nat.lt_or_ge i n with h | h
  · simp [h, Nat.not_le.mpr h]
  · simp [hi, h, Nat.not_lt.mpr h]
theorem b_ushr (n : Nat) (hn : n < 32) (x : Int32) (i : Nat) : bt ((x.toUInt32 >>> ((nI n).toUInt32 &&& Int32.toUInt32 31)).toInt32) i = bt x (n + i) := by
  show (x.toUInt32 >>> ((nI n).toUInt32 &&& Int32.toUInt32 31)).toBitVec.getLsbD i = x.toUInt32.toBitVec.getLsbD (n + i)
  rw [UInt32.toBitVec_shiftRight]
  show (x.toUInt32.toBitVec >>> (((nI n).toUInt32 &&& Int32.toUInt32 31).toBitVec % 32).toNat).getLsbD i = _
  rw [s_u n hn, BitVec.getLsbD_ushiftRight]
theorem b_sshr (n : Nat) (hn : n < 32) (x : Int32) {i : Nat} (hi : i < 32) : bt (x >>> (nI n &&& 31)) i = if n + i < 32 then bt x (n + i) else bt x 31 := by
  unfold bt
  rw [Int32.toBitVec_shiftRight]
  show (x.toBitVec.sshiftRight ((nI n &&& 31).toBitVec.smod 32).toNat).getLsbD i = _
  rw [s_l n hn, BitVec.getLsbD_sshiftRight, BitVec.msb_eq_getLsbD_last]
  simp [hi]
theorem b_shl8 (x : Int32) {i : Nat} (hi : i < 32) : bt (x <<< ((8 : Int32) &&& 31)) i = (decide (8 ≤ i) && bt x (i - 8)) := b_shl 8 (by omega) x hi
theorem b_shl16 (x : Int32) {i : Nat} (hi : i < 32) : bt (x <<< ((16 : Int32) &&& 31)) i = (decide (16 ≤ i) && bt x (i - 16)) := b_shl 16 (by omega) x hi
theorem b_shl24 (x : Int32) {i : Nat} (hi : i < 32) : bt (x <<< ((24 : Int32) &&& 31)) i = (decide (24 ≤ i) && bt x (i - 24)) := b_shl 24 (by omega) x hi
theorem b_sshr8 (x : Int32) {i : Nat} (hi : i < 32) : bt (x >>> ((8 : Int32) &&& 31)) i = if 8 + i < 32 then bt x (8 + i) else bt x 31 := b_sshr 8 (by omega) x hi
/-! ===== numbers and bits as the two sides use them ===== -/
theorem p_bool (b : Bool) : (b = true) ∨ (b = false) := by cases b <;> simp
theorem p_nt {x : Int32} {i : Nat} (hi : i < 32) : bt (x ^^^ (-1)) i = !bt x i := by
  rw [b_xor, b_m1 i hi]
  cases bt x i <;> rfl
theorem p_one : ∀ i, i < 32 → bt 1 i = decide (i = 0) := by decide +kernel
theorem p_sh {k i : Nat} (hk : k < 32) (hi : i < 32) : bt ((1 : Int32) <<< (nI k &&& 31)) i = decide (i = k) := by
  rw [b_shl k hk _ hi, p_one (i - k) (by omega)]
  by_cases h : i = k
  · subst h; simp
  · rcases Nat.lt_or_ge i k with h2 | h2
    · simp [Nat.not_le.mpr h2, h]
    · rw [decide_eq_false (by omega : ¬ i - k = 0), decide_eq_false h]; simp
theorem p_bit (x : Int32) {k : Nat} (hk : k < 32) : ((x >>> (nI k &&& 31)) &&& (1 : Int32)) = if bt x k = true then 1 else 0 := by
  refine b_ext fun i hi => ?_
  rw [b_and, b_sshr k hk x hi, p_one i hi]
  by_cases h : i = 0
  · subst h
    simp only [Nat.add_zero, if_pos hk, decide_true, Bool.and_true]
    cases h2 : bt x k
    · simp only [Bool.false_eq_true, if_false]; rw [b_0]
    · simp only [if_true]; rfl
  · rw [decide_eq_false h, Bool.and_false]
    split
    · rw [p_one i hi, decide_eq_false h]
    · rw [b_0]
theorem p_X7bit (x : Int32) {k : Nat} (hk : k < 32) : f_X7_bit x (nI k) = if bt x k = true then 1 else 0 := p_bit x hk
theorem p_has (x : Int32) {k : Nat} (hk : k < 32) : f_X8_has x (nI k) = if bt x k = true then 1 else 0 := by
  unfold f_X8_has
  rw [p_bit x hk]
  cases bt x k <;> rfl
theorem p_in (x : Int32) (a b : Int64) : f_X8_in x.toInt64 a b = if a.toInt ≤ x.toInt ∧ x.toInt ≤ b.toInt then 1 else 0 := by
  unfold f_X8_in
  simp only [lg_cmp_lt, lg_cmp_gt, Int64.lt_iff_toInt_lt, Int32.toInt_toInt64]
  by_cases h1 : x.toInt < a.toInt
  · rw [if_pos h1, if_neg (by omega)]
  · rw [if_neg h1]
    by_cases h2 : b.toInt < x.toInt
    · rw [if_pos h2, if_neg (by omega)]
    · rw [if_neg h2, if_pos (by omega)]
/-- x is told by f_X8_in between the numbers lo and hi -/
theorem p_in0 (x : Int32) (a b : Int64) : f_X8_in x.toInt64 a b = 0 ↔ ¬ (a.toInt ≤ x.toInt ∧ x.toInt ≤ b.toInt) := by
  rw [p_in]
  split <;> simp_all
theorem p_cell {x : Int32} (h : 0 ≤ x.toInt) {n : Nat} (h2 : x.toInt < n) (hn : n < 2 ^ 31) : ∃ z : Nat, z < n ∧ x = nI z := by
  refine ⟨x.toInt.toNat, by omega, ?_⟩
  apply Int32.toInt_inj.mp
  rw [nI_toInt (by omega)]
  omega
theorem p_nI_neg {k : Nat} (hk : k < 2 ^ 31) : ¬ (nI k) < 0 := nI_pos hk
theorem p_at {n k : Nat} (f : Nat → Int32) (hn : n < 2 ^ 31) (hk : k < 2 ^ 31) : f_X7_at n f (nI k) = if k < n then f k else 0 := by
  unfold f_X7_at
  rw [if_neg (nI_pos hk), nI_clamp hk]
  by_cases h : k < n
  · rw [if_pos h, if_neg (nI_ge h hn)]
  · rw [if_neg h, if_pos (nI_le (by omega) hk)]
theorem p_at1 {n k : Nat} (f : Nat → Int32) (hn : n < 2 ^ 31) (hk : k < n) : f_X7_at n f (nI k) = f k := by rw [p_at f hn (by omega), if_pos hk]
theorem p_atout {n : Nat} (f : Nat → Int32) (hn : n < 2 ^ 31) {x : Int32} (h : ¬ (0 ≤ x.toInt ∧ x.toInt < n)) : f_X7_at n f x = 0 := by
  unfold f_X7_at
  by_cases h1 : x < 0
  · rw [if_pos h1]
  · rw [if_neg h1]
    rw [Int32.lt_iff_toInt_lt] at h1
    have h0 : (0 : Int32).toInt = 0 := rfl
    rw [if_pos (by rw [Int32.le_iff_toInt_le, nI_toInt hn]; omega)]
theorem p_put {n k : Nat} (f : Nat → Int32) (x : Int32) (hn : n < 2 ^ 31) (hk : k < n) : f_X7_put n f (nI k) x = upd f k x := by
  unfold f_X7_put
  rw [if_neg (nI_pos (by omega)), if_neg (nI_ge hk hn), nI_clamp (by omega)]
theorem p_up (f : Nat → Int32) (k : Nat) (x : Int32) (j : Nat) : upd f k x j = if j = k then x else f j := by
  by_cases h : j = k
  · subst h; rw [if_pos rfl, pk_us]
  · rw [if_neg h, pk_un h]
/-! what a loop keeps -/
theorem lpu_keep {σ : Type} {body : Nat → σ → σ} (I : Nat → σ → Prop) : ∀ (n i : Nat) (s : σ), I i s → (∀ j t, i ≤ j → j < i + n → I j t → I (j + 1) (body j t)) → I (i + n) (lpu body n i s)
  | 0, _, _, h, _ => h
  | n + 1, i, s, h, hs => by
    have h2 := lpu_keep I n (i + 1) (body i s) (hs i s (Nat.le_refl _) (by omega) h) (fun j t h1 h2 => hs j t (by omega) (by omega))
    have e : i + 1 + n = i + (n + 1) := by omega
    rw [e] at h2
    exact h2
theorem lpu_inv {σ : Type} {body : Nat → σ → σ} (I : Nat → σ → Prop) (n : Nat) (s : σ) (h : I 0 s) (hs : ∀ j t, j < n → I j t → I (j + 1) (body j t)) : I n (lpu body n 0 s) := by
  have := lpu_keep I n 0 s h (fun j t _ h2 => hs j t (by omega))
  rwa [Nat.zero_add] at this
theorem lpuD_keep {σ : Type} {body : Nat → σ → σ} {D : Nat → σ → Prop} (I : Nat → σ → Prop) : ∀ (n i : Nat) (s : σ), I i s → (∀ j t, i ≤ j → j < i + n → I j t → D j t ∧ I (j + 1) (body j t)) → lpuD body D n i s
  | 0, _, _, _, _ => trivial
  | n + 1, i, s, h, hs => by
    have h1 := hs i s (Nat.le_refl _) (by omega) h
    exact ⟨h1.1, lpuD_keep I n (i + 1) (body i s) h1.2 (fun j t h1 h2 => hs j t (by omega) (by omega))⟩
theorem lpuD_inv {σ : Type} {body : Nat → σ → σ} {D : Nat → σ → Prop} (I : Nat → σ → Prop) (n : Nat) (s : σ) (h : I 0 s) (hs : ∀ j t, j < n → I j t → D j t ∧ I (j + 1) (body j t)) : lpuD body D n 0 s := lpuD_keep I n 0 s h (fun j t _ h2 => hs j t (by omega))
theorem lpuD_all {σ : Type} {body : Nat → σ → σ} {D : Nat → σ → Prop} (n : Nat) (s : σ) (hs : ∀ j t, j < n → D j t) : lpuD body D n 0 s := lpuD_inv (fun _ _ => True) n s trivial (fun j t h _ => ⟨hs j t h, trivial⟩)
theorem lpu_rel {σ τ : Type} {b1 : Nat → σ → σ} {b2 : Nat → τ → τ} (I : Nat → σ → τ → Prop) : ∀ (n i : Nat) (s : σ) (t : τ), I i s t → (∀ j x y, i ≤ j → j < i + n → I j x y → I (j + 1) (b1 j x) (b2 j y)) → I (i + n) (lpu b1 n i s) (lpu b2 n i t)
  | 0, _, _, _, h, _ => h
  | n + 1, i, s, t, h, hs => by
    have h2 := lpu_rel I n (i + 1) (b1 i s) (b2 i t) (hs i s t (Nat.le_refl _) (by omega) h) (fun j x y h1 h2 => hs j x y (by omega) (by omega))
    have e : i + 1 + n = i + (n + 1) := by omega
    rw [e] at h2
    exact h2
theorem lpu_sim {σ τ : Type} {b1 : Nat → σ → σ} {b2 : Nat → τ → τ} (I : Nat → σ → τ → Prop) (n : Nat) (s : σ) (t : τ) (h : I 0 s t) (hs : ∀ j x y, j < n → I j x y → I (j + 1) (b1 j x) (b2 j y)) : I n (lpu b1 n 0 s) (lpu b2 n 0 t) := by
  have := lpu_rel I n 0 s t h (fun j x y _ h2 => hs j x y (by omega))
  rwa [Nat.zero_add] at this
theorem lpu_eq {σ : Type} {b1 b2 : Nat → σ → σ} (n : Nat) (s : σ) (hs : ∀ j x, j < n → b1 j x = b2 j x) : lpu b1 n 0 s = lpu b2 n 0 s :=
  lpu_sim (fun _ x y => x = y) n s s rfl (fun j x y hj h => by subst h; exact hs j x hj)
/-- two loops with an early end, side by side -/
def lpxR {σ τ ε ζ : Type} (P : σ → τ → Prop) (Q : ε → ζ → Prop) : σ ⊕ ε → τ ⊕ ζ → Prop
  | .inl a, .inl b => P a b
  | .inr a, .inr b => Q a b
  | _, _ => False
theorem lpx_rel {σ τ ε ζ : Type} {b1 : Nat → σ → σ ⊕ ε} {b2 : Nat → τ → τ ⊕ ζ} (I : Nat → σ → τ → Prop) (Q : ε → ζ → Prop) : ∀ (n i : Nat) (s : σ) (t : τ), I i s t → (∀ j x y, i ≤ j → j < i + n → I j x y → lpxR (I (j + 1)) Q (b1 j x) (b2 j y)) → lpxR (I (i + n)) Q (lpx b1 n i s) (lpx b2 n i t)
  | 0, _, _, _, h, _ => h
  | n + 1, i, s, t, h, hs => by
    have h1 := hs i s t (Nat.le_refl _) (by omega) h
    have e : i + 1 + n = i + (n + 1) := by omega
    simp only [lpx]
    cases h3 : b1 i s with
    | inl a =>
      cases h4 : b2 i t with
      | inl b =>
        rw [h3, h4] at h1
        have h2 := lpx_rel I Q n (i + 1) a b h1 (fun j x y h1 h2 => hs j x y (by omega) (by omega))
        rw [e] at h2
        exact h2
      | inr b => rw [h3, h4] at h1; exact h1.elim
    | inr a =>
      cases h4 : b2 i t with
      | inl b => rw [h3, h4] at h1; exact h1.elim
      | inr b => rw [h3, h4] at h1; exact h1
theorem lpx_sim {σ τ ε ζ : Type} {b1 : Nat → σ → σ ⊕ ε} {b2 : Nat → τ → τ ⊕ ζ} (I : Nat → σ → τ → Prop) (Q : ε → ζ → Prop) (n : Nat) (s : σ) (t : τ) (h : I 0 s t) (hs : ∀ j x y, j < n → I j x y → lpxR (I (j + 1)) Q (b1 j x) (b2 j y)) : lpxR (I n) Q (lpx b1 n 0 s) (lpx b2 n 0 t) := by
  have := lpx_rel I Q n 0 s t h (fun j x y _ h2 => hs j x y (by omega))
  rwa [Nat.zero_add] at this
theorem lpxD_keep {σ ε : Type} {body : Nat → σ → σ ⊕ ε} {D : Nat → σ → Prop} (I : Nat → σ → Prop) : ∀ (n i : Nat) (s : σ), I i s → (∀ j t, i ≤ j → j < i + n → I j t → D j t ∧ ∀ t', body j t = .inl t' → I (j + 1) t') → lpxD body D n i s
  | 0, _, _, _, _ => trivial
  | n + 1, i, s, h, hs => by
    have h1 := hs i s (Nat.le_refl _) (by omega) h
    exact ⟨h1.1, fun s' hs' => lpxD_keep I n (i + 1) s' (h1.2 s' hs') (fun j t h1 h2 => hs j t (by omega) (by omega))⟩
theorem lpxD_inv {σ ε : Type} {body : Nat → σ → σ ⊕ ε} {D : Nat → σ → Prop} (I : Nat → σ → Prop) (n : Nat) (s : σ) (h : I 0 s) (hs : ∀ j t, j < n → I j t → D j t ∧ ∀ t', body j t = .inl t' → I (j + 1) t') : lpxD body D n 0 s := lpxD_keep I n 0 s h (fun j t _ h2 => hs j t (by omega))
/-! copies of rows -/
theorem p_copy {n : Nat} (hn : n < 2 ^ 31) (f g : Nat → Int32) : f_X7_copyRow n f n g = fun j => if j < n then f j else g j := by
  unfold f_X7_copyRow kAp
  show lpb (f_X7_copyRow_L1 f n) (cN (nI n)) 0 g = _
  rw [cN_nI hn]
  have key : ∀ (k i : Nat) (h : Nat → Int32), k + i = n → (h = fun j => if j < i then f j else g j) → lpb (f_X7_copyRow_L1 f n) k i h = fun j => if j < n then f j else g j := by
    intro k
    induction k with
    | zero => intro i h hi he; have : i = n := by omega
              subst this; exact he
    | succ k ih =>
      intro i h hi he
      have hb : f_X7_copyRow_L1 f n i h = Sum.inl (upd h i (f i)) := by
        unfold f_X7_copyRow_L1
        rw [if_neg (nI_ge (by omega) hn), nI_clamp (by omega)]
      simp only [lpb]
      rw [hb]
      refine ih (i + 1) _ (by omega) ?_
      funext j
      rw [p_up, he]
      by_cases h1 : j = i
      · subst h1; rw [if_pos rfl, if_pos (by omega)]
      · rw [if_neg h1]
        show (if j < i then f j else g j) = _
        by_cases h2 : j < i
        · rw [if_pos h2, if_pos (by omega)]
        · rw [if_neg h2, if_neg (by omega)]
  exact key n 0 g (by omega) (by funext j; simp)
