/-! ===== contents, written and read ===== -/
theorem oA_oA (V : OV) (k : Nat) (f g : Nat → Int32) : oA (oA V k f) k g = oA V k g := by
  unfold oA
  refine Prod.ext (funext fun j => ?_) rfl
  show va_up (va_up V.1 k f) k g j = va_up V.1 k g j
  unfold va_up
  by_cases h : j = k <;> simp [h]
theorem oA_self (V : OV) (k : Nat) : oA V k (V.1 k) = V := by
  unfold oA
  refine Prod.ext (funext fun j => ?_) rfl
  show va_up V.1 k (V.1 k) j = V.1 j
  unfold va_up
  by_cases h : j = k <;> simp [h]
theorem oA_rd (V : OV) (k : Nat) (f : Nat → Int32) : (oA V k f).1 k = f := by
  show va_up V.1 k f k = f
  simp [va_up]
theorem oA_ext (V : OV) (k : Nat) {f : Nat → Int32} (h : ∀ j, f j = V.1 k j) : oA V k f = V := by
  rw [show f = V.1 k from funext h, oA_self]
/-- a loop that lays places of the row k, by places of what stays -/
theorem p_cpy {body : Nat → OV → OV} {k dst sp n : Nat} {src : Nat → Int32} (M : OV)
    (h : ∀ i f, i < n → (∀ j, (j < dst ∨ dst + n ≤ j) → f j = M.1 k j) → body i (oA M k f) = oA M k (upd f (dst + i) (src (sp + i)))) :
    lpu body n 0 M = oA M k (va_cpy src (M.1 k) sp dst n) := by
  have key : ∀ m, m ≤ n → lpu body m 0 M = oA M k (va_cpy src (M.1 k) sp dst m) := by
    intro m
    induction m with
    | zero =>
      intro _
      show M = _
      rw [oA_ext]
      intro j
      unfold va_cpy
      rw [if_neg (by omega)]
    | succ m ih =>
      intro hm
      rw [lpu_snoc, Nat.zero_add, ih (by omega), h m _ (by omega) (fun j hj => by unfold va_cpy; rw [if_neg (by omega)])]
      congr 1
      funext j
      rw [p_up]
      unfold va_cpy
      by_cases h1 : j = dst + m
      · rw [if_pos h1, if_pos (by omega)]; congr 1; omega
      · rw [if_neg h1]
        by_cases h2 : dst ≤ j ∧ j < dst + m
        · rw [if_pos h2, if_pos (by omega)]
        · rw [if_neg h2, if_neg (by omega)]
  exact key n (Nat.le_refl _)
theorem p_mod {a : Nat} (h : a < 2 ^ 31) : nI a - nI a / (14 : Int32) * (14 : Int32) = nI (a % 14) := by
  show nI a - nI a / nI 14 * nI 14 = _
  exact pk_rem (d := 14) h (by omega) (by omega)
/-! ===== the relation of the two sides ===== -/
/-- a hill against a block of 27 numbers from b on; hi, we: heights and weights -/
def HR (T co : Nat) (hi we : Nat → Int32) (H : OV) (A : Nat → Int32) (b : Nat) : Prop :=
  H.2.1 5 = nI co ∧ (∀ k, k < co → H.1 1 k = A (b + k)) ∧ (∀ k, k < co → H.1 2 k = hi k) ∧ (∀ k, k < co → H.1 3 k = A (b + 6 + k)) ∧ (∀ k, k < co → H.1 4 k = we k) ∧ (∀ c, c < 10 → H.1 0 c = A (b + 12 + c)) ∧
  H.2.1 6 = A (b + 22) ∧ H.2.1 7 = A (b + 23) ∧ H.2.1 8 = A (b + 24) ∧ H.2.1 9 = A (b + 25) ∧ H.2.1 10 = A (b + 26) ∧ (∀ k, k < co → ∃ z, z < 10 ∧ H.1 1 k = nI z) ∧ (H.2.1 9 = 0 ∨ H.2.1 9 = 1) ∧ ∃ d, d ≤ T ∧ H.2.1 10 = nI d
def TX (Vr M : OV) : Prop := ∃ ln, ln ≤ 64 ∧ Vr.2.1 3 = nI ln ∧ M.2.1 15 = nI ln ∧ ∀ j, j < ln → Vr.1 0 j = M.1 14 j
def CX (T co : Nat) (Vac M : OV) (VH : Nat → OV) : Prop := ∃ ac ol nx, ac ≤ 14 ∧ ol < 14 ∧ nx < 14 ∧ Vac.2.1 1 = nI ol ∧ Vac.2.1 2 = nI ac ∧ M.2.1 18 = nI ac ∧ M.2.1 19 = nI nx ∧ ∀ i, i < ac → HR T co (M.1 2) (M.1 3) (VH ((ol + i) % 14)) (M.1 20) (27 * ((nx + 14 - ac + i) % 14))
def SX (Vs M : OV) : Prop := ∃ sn, sn ≤ 6 ∧ Vs.2.1 2 = nI sn ∧ M.2.1 25 = nI sn ∧ ∀ i, i < sn → Vs.1 0 i = M.1 26 i ∧ Vs.1 1 i = M.1 27 i
def LX (T co : Nat) (Vsl : OV) (VH : Nat → OV) (M : OV) : Prop := ∀ i, i < 2 → ((bt (Vsl.2.1 1) i = true ↔ ¬ M.1 29 i = 0) ∧ (bt (Vsl.2.1 1) i = true → HR T co (M.1 2) (M.1 3) (VH i) (M.1 30) (27 * i)))
def RLN (T co wn : Nat) (V7 Vr Vn Va Vac Vs Vsl : OV) (VHa VHs : Nat → OV) (M : OV) : Prop :=
  co ≤ 6 ∧ wn ≤ 4 ∧ TX Vr M ∧ HR T co (M.1 2) (M.1 3) Vn (M.1 5) 0 ∧ M.2.1 0 = nI co ∧ (∀ k, k < co → 0 ≤ (M.1 2 k).toInt) ∧ AR wn Va M ∧ CX T co Vac M VHa ∧ SX Vs M ∧ LX T co Vsl VHs M ∧ V7.2.2 8 = M.2.2 28
theorem HR_mono {T T' co b : Nat} {hi we : Nat → Int32} {H : OV} {A : Nat → Int32} (hT : T ≤ T') (h : HR T co hi we H A b) : HR T' co hi we H A b := by
  obtain ⟨h1, h2, h3, h4, h5, h6, h7, h8, h9, h10, h11, h12, h13, d, h14, h15⟩ := h
  exact ⟨h1, h2, h3, h4, h5, h6, h7, h8, h9, h10, h11, h12, h13, d, by omega, h15⟩
theorem RLN_mono {T T' co wn : Nat} {V7 Vr Vn Va Vac Vs Vsl : OV} {VHa VHs : Nat → OV} {M : OV} (hT : T ≤ T') (h : RLN T co wn V7 Vr Vn Va Vac Vs Vsl VHa VHs M) : RLN T' co wn V7 Vr Vn Va Vac Vs Vsl VHa VHs M := by
  obtain ⟨h1, h2, h3, h4, h5, h6, h7, ⟨ac, ol, nx, c1, c2, c3, c4, c5, c6, c7, c8⟩, h9, h10, h11⟩ := h
  exact ⟨h1, h2, h3, HR_mono hT h4, h5, h6, h7, ⟨ac, ol, nx, c1, c2, c3, c4, c5, c6, c7, fun i hi => HR_mono hT (c8 i hi)⟩, h9, fun i hi => ⟨(h10 i hi).1, fun q => HR_mono hT ((h10 i hi).2 q)⟩, h11⟩
theorem HR_block {T co b b' : Nat} {hi we : Nat → Int32} {H : OV} {A A' : Nat → Int32} (hco : co ≤ 6) (h : HR T co hi we H A b) (e : ∀ j, j < 27 → A' (b' + j) = A (b + j)) : HR T co hi we H A' b' := by
  obtain ⟨h1, h2, h3, h4, h5, h6, h7, h8, h9, h10, h11, h12, h13⟩ := h
  have e6 : ∀ k, k < 6 → A' (b' + 6 + k) = A (b + 6 + k) := fun k hk => by rw [Nat.add_assoc, Nat.add_assoc]; exact e _ (by omega)
  have e12 : ∀ k, k < 10 → A' (b' + 12 + k) = A (b + 12 + k) := fun k hk => by rw [Nat.add_assoc, Nat.add_assoc]; exact e _ (by omega)
  exact ⟨h1, fun k hk => by rw [e k (by omega)]; exact h2 k hk, h3, fun k hk => by rw [e6 k (by omega)]; exact h4 k hk, h5, fun c hc => by rw [e12 c hc]; exact h6 c hc, by rw [e 22 (by omega)]; exact h7, by rw [e 23 (by omega)]; exact h8, by rw [e 24 (by omega)]; exact h9, by rw [e 25 (by omega)]; exact h10, by rw [e 26 (by omega)]; exact h11, h12, h13⟩
theorem HR_copy {T co b : Nat} {hi we : Nat → Int32} {H : OV} {A : Nat → Int32} (hco : co ≤ 6) (h : HR T co hi we H A b) (V : OV) : HR T co hi we (f_X2_copyFrom V H) A b := by
  obtain ⟨h1, h2, h3, h4, h5, h6, h7, h8, h9, h10, h11, h12, h13⟩ := h
  have a0 : (f_X2_copyFrom V H).1 0 = fun j => if j < 10 then H.1 0 j else V.1 0 j := p_copy (by omega) (H.1 0) (V.1 0)
  have a1 : (f_X2_copyFrom V H).1 1 = fun j => if j < 6 then H.1 1 j else V.1 1 j := p_copy (by omega) (H.1 1) (V.1 1)
  have a2 : (f_X2_copyFrom V H).1 2 = fun j => if j < 6 then H.1 2 j else V.1 2 j := p_copy (by omega) (H.1 2) (V.1 2)
  have a3 : (f_X2_copyFrom V H).1 3 = fun j => if j < 6 then H.1 3 j else V.1 3 j := p_copy (by omega) (H.1 3) (V.1 3)
  have a4 : (f_X2_copyFrom V H).1 4 = fun j => if j < 6 then H.1 4 j else V.1 4 j := p_copy (by omega) (H.1 4) (V.1 4)
  refine ⟨h1, fun k hk => ?_, fun k hk => ?_, fun k hk => ?_, fun k hk => ?_, fun c hc => ?_, h7, h8, h9, h10, h11, fun k hk => ?_, h13⟩
  · rw [a1]; show (if k < 6 then _ else _) = _; rw [if_pos (by omega)]; exact h2 k hk
  · rw [a2]; show (if k < 6 then _ else _) = _; rw [if_pos (by omega)]; exact h3 k hk
  · rw [a3]; show (if k < 6 then _ else _) = _; rw [if_pos (by omega)]; exact h4 k hk
  · rw [a4]; show (if k < 6 then _ else _) = _; rw [if_pos (by omega)]; exact h5 k hk
  · rw [a0]; show (if c < 10 then _ else _) = _; rw [if_pos hc]; exact h6 c hc
  · rw [a1]; show ∃ z, z < 10 ∧ (if k < 6 then _ else _) = _; rw [if_pos (by omega)]; exact h12 k hk
theorem HR_PR {T co lv : Nat} {H M : OV} (h : HR T co (M.1 2) (M.1 3) H (M.1 5) (27 * lv)) (hM : M.2.1 0 = nI co) (h0 : ∀ k, k < co → 0 ≤ (M.1 2 k).toInt) : PR co lv 0 H M := by
  obtain ⟨h1, h2, h3, h4, h5, h6, h7, h8, h9, h10, h11, h12, h13⟩ := h
  exact ⟨h1, hM, h2, h3, h4, fun c hc => by rw [b_0]; simpa using h6 c hc, h8, h0⟩
theorem HR_BR {T co lv : Nat} {H M : OV} (h : HR T co (M.1 2) (M.1 3) H (M.1 5) (27 * lv)) (hM : M.2.1 0 = nI co) : BR co lv H M := by
  obtain ⟨h1, h2, h3, h4, h5, h6, h7, h8, h9, h10, h11, h12, h13⟩ := h
  exact ⟨h1, hM, h5, h7, h10⟩
/-- who there is, which wind there is -/
theorem p_hasC {co : Nat} {H : OV} (h : H.2.1 5 = nI co) (hco : co ≤ 6) (x : Int32) : f_X2_hasCock H x = if 0 ≤ x.toInt ∧ x.toInt < co then 1 else 0 := by
  unfold f_X2_hasCock
  rw [h]
  have z0 : (0 : Int32).toInt = 0 := rfl
  by_cases h1 : x < 0
  · rw [if_pos h1, if_neg]
    rw [Int32.lt_iff_toInt_lt, z0] at h1
    omega
  · rw [if_neg h1]
    rw [Int32.lt_iff_toInt_lt, z0] at h1
    by_cases h2 : nI co ≤ x
    · rw [if_pos h2, if_neg]
      rw [Int32.le_iff_toInt_le, nI_toInt (by omega)] at h2
      omega
    · rw [if_neg h2, if_pos]
      rw [Int32.le_iff_toInt_le, nI_toInt (by omega)] at h2
      omega
theorem p_hasW {wn : Nat} {Va : OV} (h : Va.2.1 3 = nI wn) (hwn : wn ≤ 4) (x : Int32) : f_X1_hasWind Va x = if 0 ≤ x.toInt ∧ x.toInt < wn then 1 else 0 := by
  have := p_hasC (co := wn) (H := oI Va 5 (nI wn)) rfl (by omega) x
  rw [← this]
  unfold f_X1_hasWind f_X2_hasCock
  rw [h]
  rfl
theorem p_isN {n : Nat} {y x : Int32} (h : y = nI n) (hn : n ≤ 6) : f_X8_in x.toInt64 0 ((y - (1 : Int32)).toInt64) = if 0 ≤ x.toInt ∧ x.toInt < n then 1 else 0 := by
  rw [p_in, h, Int32.toInt_toInt64]
  have e1 : (nI n - (1 : Int32)).toInt = (n : Int) - 1 := pk_sub_toInt (b := 1) (by omega) (by omega)
  rw [e1]
  have e0 : (0 : Int64).toInt = 0 := rfl
  rw [e0]
  by_cases hx : 0 ≤ x.toInt ∧ x.toInt < n
  · rw [if_pos hx, if_pos (by omega)]
  · rw [if_neg hx, if_neg (by omega)]
theorem p_isC {co : Nat} {M : OV} (h : M.2.1 0 = nI co) (hco : co ≤ 6) (x : Int32) : f_X8_isCock M x = if 0 ≤ x.toInt ∧ x.toInt < co then 1 else 0 := p_isN h hco
theorem p_isW {wn : Nat} {M : OV} (h : M.2.1 1 = nI wn) (hwn : wn ≤ 4) (x : Int32) : f_X8_isWind M x = if 0 ≤ x.toInt ∧ x.toInt < wn then 1 else 0 := p_isN h (by omega)
theorem p_isCell (x : Int32) : f_X7_isCell x = if 0 ≤ x.toInt ∧ x.toInt < 10 then 1 else 0 := by
  unfold f_X7_isCell
  have z0 : (0 : Int32).toInt = 0 := rfl
  have z10 : (10 : Int32).toInt = 10 := rfl
  simp only [Int32.lt_iff_toInt_lt, Int32.le_iff_toInt_le, z0, z10]
  by_cases h1 : x.toInt < 0
  · rw [if_pos h1, if_neg (by omega)]
  · rw [if_neg h1]
    by_cases h2 : 10 ≤ x.toInt
    · rw [if_pos h2, if_neg (by omega)]
    · rw [if_neg h2, if_pos (by omega)]
theorem p_in9 (x : Int32) : f_X8_in x.toInt64 0 9 = if 0 ≤ x.toInt ∧ x.toInt < 10 then 1 else 0 := by
  rw [p_in]
  have e0 : (0 : Int64).toInt = 0 := rfl
  have e9 : (9 : Int64).toInt = 9 := rfl
  rw [e0, e9]
  by_cases hx : 0 ≤ x.toInt ∧ x.toInt < 10
  · rw [if_pos hx, if_pos (by omega)]
  · rw [if_neg hx, if_neg (by omega)]
theorem p_inK (x : Int32) (b : Int64) {n : Nat} (hb : b.toInt = (n : Int)) : f_X8_in x.toInt64 0 b = if 0 ≤ x.toInt ∧ x.toInt < n + 1 then 1 else 0 := by
  rw [p_in, hb]
  have e0 : (0 : Int64).toInt = 0 := rfl
  rw [e0]
  by_cases hx : 0 ≤ x.toInt ∧ x.toInt < n + 1
  · rw [if_pos hx, if_pos (by omega)]
  · rw [if_neg hx, if_neg (by omega)]
theorem p_isPar (x : Int32) : f_X7_isParish x = if 0 ≤ x.toInt ∧ x.toInt < 2 then 1 else 0 := by
  unfold f_X7_isParish
  have z0 : (0 : Int32).toInt = 0 := rfl
  have z1 : (1 : Int32).toInt = 1 := rfl
  by_cases h1 : x = 0
  · subst h1; rw [if_pos rfl, if_pos (by omega)]
  · rw [if_neg h1]
    have h1' : ¬ x.toInt = 0 := fun q => h1 (Int32.toInt_inj.mp (q.trans z0.symm))
    by_cases h2 : x = 1
    · subst h2; rw [if_pos rfl, if_pos (by omega)]
    · have h2' : ¬ x.toInt = 1 := fun q => h2 (Int32.toInt_inj.mp (q.trans z1.symm))
      rw [if_neg h2, if_neg (by omega)]
