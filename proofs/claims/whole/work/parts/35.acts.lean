theorem oI_oI (V : OV) (k : Nat) (x y : Int32) : oI (oI V k x) k y = oI V k y := by
  unfold oI
  refine Prod.ext rfl (Prod.ext (funext fun j => ?_) rfl)
  show va_up (va_up V.2.1 k x) k y j = va_up V.2.1 k y j
  unfold va_up
  by_cases h : j = k <;> simp [h]
theorem ix_g {a i : Nat} (h : 27 * a + i < 2 ^ 31) : (((27 : Int32) * nI a) + nI i).toNatClampNeg = 27 * a + i := by
  show (nI 27 * nI a + nI i).toNatClampNeg = _
  rw [pk_mul, nI_add, nI_clamp h]
theorem vx_g {a i n : Nat} (h : 27 * a + i < n) (hn : n < 2 ^ 31) : vp_in (((27 : Int32) * nI a) + nI i) n := by
  show vp_in (nI 27 * nI a + nI i) n
  rw [pk_mul, nI_add]
  exact vp_in_nI h hn
theorem p_keepAct {ac nx : Nat} {M : OV} (h18 : M.2.1 18 = nI ac) (h19 : M.2.1 19 = nI nx) (hac : ac ≤ 14) (hnx : nx < 14) :
    f_X8_keepAct M = oI (oI (oA M 20 (va_cpy (M.1 5) (M.1 20) 0 (27 * nx) 27)) 18 (nI (if ac = 14 then 14 else ac + 1))) 19 (nI ((nx + 1) % 14)) := by
  unfold f_X8_keepAct
  dsimp only [kAp]
  rw [show cN (27 : Int32) = 27 from rfl]
  have e : lpu f_X8_keepAct_L1 27 0 M = oA M 20 (va_cpy (M.1 5) (M.1 20) 0 (27 * nx) 27) := by
    refine p_cpy M (fun i f hi _ => ?_)
    unfold f_X8_keepAct_L1
    have e19 : (oA M 20 f).2.1 19 = nI nx := h19
    have e5 : (oA M 20 f).1 5 = M.1 5 := rfl
    rw [e19, e5, oA_rd, oA_oA, ix_g (by omega), nI_clamp (by omega), Nat.zero_add]
  rw [e]
  generalize va_cpy (M.1 5) (M.1 20) 0 (27 * nx) 27 = B
  have e18 : (oA M 20 B).2.1 18 = nI ac := h18
  have e19 : (oA M 20 B).2.1 19 = nI nx := h19
  rw [e18, e19, nI_1, p_mod (by omega), nI_1]
  by_cases h : ac = 14
  · subst h
    rw [if_pos (by decide), if_pos rfl]
    rfl
  · have hge : ¬ (14 : Int32) ≤ nI ac := nI_ge (b := 14) (by omega) (by omega)
    rw [if_neg hge, if_neg h]
theorem p_keepActD {nx : Nat} {M : OV} (h19 : M.2.1 19 = nI nx) (hnx : nx < 14) : d_X8_keepAct M := by
  unfold d_X8_keepAct
  rw [show cN (27 : Int32) = 27 from rfl]
  refine lpuD_inv (fun _ (s : OV) => s.2.1 19 = nI nx) 27 M h19 (fun j t hj ht => ⟨?_, ?_⟩)
  · unfold d_X8_keepAct_L1
    rw [ht]
    exact vx_g (by omega) (by omega)
  · exact ht
/-- what is remembered: the acts on both sides -/
theorem p_remember {ac ol : Nat} {Vac H : OV} {VH : Nat → OV} (h1 : Vac.2.1 1 = nI ol) (h2 : Vac.2.1 2 = nI ac) (hac : ac ≤ 14) (hol : ol < 14) :
    f_X0_remember Vac VH H = (if ac = 14 then (oI (oI Vac 1 (nI ((ol + 1) % 14))) 2 (nI 14), va_up VH ol (f_X2_copyFrom (VH ol) H)) else (oI Vac 2 (nI (ac + 1)), va_up VH ((ol + ac) % 14) (f_X2_copyFrom (VH ((ol + ac) % 14)) H))) := by
  unfold f_X0_remember
  rw [h1, h2]
  by_cases h : ac = 14
  · subst h
    rw [if_pos (by decide : nI 14 = (14 : Int32)), if_pos rfl]
    dsimp only [kAp]
    rw [nI_1, p_mod (by omega)]
    have e1 : (oI (oI Vac 1 (nI ((ol + 1) % 14))) 2 (nI 14 - (1 : Int32))).2.1 1 = nI ((ol + 1) % 14) := rfl
    have e2 : (oI (oI Vac 1 (nI ((ol + 1) % 14))) 2 (nI 14 - (1 : Int32))).2.1 2 = nI 13 := rfl
    rw [e1, e2, nI_add, p_mod (by omega)]
    have e3 : ((ol + 1) % 14 + 13) % 14 = ol := by omega
    rw [e3, if_neg (nI_pos (by omega)), if_neg (nI_ge hol (by omega)), nI_clamp (by omega), nI_1, oI_oI]
  · have hne : ¬ nI ac = (14 : Int32) := fun q => h ((nI_eq (b := 14) (by omega) (by omega)).mp q)
    rw [if_neg hne, if_neg h]
    dsimp only [kAp]
    rw [h1, h2, nI_add, p_mod (by omega), if_neg (nI_pos (by omega)), if_neg (nI_ge (by omega) (by omega)), nI_clamp (by omega), nI_1]
theorem va_cpy_in {f g : Nat → Int32} {sp dp n j : Nat} (h : j < n) : va_cpy f g sp dp n (dp + j) = f (sp + j) := by
  unfold va_cpy
  rw [if_pos (by omega)]
  congr 1
  omega
theorem va_cpy_out {f g : Nat → Int32} {sp dp n j : Nat} (h : j < dp ∨ dp + n ≤ j) : va_cpy f g sp dp n j = g j := by
  unfold va_cpy
  rw [if_neg (by omega)]
theorem r_keep {T co wn : Nat} {V7 Vr Vn Va Vac Vs Vsl : OV} {VHa VHs : Nat → OV} {M : OV} (h : RLN T co wn V7 Vr Vn Va Vac Vs Vsl VHa VHs M) :
    d_X8_keepAct M ∧ RLN T co wn V7 Vr Vn Va (f_X0_remember Vac VHa Vn).1 Vs Vsl (f_X0_remember Vac VHa Vn).2 VHs (f_X8_keepAct M) ∧ (f_X8_keepAct M).1 5 = M.1 5 := by
  obtain ⟨h1, h2, h3, h4, h5, h6, h7, ⟨ac, ol, nx, c1, c2, c3, c4, c5, c6, c7, c8⟩, h9, h10, h11⟩ := h
  refine ⟨p_keepActD c7 c3, ?_, by rw [p_keepAct c6 c7 c1 c3]; rfl⟩
  rw [p_keepAct c6 c7 c1 c3, p_remember c4 c5 c1 c2]
  have hnew : HR T co (M.1 2) (M.1 3) Vn (va_cpy (M.1 5) (M.1 20) 0 (27 * nx) 27) (27 * nx) := HR_block h1 h4 (fun j hj => va_cpy_in hj)
  have hold : ∀ (H : OV) (b : Nat), b < 14 → b ≠ nx → HR T co (M.1 2) (M.1 3) H (M.1 20) (27 * b) → HR T co (M.1 2) (M.1 3) H (va_cpy (M.1 5) (M.1 20) 0 (27 * nx) 27) (27 * b) := fun H b _ hn hH => HR_block h1 hH (fun j hj => va_cpy_out (by omega))
  refine ⟨h1, h2, h3, h4, h5, h6, h7, ?_, h9, h10, h11⟩
  by_cases ha : ac = 14
  · subst ha
    rw [if_pos rfl, if_pos rfl]
    refine ⟨14, (ol + 1) % 14, (nx + 1) % 14, by omega, by omega, by omega, rfl, rfl, rfl, rfl, fun i hi => ?_⟩
    show HR T co (M.1 2) (M.1 3) (va_up VHa ol (f_X2_copyFrom (VHa ol) Vn) (((ol + 1) % 14 + i) % 14)) (va_cpy (M.1 5) (M.1 20) 0 (27 * nx) 27) (27 * (((nx + 1) % 14 + 14 - 14 + i) % 14))
    by_cases hi2 : i = 13
    · subst hi2
      rw [show ((ol + 1) % 14 + 13) % 14 = ol by omega, show ((nx + 1) % 14 + 14 - 14 + 13) % 14 = nx by omega, va_up_self]
      exact HR_copy h1 hnew _
    · have c9 := c8 (i + 1) (by omega)
      rw [va_up_ne _ _ (by omega : ((ol + 1) % 14 + i) % 14 ≠ ol)]
      rw [show ((ol + 1) % 14 + i) % 14 = (ol + (i + 1)) % 14 by omega, show ((nx + 1) % 14 + 14 - 14 + i) % 14 = (nx + 14 - 14 + (i + 1)) % 14 by omega]
      exact hold _ _ (by omega) (by omega) c9
  · rw [if_neg ha, if_neg ha]
    refine ⟨ac + 1, ol, (nx + 1) % 14, by omega, c2, by omega, c4, rfl, rfl, rfl, fun i hi => ?_⟩
    show HR T co (M.1 2) (M.1 3) (va_up VHa ((ol + ac) % 14) (f_X2_copyFrom (VHa ((ol + ac) % 14)) Vn) ((ol + i) % 14)) (va_cpy (M.1 5) (M.1 20) 0 (27 * nx) 27) (27 * (((nx + 1) % 14 + 14 - (ac + 1) + i) % 14))
    by_cases hi2 : i = ac
    · subst hi2
      rw [show ((nx + 1) % 14 + 14 - (i + 1) + i) % 14 = nx by omega, va_up_self]
      exact HR_copy h1 hnew _
    · have c9 := c8 i (by omega)
      rw [va_up_ne _ _ (by omega : (ol + i) % 14 ≠ (ol + ac) % 14), show ((nx + 1) % 14 + 14 - (ac + 1) + i) % 14 = (nx + 14 - ac + i) % 14 by omega]
      exact hold _ _ (by omega) (by omega) c9
/-- a change of the numbers of now -/
theorem RL_set {T co wn : Nat} {V7 Vr Vn Va Vac Vs Vsl : OV} {VHa VHs : Nat → OV} {M : OV} (h : RLN T co wn V7 Vr Vn Va Vac Vs Vsl VHa VHs M) {Vn' : OV} {f : Nat → Int32} (hn : HR T co (M.1 2) (M.1 3) Vn' f 0) : RLN T co wn V7 Vr Vn' Va Vac Vs Vsl VHa VHs (oA M 5 f) := by
  obtain ⟨h1, h2, h3, h4, h5, h6, h7, h8, h9, h10, h11⟩ := h
  exact ⟨h1, h2, h3, hn, h5, h6, h7, h8, h9, h10, h11⟩
section HRU
variable {T co : Nat} {hi we : Nat → Int32} {H : OV} {A : Nat → Int32}
theorem HR_tree (hco : co ≤ 6) (h : HR T co hi we H A 0) {c : Nat} (hc : c < 10) (x : Int32) : HR T co hi we (oA H 0 (upd (H.1 0) c x)) (upd A (12 + c) x) 0 := by
  obtain ⟨h1, h2, h3, h4, h5, h6, h7, h8, h9, h10, h11, h12, h13⟩ := h
  refine ⟨h1, fun k hk => by rw [p_up, if_neg (by omega)]; exact h2 k hk, h3, fun k hk => by rw [p_up, if_neg (by omega)]; exact h4 k hk, h5, fun d hd => ?_, by rw [p_up, if_neg (by omega)]; exact h7, by rw [p_up, if_neg (by omega)]; exact h8, by rw [p_up, if_neg (by omega)]; exact h9, by rw [p_up, if_neg (by omega)]; exact h10, by rw [p_up, if_neg (by omega)]; exact h11, h12, h13⟩
  show upd (H.1 0) c x d = _
  rw [p_up, p_up]
  by_cases hd2 : d = c
  · rw [if_pos hd2, if_pos (by omega)]
  · rw [if_neg hd2, if_neg (by omega)]; exact h6 d hd
theorem HR_cell (hco : co ≤ 6) (h : HR T co hi we H A 0) {k : Nat} (hk : k < co) {z : Nat} (hz : z < 10) : HR T co hi we (oA H 1 (upd (H.1 1) k (nI z))) (upd A k (nI z)) 0 := by
  obtain ⟨h1, h2, h3, h4, h5, h6, h7, h8, h9, h10, h11, h12, h13⟩ := h
  refine ⟨h1, fun j hj => ?_, h3, fun j hj => by rw [p_up, if_neg (by omega)]; exact h4 j hj, h5, fun d hd => by rw [p_up, if_neg (by omega)]; exact h6 d hd, by rw [p_up, if_neg (by omega)]; exact h7, by rw [p_up, if_neg (by omega)]; exact h8, by rw [p_up, if_neg (by omega)]; exact h9, by rw [p_up, if_neg (by omega)]; exact h10, by rw [p_up, if_neg (by omega)]; exact h11, fun j hj => ?_, h13⟩
  · show upd (H.1 1) k (nI z) j = _
    rw [p_up, p_up]
    by_cases hd2 : j = k
    · rw [if_pos hd2, if_pos (by omega)]
    · rw [if_neg hd2, if_neg (by omega)]; exact h2 j hj
  · show ∃ y, y < 10 ∧ upd (H.1 1) k (nI z) j = nI y
    rw [p_up]
    by_cases hd2 : j = k
    · rw [if_pos hd2]; exact ⟨z, hz, rfl⟩
    · rw [if_neg hd2]; exact h12 j hj
theorem HR_rust (hco : co ≤ 6) (h : HR T co hi we H A 0) {k : Nat} (hk : k < co) (x : Int32) : HR T co hi we (oA H 3 (upd (H.1 3) k x)) (upd A (6 + k) x) 0 := by
  obtain ⟨h1, h2, h3, h4, h5, h6, h7, h8, h9, h10, h11, h12, h13⟩ := h
  refine ⟨h1, fun j hj => by rw [p_up, if_neg (by omega)]; exact h2 j hj, h3, fun j hj => ?_, h5, fun d hd => by rw [p_up, if_neg (by omega)]; exact h6 d hd, by rw [p_up, if_neg (by omega)]; exact h7, by rw [p_up, if_neg (by omega)]; exact h8, by rw [p_up, if_neg (by omega)]; exact h9, by rw [p_up, if_neg (by omega)]; exact h10, by rw [p_up, if_neg (by omega)]; exact h11, h12, h13⟩
  show upd (H.1 3) k x j = _
  rw [p_up, p_up]
  by_cases hd2 : j = k
  · rw [if_pos hd2, if_pos (by omega)]
  · rw [if_neg hd2, if_neg (by omega)]; exact h4 j hj
theorem HR_par (hco : co ≤ 6) (h : HR T co hi we H A 0) (x : Int32) : HR T co hi we (oI H 6 x) (upd A 22 x) 0 := by
  obtain ⟨h1, h2, h3, h4, h5, h6, h7, h8, h9, h10, h11, h12, h13⟩ := h
  exact ⟨h1, fun j hj => by rw [p_up, if_neg (by omega)]; exact h2 j hj, h3, fun j hj => by rw [p_up, if_neg (by omega)]; exact h4 j hj, h5, fun d hd => by rw [p_up, if_neg (by omega)]; exact h6 d hd, by rw [p_up, if_pos (by omega)]; rfl, by rw [p_up, if_neg (by omega)]; exact h8, by rw [p_up, if_neg (by omega)]; exact h9, by rw [p_up, if_neg (by omega)]; exact h10, by rw [p_up, if_neg (by omega)]; exact h11, h12, h13⟩
theorem HR_held (hco : co ≤ 6) (h : HR T co hi we H A 0) (x : Int32) : HR T co hi we (oI H 8 x) (upd A 24 x) 0 := by
  obtain ⟨h1, h2, h3, h4, h5, h6, h7, h8, h9, h10, h11, h12, h13⟩ := h
  exact ⟨h1, fun j hj => by rw [p_up, if_neg (by omega)]; exact h2 j hj, h3, fun j hj => by rw [p_up, if_neg (by omega)]; exact h4 j hj, h5, fun d hd => by rw [p_up, if_neg (by omega)]; exact h6 d hd, by rw [p_up, if_neg (by omega)]; exact h7, by rw [p_up, if_neg (by omega)]; exact h8, by rw [p_up, if_pos (by omega)]; rfl, by rw [p_up, if_neg (by omega)]; exact h10, by rw [p_up, if_neg (by omega)]; exact h11, h12, h13⟩
end HRU
section ACTS
variable {T co wn : Nat} {V7 Vr Vn Va Vac Vs Vsl : OV} {VHa VHs : Nat → OV} {M : OV}
theorem r_fell (h : RLN T co wn V7 Vr Vn Va Vac Vs Vsl VHa VHs M) (x : Int32) : d_X8_fell M x ∧ (f_X7_fell V7 Vn Vac VHa x).1 = (f_X8_fell M x).1 ∧
    RLN T co wn V7 Vr (f_X7_fell V7 Vn Vac VHa x).2.1 Va (f_X7_fell V7 Vn Vac VHa x).2.2.1 Vs Vsl (f_X7_fell V7 Vn Vac VHa x).2.2.2 VHs (f_X8_fell M x).2 := by
  obtain ⟨k1, k2, k3⟩ := r_keep h
  have h0 := h
  obtain ⟨h1, h2, h3, h4, h5, h6, h7, -⟩ := h
  unfold d_X8_fell f_X7_fell f_X8_fell
  rw [p_in9, p_isCell]
  by_cases hx : 0 ≤ x.toInt ∧ x.toInt < 10
  · rw [if_pos hx]
    simp only [i10, if_false]
    obtain ⟨z, hz, rfl⟩ := p_cell hx.1 (n := 10) hx.2 (by omega)
    have e12 : ((12 : Int32) + nI z).toNatClampNeg = 12 + z := by
      show (nI 12 + nI z).toNatClampNeg = _
      rw [nI_add, nI_clamp (by omega)]
    have v12 : vp_in ((12 : Int32) + nI z) 54 := by
      show vp_in (nI 12 + nI z) 54
      rw [nI_add]; exact vp_in_nI (by omega) (by omega)
    have et : Vn.1 0 z = M.1 5 (12 + z) := by rw [h4.2.2.2.2.2.1 z hz, Nat.zero_add]
    rw [e12, p_at1 _ (by omega) hz, et]
    refine ⟨fun _ => ⟨v12, fun _ => ⟨k1, v12, v12⟩⟩, ?_⟩
    by_cases ht : M.1 5 (12 + z) = 0
    · rw [if_pos ht, if_pos ht]; exact ⟨rfl, h0⟩
    · rw [if_neg ht, if_neg ht]
      dsimp only [kAp]
      rw [p_put _ _ (by omega) hz]
      refine ⟨by show M.1 5 (12 + z) = (f_X8_keepAct M).1 5 (12 + z); rw [k3], ?_⟩
      exact RL_set k2 (HR_tree h1 k2.2.2.2.1 hz 0)
  · rw [if_neg hx, if_pos rfl, if_pos rfl]
    exact ⟨fun q => absurd rfl q, rfl, h0⟩
theorem r_grease (h : RLN T co wn V7 Vr Vn Va Vac Vs Vsl VHa VHs M) (x : Int32) : d_X8_grease M x ∧ (f_X7_grease V7 Vn Vac VHa x).1 = (f_X8_grease M x).1 ∧
    RLN T co wn V7 Vr (f_X7_grease V7 Vn Vac VHa x).2.1 Va (f_X7_grease V7 Vn Vac VHa x).2.2.1 Vs Vsl (f_X7_grease V7 Vn Vac VHa x).2.2.2 VHs (f_X8_grease M x).2 := by
  obtain ⟨k1, k2, k3⟩ := r_keep h
  have h0 := h
  obtain ⟨h1, h2, h3, h4, h5, h6, h7, -⟩ := h
  unfold d_X8_grease f_X7_grease f_X8_grease
  rw [p_hasC h4.1 h1, p_isC h5 h1]
  by_cases hx : 0 ≤ x.toInt ∧ x.toInt < co
  · rw [if_pos hx]
    simp only [i10, if_false]
    obtain ⟨z, hz, rfl⟩ := p_cell hx.1 (n := co) hx.2 (by omega)
    have e12 : ((6 : Int32) + nI z).toNatClampNeg = 6 + z := by
      show (nI 6 + nI z).toNatClampNeg = _
      rw [nI_add, nI_clamp (by omega)]
    have v12 : vp_in ((6 : Int32) + nI z) 54 := by
      show vp_in (nI 6 + nI z) 54
      rw [nI_add]; exact vp_in_nI (by omega) (by omega)
    have et : Vn.1 3 z = M.1 5 (6 + z) := by rw [h4.2.2.2.1 z hz, Nat.zero_add]
    rw [e12, p_at1 _ (by omega) (by omega : z < 6), et]
    refine ⟨fun _ => ⟨v12, fun _ => ⟨k1, v12, v12⟩⟩, ?_⟩
    by_cases ht : M.1 5 (6 + z) = 0
    · rw [if_pos ht, if_pos ht]; exact ⟨rfl, h0⟩
    · rw [if_neg ht, if_neg ht]
      dsimp only [kAp]
      rw [p_put _ _ (by omega) (by omega : z < 6)]
      refine ⟨by show M.1 5 (6 + z) = (f_X8_keepAct M).1 5 (6 + z); rw [k3], ?_⟩
      exact RL_set k2 (HR_rust h1 k2.2.2.2.1 hz 0)
  · rw [if_neg hx, if_pos rfl, if_pos rfl]
    exact ⟨fun q => absurd rfl q, rfl, h0⟩
theorem r_capture (h : RLN T co wn V7 Vr Vn Va Vac Vs Vsl VHa VHs M) (x : Int32) : d_X8_capture M x ∧ (f_X7_capture V7 Vn Vac VHa x).1 = (f_X8_capture M x).1 ∧
    RLN T co wn V7 Vr (f_X7_capture V7 Vn Vac VHa x).2.1 Va (f_X7_capture V7 Vn Vac VHa x).2.2.1 Vs Vsl (f_X7_capture V7 Vn Vac VHa x).2.2.2 VHs (f_X8_capture M x).2 := by
  obtain ⟨k1, k2, k3⟩ := r_keep h
  have h0 := h
  obtain ⟨h1, h2, h3, h4, h5, h6, h7, -⟩ := h
  unfold d_X8_capture f_X7_capture f_X8_capture
  rw [p_hasC h4.1 h1, p_isC h5 h1]
  by_cases hx : 0 ≤ x.toInt ∧ x.toInt < co
  · rw [if_pos hx]
    simp only [i10, if_false]
    dsimp only [kAp]
    refine ⟨fun _ => k1, ?_, ?_⟩
    · show f_X7_bit (Vn.2.1 6 ^^^ _) x = (upd _ 22 _ 22 >>> (x &&& 31)) &&& 1
      rw [p_up, if_pos rfl, k2.2.2.2.1.2.2.2.2.2.2.1]
      rfl
    · have e : Vn.2.1 6 = (f_X8_keepAct M).1 5 22 := k2.2.2.2.1.2.2.2.2.2.2.1
      rw [e]
      exact RL_set k2 (HR_par h1 k2.2.2.2.1 _)
  · rw [if_neg hx, if_pos rfl, if_pos rfl]
    exact ⟨fun q => absurd rfl q, rfl, h0⟩
theorem r_hold (h : RLN T co wn V7 Vr Vn Va Vac Vs Vsl VHa VHs M) (x : Int32) : d_X8_hold M x ∧ (f_X7_hold V7 Vn Vac VHa x).1 = (f_X8_hold M x).1 ∧
    RLN T co wn V7 Vr (f_X7_hold V7 Vn Vac VHa x).2.1 Va (f_X7_hold V7 Vn Vac VHa x).2.2.1 Vs Vsl (f_X7_hold V7 Vn Vac VHa x).2.2.2 VHs (f_X8_hold M x).2 := by
  obtain ⟨k1, k2, k3⟩ := r_keep h
  have h0 := h
  obtain ⟨h1, h2, h3, h4, h5, h6, h7, -⟩ := h
  unfold d_X8_hold f_X7_hold f_X8_hold
  rw [p_hasC h4.1 h1, p_isC h5 h1]
  by_cases hx : 0 ≤ x.toInt ∧ x.toInt < co
  · rw [if_pos hx]
    simp only [i10, if_false]
    dsimp only [kAp]
    refine ⟨fun _ => k1, ?_, ?_⟩
    · show f_X7_bit (Vn.2.1 8 ^^^ _) x = (upd _ 24 _ 24 >>> (x &&& 31)) &&& 1
      rw [p_up, if_pos rfl, k2.2.2.2.1.2.2.2.2.2.2.2.2.1]
      rfl
    · have e : Vn.2.1 8 = (f_X8_keepAct M).1 5 24 := k2.2.2.2.1.2.2.2.2.2.2.2.2.1
      rw [e]
      exact RL_set k2 (HR_held h1 k2.2.2.2.1 _)
  · rw [if_neg hx, if_pos rfl, if_pos rfl]
    exact ⟨fun q => absurd rfl q, rfl, h0⟩
end ACTS
