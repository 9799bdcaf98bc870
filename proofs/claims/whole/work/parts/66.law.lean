theorem dL_law_646 : decode cL_law 646 = .ok (.aload_n 1, 1) := by decide +kernel
theorem dL_law_647 : decode cL_law 647 = .ok (.aload_n 0, 1) := by decide +kernel
theorem dL_law_648 : decode cL_law 648 = .ok (.iload_n 3, 1) := by decide +kernel
theorem dL_law_649 : decode cL_law 649 = .ok (.iconst 1, 1) := by decide +kernel
theorem dL_law_650 : decode cL_law 650 = .ok (.iadd, 1) := by decide +kernel
theorem dL_law_651 : decode cL_law 651 = .ok (.iaload, 1) := by decide +kernel
theorem dL_law_652 : decode cL_law 652 = .ok (.aload_n 0, 1) := by decide +kernel
theorem dL_law_653 : decode cL_law 653 = .ok (.iload_n 3, 1) := by decide +kernel
theorem dL_law_654 : decode cL_law 654 = .ok (.iconst 2, 1) := by decide +kernel
theorem dL_law_655 : decode cL_law 655 = .ok (.iadd, 1) := by decide +kernel
theorem dL_law_656 : decode cL_law 656 = .ok (.iaload, 1) := by decide +kernel
theorem dL_law_657 : decode cL_law 657 = .ok (.invokevirtual 96, 3) := by decide +kernel
theorem dL_law_660 : decode cL_law 660 = .ok (.aload_n 2, 1) := by decide +kernel
theorem dL_law_661 : decode cL_law 661 = .ok (.aload_n 0, 1) := by decide +kernel
theorem dL_law_662 : decode cL_law 662 = .ok (.iload_n 3, 1) := by decide +kernel
theorem dL_law_663 : decode cL_law 663 = .ok (.iconst 1, 1) := by decide +kernel
theorem dL_law_664 : decode cL_law 664 = .ok (.iadd, 1) := by decide +kernel
theorem dL_law_665 : decode cL_law 665 = .ok (.iaload, 1) := by decide +kernel
theorem dL_law_666 : decode cL_law 666 = .ok (.aload_n 0, 1) := by decide +kernel
theorem dL_law_667 : decode cL_law 667 = .ok (.iload_n 3, 1) := by decide +kernel
theorem dL_law_668 : decode cL_law 668 = .ok (.iconst 2, 1) := by decide +kernel
theorem dL_law_669 : decode cL_law 669 = .ok (.iadd, 1) := by decide +kernel
theorem dL_law_670 : decode cL_law 670 = .ok (.iaload, 1) := by decide +kernel
theorem dL_law_671 : decode cL_law 671 = .ok (.invokevirtual 99, 3) := by decide +kernel
theorem dL_law_674 : decode cL_law 674 = .ok (.if_icmp .eq 335, 3) := by decide +kernel
theorem dL_law_679 : decode cL_law 679 = .ok (.aload_n 1, 1) := by decide +kernel
theorem dL_law_680 : decode cL_law 680 = .ok (.aload_n 0, 1) := by decide +kernel
theorem dL_law_681 : decode cL_law 681 = .ok (.iload_n 3, 1) := by decide +kernel
theorem dL_law_682 : decode cL_law 682 = .ok (.iconst 1, 1) := by decide +kernel
theorem dL_law_683 : decode cL_law 683 = .ok (.iadd, 1) := by decide +kernel
theorem dL_law_684 : decode cL_law 684 = .ok (.iaload, 1) := by decide +kernel
theorem dL_law_685 : decode cL_law 685 = .ok (.aload_n 0, 1) := by decide +kernel
theorem dL_law_686 : decode cL_law 686 = .ok (.iload_n 3, 1) := by decide +kernel
theorem dL_law_687 : decode cL_law 687 = .ok (.iconst 2, 1) := by decide +kernel
theorem dL_law_688 : decode cL_law 688 = .ok (.iadd, 1) := by decide +kernel
theorem dL_law_689 : decode cL_law 689 = .ok (.iaload, 1) := by decide +kernel
theorem dL_law_690 : decode cL_law 690 = .ok (.invokevirtual 100, 3) := by decide +kernel
theorem dL_law_693 : decode cL_law 693 = .ok (.aload_n 2, 1) := by decide +kernel
theorem dL_law_694 : decode cL_law 694 = .ok (.aload_n 0, 1) := by decide +kernel
theorem dL_law_695 : decode cL_law 695 = .ok (.iload_n 3, 1) := by decide +kernel
theorem dL_law_696 : decode cL_law 696 = .ok (.iconst 1, 1) := by decide +kernel
theorem dL_law_697 : decode cL_law 697 = .ok (.iadd, 1) := by decide +kernel
theorem dL_law_698 : decode cL_law 698 = .ok (.iaload, 1) := by decide +kernel
theorem dL_law_699 : decode cL_law 699 = .ok (.aload_n 0, 1) := by decide +kernel
theorem dL_law_700 : decode cL_law 700 = .ok (.iload_n 3, 1) := by decide +kernel
theorem dL_law_701 : decode cL_law 701 = .ok (.iconst 2, 1) := by decide +kernel
theorem dL_law_702 : decode cL_law 702 = .ok (.iadd, 1) := by decide +kernel
theorem dL_law_703 : decode cL_law 703 = .ok (.iaload, 1) := by decide +kernel
theorem dL_law_704 : decode cL_law 704 = .ok (.invokevirtual 103, 3) := by decide +kernel
theorem dL_law_707 : decode cL_law 707 = .ok (.if_icmp .eq 302, 3) := by decide +kernel
theorem dL_law_712 : decode cL_law 712 = .ok (.aload_n 1, 1) := by decide +kernel
theorem dL_law_713 : decode cL_law 713 = .ok (.invokevirtual 104, 3) := by decide +kernel
theorem dL_law_716 : decode cL_law 716 = .ok (.aload_n 2, 1) := by decide +kernel
theorem dL_law_717 : decode cL_law 717 = .ok (.invokevirtual 107, 3) := by decide +kernel
theorem dL_law_720 : decode cL_law 720 = .ok (.if_icmp .eq 289, 3) := by decide +kernel
theorem dL_law_725 : decode cL_law 725 = .ok (.aload_n 1, 1) := by decide +kernel
theorem dL_law_726 : decode cL_law 726 = .ok (.aload_n 0, 1) := by decide +kernel
theorem dL_law_727 : decode cL_law 727 = .ok (.iload_n 3, 1) := by decide +kernel
theorem dL_law_728 : decode cL_law 728 = .ok (.iconst 1, 1) := by decide +kernel
theorem dL_law_729 : decode cL_law 729 = .ok (.iadd, 1) := by decide +kernel
theorem dL_law_730 : decode cL_law 730 = .ok (.iaload, 1) := by decide +kernel
theorem dL_law_731 : decode cL_law 731 = .ok (.aload_n 0, 1) := by decide +kernel
theorem dL_law_732 : decode cL_law 732 = .ok (.iload_n 3, 1) := by decide +kernel
theorem dL_law_733 : decode cL_law 733 = .ok (.iconst 2, 1) := by decide +kernel
theorem dL_law_734 : decode cL_law 734 = .ok (.iadd, 1) := by decide +kernel
theorem dL_law_735 : decode cL_law 735 = .ok (.iaload, 1) := by decide +kernel
theorem dL_law_736 : decode cL_law 736 = .ok (.invokevirtual 108, 3) := by decide +kernel
theorem dL_law_739 : decode cL_law 739 = .ok (.aload_n 2, 1) := by decide +kernel
theorem dL_law_740 : decode cL_law 740 = .ok (.aload_n 0, 1) := by decide +kernel
theorem dL_law_741 : decode cL_law 741 = .ok (.iload_n 3, 1) := by decide +kernel
theorem dL_law_742 : decode cL_law 742 = .ok (.iconst 1, 1) := by decide +kernel
theorem dL_law_743 : decode cL_law 743 = .ok (.iadd, 1) := by decide +kernel
theorem dL_law_744 : decode cL_law 744 = .ok (.iaload, 1) := by decide +kernel
theorem dL_law_745 : decode cL_law 745 = .ok (.aload_n 0, 1) := by decide +kernel
theorem dL_law_746 : decode cL_law 746 = .ok (.iload_n 3, 1) := by decide +kernel
theorem dL_law_747 : decode cL_law 747 = .ok (.iconst 2, 1) := by decide +kernel
theorem dL_law_748 : decode cL_law 748 = .ok (.iadd, 1) := by decide +kernel
theorem dL_law_749 : decode cL_law 749 = .ok (.iaload, 1) := by decide +kernel
theorem dL_law_750 : decode cL_law 750 = .ok (.invokevirtual 111, 3) := by decide +kernel
theorem dL_law_753 : decode cL_law 753 = .ok (.if_icmp .eq 256, 3) := by decide +kernel
set_option maxHeartbeats 4000000 in
set_option maxRecDepth 100000 in
theorem law_20 {p : Program} {l : Launch} {e : Env} {s : State} {m : MethodId} {below : List Frame} {meth : Method} {c : Code} {H : Heap} {locs : List Loc} {cells slots : Nat} {Q : State → Prop} {ls : Array Slot} {G : Ge} {A : Nat → Prop} {b L : Nat} {xs : Nat → Int32} {γ : Nat → Nat → Nat} {γh : Nat → Nat → Nat → Nat} {g8 : Nat → Nat} {i T : Nat} (C : LC p s m c b L xs G A) (h1 : vp_in (nI i + 1) L) (h2 : vp_in (nI i + 2) L) (h3 : vp_in (nI i + 3) L) (hT : T < 2 ^ 31) (hcs : cells ≤ room_1.cells ∧ slots ≤ room_1.slots) (hl : lv_has ls 4 [(3, .int (nI i)), (2, .ref (g8 0)), (1, .ref (γ 0 0)), (0, .ref b)]) (hI : LINV G γ γh g8 A s.heap T H locs)
    (kk : ∀ (H1 : Heap) (locs1 : List Loc), LINV G γ γh g8 A s.heap (T + 1) H1 locs1 → W p l e room_1 s m #[Value.ref b] below meth c H1 locs1 cells slots Q (F0 m 1009 ls [])) : W p l e room_1 s m #[Value.ref b] below meth c H locs cells slots Q (F0 m 646 ls []) := by
  obtain ⟨hx, hb, hml, hown, hts, hK, hN, hX, hbl, hbA, hA⟩ := C
  obtain ⟨co, wn, V7, Vr, Vg, Vga, Vn, Va, Vac, VHa, Vs, Vsl, VHs, Vp, Vpt, Vt, M, hR, hH⟩ := hI
  refine lv_aload_n hx hb dL_law_646 rfl (lv_at hl 2 rfl) ?_
  refine lv_aload_n hx hb dL_law_647 rfl (lv_at hl 3 rfl) ?_
  refine lv_iload_n hx hb dL_law_648 rfl (lv_at hl 0 rfl) ?_
  refine lv_iconst (v := 1) hx hb dL_law_649 (by decide) ?_
  refine lv_iadd hx hb dL_law_650 ?_
  refine va_sld hx hb hX hbl hbA hH.2.2 h1 dL_law_651 ?_
  refine lv_aload_n hx hb dL_law_652 rfl (lv_at hl 3 rfl) ?_
  refine lv_iload_n hx hb dL_law_653 rfl (lv_at hl 0 rfl) ?_
  refine lv_iconst (v := 2) hx hb dL_law_654 (by decide) ?_
  refine lv_iadd hx hb dL_law_655 ?_
  refine va_sld hx hb hX hbl hbA hH.2.2 h2 dL_law_656 ?_
  have r := r_judge (Vt := Vt) hR (xs (nI i + 1).toNatClampNeg) (xs (nI i + 2).toNatClampNeg)
  obtain ⟨F7, hF7⟩ : ∃ z, z = f_X7_judge V7 Vt Vn Va (xs (nI i + 1).toNatClampNeg) (xs (nI i + 2).toNatClampNeg) := ⟨_, rfl⟩
  obtain ⟨F8, hF8⟩ : ∃ z, z = f_X8_judge M (xs (nI i + 1).toNatClampNeg) (xs (nI i + 2).toNatClampNeg) := ⟨_, rfl⟩
  rw [← hF7, ← hF8] at r
  obtain ⟨d8, e, hR2⟩ := r
  refine kb_ciC hH hA [0, 11, 4, 5] (Wc := [(w_O7 G (γ 0) (γ 1 0) (γ 4 0) (γ 5 0) (γ 6 0) (γ 7 0) (γ 8 0) (γ 9 0) (γ 11 0) V7).flatten, (w_O2 G (γ 11) Vt).flatten, (w_O2 G (γ 4) Vn).flatten, (w_O1 G (γ 5) Va).flatten]) (Wc' := [(w_O7 G (γ 0) (γ 1 0) (γ 4 0) (γ 5 0) (γ 6 0) (γ 7 0) (γ 8 0) (γ 9 0) (γ 11 0) V7).flatten, (w_O2 G (γ 11) F7.2).flatten, (w_O2 G (γ 4) Vn).flatten, (w_O1 G (γ 5) Va).flatten]) (WS' := (LW G γ γh g8 V7 Vr Vg Vga Vn Va Vac VHa Vs Vsl VHs Vp Vpt F7.2 M)) (Wf := (w_O7 G (γ 0) (γ 1 0) (γ 4 0) (γ 5 0) (γ 6 0) (γ 7 0) (γ 8 0) (γ 9 0) (γ 11 0) V7 ++ w_O2 G (γ 11) Vt ++ w_O2 G (γ 4) Vn ++ w_O1 G (γ 5) Va)) (Wf' := (w_O7 G (γ 0) (γ 1 0) (γ 4 0) (γ 5 0) (γ 6 0) (γ 7 0) (γ 8 0) (γ 9 0) (γ 11 0) V7 ++ w_O2 G (γ 11) F7.2 ++ w_O2 G (γ 4) Vn ++ w_O1 G (γ 5) Va)) rfl (by decide) rfl rfl (kb_fl4 _ _ _ _) (kb_fl4 _ _ _ _) (va_runV (C := RX7) (As := [.int (xs (nI i + 1).toNatClampNeg), .int (xs (nI i + 2).toNatClampNeg)]) (rest := []) ⟨hx, hb, hml, hown, hts⟩ (c_X7_judge l G (γ 0) (γ 1 0) (γ 6 0) (γ 7 0) (γ 8 0) (γ 9 0) V7 (γ 11) Vt (γ 4) Vn (γ 5) Va (xs (nI i + 1).toNatClampNeg) (xs (nI i + 2).toNatClampNeg) hF7.symm _) (cwV 2 hts hL_X7_judge rfl rfl rfl he_X7_judge ⟨Nat.le_of_ble_eq_true rfl, Nat.le_of_ble_eq_true rfl⟩) (kb_preVC (Wc := [(w_O7 G (γ 0) (γ 1 0) (γ 4 0) (γ 5 0) (γ 6 0) (γ 7 0) (γ 8 0) (γ 9 0) (γ 11 0) V7).flatten, (w_O2 G (γ 11) Vt).flatten, (w_O2 G (γ 4) Vn).flatten, (w_O1 G (γ 5) Va).flatten]) hH hK hN [0, 11, 4, 5] rfl (by decide) (kb_fl4 _ _ _ _) 0 rfl rfl rfl rfl) rfl rfl hl.1 rfl (lv_room (Nat.le_of_ble_eq_true rfl)) dL_law_657 ⟨hcs.1, hcs.2⟩) (fun H locs hH => ?_)
  have hH : HP G A s.heap (LW G γ γh g8 V7 Vr Vg Vga Vn Va Vac VHa Vs Vsl VHs Vp Vpt F7.2 M) H locs := hH
  refine lv_aload_n hx hb dL_law_660 rfl (lv_at hl 1 rfl) ?_
  refine lv_aload_n hx hb dL_law_661 rfl (lv_at hl 3 rfl) ?_
  refine lv_iload_n hx hb dL_law_662 rfl (lv_at hl 0 rfl) ?_
  refine lv_iconst (v := 1) hx hb dL_law_663 (by decide) ?_
  refine lv_iadd hx hb dL_law_664 ?_
  refine va_sld hx hb hX hbl hbA hH.2.2 h1 dL_law_665 ?_
  refine lv_aload_n hx hb dL_law_666 rfl (lv_at hl 3 rfl) ?_
  refine lv_iload_n hx hb dL_law_667 rfl (lv_at hl 0 rfl) ?_
  refine lv_iconst (v := 2) hx hb dL_law_668 (by decide) ?_
  refine lv_iadd hx hb dL_law_669 ?_
  refine va_sld hx hb hX hbl hbA hH.2.2 h2 dL_law_670 ?_
  refine kb_ciC hH hA [12] (Wc := [(w_O8 G g8 M).flatten]) (Wc' := [(w_O8 G g8 F8.2).flatten]) (WS' := (LW G γ γh g8 V7 Vr Vg Vga Vn Va Vac VHa Vs Vsl VHs Vp Vpt F7.2 F8.2)) (Wf := (w_O8 G g8 M)) (Wf' := (w_O8 G g8 F8.2)) rfl (by decide) rfl rfl (kb_fl1 _) (kb_fl1 _) (va_runV (C := RX8) (As := [.int (xs (nI i + 1).toNatClampNeg), .int (xs (nI i + 2).toNatClampNeg)]) (rest := [.int F7.1]) ⟨hx, hb, hml, hown, hts⟩ (c_X8_judge l G g8 M (xs (nI i + 1).toNatClampNeg) (xs (nI i + 2).toNatClampNeg) d8 hF8.symm _) (cwV 2 hts hL_X8_judge rfl rfl rfl he_X8_judge ⟨Nat.le_of_ble_eq_true rfl, Nat.le_of_ble_eq_true rfl⟩) (kb_preVC (Wc := [(w_O8 G g8 M).flatten]) hH hK hN [12] rfl (by decide) (kb_fl1 _) 12 rfl rfl rfl rfl) rfl rfl hl.1 rfl (lv_room (Nat.le_of_ble_eq_true rfl)) dL_law_671 ⟨hcs.1, hcs.2⟩) (fun H locs hH => ?_)
  have hH : HP G A s.heap (LW G γ γh g8 V7 Vr Vg Vga Vn Va Vac VHa Vs Vsl VHs Vp Vpt F7.2 F8.2) H locs := hH
  refine lv_icmp_eq (tgt := 1009) hx hb dL_law_674 (by decide) (fun _ => ?_) (fun c2 => absurd e c2)
  exact kk _ _ ⟨_, _, V7, Vr, Vg, Vga, Vn, Va, Vac, VHa, Vs, Vsl, VHs, Vp, Vpt, F7.2, F8.2, (RLN_mono (Nat.le_succ T) hR2), hH⟩
set_option maxHeartbeats 4000000 in
set_option maxRecDepth 100000 in
theorem law_21 {p : Program} {l : Launch} {e : Env} {s : State} {m : MethodId} {below : List Frame} {meth : Method} {c : Code} {H : Heap} {locs : List Loc} {cells slots : Nat} {Q : State → Prop} {ls : Array Slot} {G : Ge} {A : Nat → Prop} {b L : Nat} {xs : Nat → Int32} {γ : Nat → Nat → Nat} {γh : Nat → Nat → Nat → Nat} {g8 : Nat → Nat} {i T : Nat} (C : LC p s m c b L xs G A) (h1 : vp_in (nI i + 1) L) (h2 : vp_in (nI i + 2) L) (h3 : vp_in (nI i + 3) L) (hT : T < 2 ^ 31) (hcs : cells ≤ room_1.cells ∧ slots ≤ room_1.slots) (hl : lv_has ls 4 [(3, .int (nI i)), (2, .ref (g8 0)), (1, .ref (γ 0 0)), (0, .ref b)]) (hI : LINV G γ γh g8 A s.heap T H locs)
    (kk : ∀ (H1 : Heap) (locs1 : List Loc), LINV G γ γh g8 A s.heap (T + 1) H1 locs1 → W p l e room_1 s m #[Value.ref b] below meth c H1 locs1 cells slots Q (F0 m 1009 ls [])) : W p l e room_1 s m #[Value.ref b] below meth c H locs cells slots Q (F0 m 679 ls []) := by
  obtain ⟨hx, hb, hml, hown, hts, hK, hN, hX, hbl, hbA, hA⟩ := C
  obtain ⟨co, wn, V7, Vr, Vg, Vga, Vn, Va, Vac, VHa, Vs, Vsl, VHs, Vp, Vpt, Vt, M, hR, hH⟩ := hI
  refine lv_aload_n hx hb dL_law_679 rfl (lv_at hl 2 rfl) ?_
  refine lv_aload_n hx hb dL_law_680 rfl (lv_at hl 3 rfl) ?_
  refine lv_iload_n hx hb dL_law_681 rfl (lv_at hl 0 rfl) ?_
  refine lv_iconst (v := 1) hx hb dL_law_682 (by decide) ?_
  refine lv_iadd hx hb dL_law_683 ?_
  refine va_sld hx hb hX hbl hbA hH.2.2 h1 dL_law_684 ?_
  refine lv_aload_n hx hb dL_law_685 rfl (lv_at hl 3 rfl) ?_
  refine lv_iload_n hx hb dL_law_686 rfl (lv_at hl 0 rfl) ?_
  refine lv_iconst (v := 2) hx hb dL_law_687 (by decide) ?_
  refine lv_iadd hx hb dL_law_688 ?_
  refine va_sld hx hb hX hbl hbA hH.2.2 h2 dL_law_689 ?_
  have r := r_see hR (xs (nI i + 1).toNatClampNeg) (xs (nI i + 2).toNatClampNeg)
  obtain ⟨F7, hF7⟩ : ∃ z, z = f_X7_see V7 Vn Vs (xs (nI i + 1).toNatClampNeg) (xs (nI i + 2).toNatClampNeg) := ⟨_, rfl⟩
  obtain ⟨F8, hF8⟩ : ∃ z, z = f_X8_see M (xs (nI i + 1).toNatClampNeg) (xs (nI i + 2).toNatClampNeg) := ⟨_, rfl⟩
  rw [← hF7, ← hF8] at r
  obtain ⟨d8, e, hR2⟩ := r
  refine kb_ciC hH hA [0, 4, 7] (Wc := [(w_O7 G (γ 0) (γ 1 0) (γ 4 0) (γ 5 0) (γ 6 0) (γ 7 0) (γ 8 0) (γ 9 0) (γ 11 0) V7).flatten, (w_O2 G (γ 4) Vn).flatten, (w_O5 G (γ 7) Vs).flatten]) (Wc' := [(w_O7 G (γ 0) (γ 1 0) (γ 4 0) (γ 5 0) (γ 6 0) (γ 7 0) (γ 8 0) (γ 9 0) (γ 11 0) V7).flatten, (w_O2 G (γ 4) Vn).flatten, (w_O5 G (γ 7) F7.2).flatten]) (WS' := (LW G γ γh g8 V7 Vr Vg Vga Vn Va Vac VHa F7.2 Vsl VHs Vp Vpt Vt M)) (Wf := (w_O7 G (γ 0) (γ 1 0) (γ 4 0) (γ 5 0) (γ 6 0) (γ 7 0) (γ 8 0) (γ 9 0) (γ 11 0) V7 ++ w_O2 G (γ 4) Vn ++ w_O5 G (γ 7) Vs)) (Wf' := (w_O7 G (γ 0) (γ 1 0) (γ 4 0) (γ 5 0) (γ 6 0) (γ 7 0) (γ 8 0) (γ 9 0) (γ 11 0) V7 ++ w_O2 G (γ 4) Vn ++ w_O5 G (γ 7) F7.2)) rfl (by decide) rfl rfl (kb_fl3 _ _ _) (kb_fl3 _ _ _) (va_runV (C := RX7) (As := [.int (xs (nI i + 1).toNatClampNeg), .int (xs (nI i + 2).toNatClampNeg)]) (rest := []) ⟨hx, hb, hml, hown, hts⟩ (c_X7_see l G (γ 0) (γ 1 0) (γ 5 0) (γ 6 0) (γ 8 0) (γ 9 0) (γ 11 0) V7 (γ 4) Vn (γ 7) Vs (xs (nI i + 1).toNatClampNeg) (xs (nI i + 2).toNatClampNeg) hF7.symm _) (cwV 2 hts hL_X7_see rfl rfl rfl he_X7_see ⟨Nat.le_of_ble_eq_true rfl, Nat.le_of_ble_eq_true rfl⟩) (kb_preVC (Wc := [(w_O7 G (γ 0) (γ 1 0) (γ 4 0) (γ 5 0) (γ 6 0) (γ 7 0) (γ 8 0) (γ 9 0) (γ 11 0) V7).flatten, (w_O2 G (γ 4) Vn).flatten, (w_O5 G (γ 7) Vs).flatten]) hH hK hN [0, 4, 7] rfl (by decide) (kb_fl3 _ _ _) 0 rfl rfl rfl rfl) rfl rfl hl.1 rfl (lv_room (Nat.le_of_ble_eq_true rfl)) dL_law_690 ⟨hcs.1, hcs.2⟩) (fun H locs hH => ?_)
  have hH : HP G A s.heap (LW G γ γh g8 V7 Vr Vg Vga Vn Va Vac VHa F7.2 Vsl VHs Vp Vpt Vt M) H locs := hH
  refine lv_aload_n hx hb dL_law_693 rfl (lv_at hl 1 rfl) ?_
  refine lv_aload_n hx hb dL_law_694 rfl (lv_at hl 3 rfl) ?_
  refine lv_iload_n hx hb dL_law_695 rfl (lv_at hl 0 rfl) ?_
  refine lv_iconst (v := 1) hx hb dL_law_696 (by decide) ?_
  refine lv_iadd hx hb dL_law_697 ?_
  refine va_sld hx hb hX hbl hbA hH.2.2 h1 dL_law_698 ?_
  refine lv_aload_n hx hb dL_law_699 rfl (lv_at hl 3 rfl) ?_
  refine lv_iload_n hx hb dL_law_700 rfl (lv_at hl 0 rfl) ?_
  refine lv_iconst (v := 2) hx hb dL_law_701 (by decide) ?_
  refine lv_iadd hx hb dL_law_702 ?_
  refine va_sld hx hb hX hbl hbA hH.2.2 h2 dL_law_703 ?_
  refine kb_ciC hH hA [12] (Wc := [(w_O8 G g8 M).flatten]) (Wc' := [(w_O8 G g8 F8.2).flatten]) (WS' := (LW G γ γh g8 V7 Vr Vg Vga Vn Va Vac VHa F7.2 Vsl VHs Vp Vpt Vt F8.2)) (Wf := (w_O8 G g8 M)) (Wf' := (w_O8 G g8 F8.2)) rfl (by decide) rfl rfl (kb_fl1 _) (kb_fl1 _) (va_runV (C := RX8) (As := [.int (xs (nI i + 1).toNatClampNeg), .int (xs (nI i + 2).toNatClampNeg)]) (rest := [.int F7.1]) ⟨hx, hb, hml, hown, hts⟩ (c_X8_see l G g8 M (xs (nI i + 1).toNatClampNeg) (xs (nI i + 2).toNatClampNeg) d8 hF8.symm _) (cwV 2 hts hL_X8_see rfl rfl rfl he_X8_see ⟨Nat.le_of_ble_eq_true rfl, Nat.le_of_ble_eq_true rfl⟩) (kb_preVC (Wc := [(w_O8 G g8 M).flatten]) hH hK hN [12] rfl (by decide) (kb_fl1 _) 12 rfl rfl rfl rfl) rfl rfl hl.1 rfl (lv_room (Nat.le_of_ble_eq_true rfl)) dL_law_704 ⟨hcs.1, hcs.2⟩) (fun H locs hH => ?_)
  have hH : HP G A s.heap (LW G γ γh g8 V7 Vr Vg Vga Vn Va Vac VHa F7.2 Vsl VHs Vp Vpt Vt F8.2) H locs := hH
  refine lv_icmp_eq (tgt := 1009) hx hb dL_law_707 (by decide) (fun _ => ?_) (fun c2 => absurd e c2)
  exact kk _ _ ⟨_, _, V7, Vr, Vg, Vga, Vn, Va, Vac, VHa, F7.2, Vsl, VHs, Vp, Vpt, Vt, F8.2, (RLN_mono (Nat.le_succ T) hR2), hH⟩
set_option maxHeartbeats 4000000 in
set_option maxRecDepth 100000 in
theorem law_22 {p : Program} {l : Launch} {e : Env} {s : State} {m : MethodId} {below : List Frame} {meth : Method} {c : Code} {H : Heap} {locs : List Loc} {cells slots : Nat} {Q : State → Prop} {ls : Array Slot} {G : Ge} {A : Nat → Prop} {b L : Nat} {xs : Nat → Int32} {γ : Nat → Nat → Nat} {γh : Nat → Nat → Nat → Nat} {g8 : Nat → Nat} {i T : Nat} (C : LC p s m c b L xs G A) (h1 : vp_in (nI i + 1) L) (h2 : vp_in (nI i + 2) L) (h3 : vp_in (nI i + 3) L) (hT : T < 2 ^ 31) (hcs : cells ≤ room_1.cells ∧ slots ≤ room_1.slots) (hl : lv_has ls 4 [(3, .int (nI i)), (2, .ref (g8 0)), (1, .ref (γ 0 0)), (0, .ref b)]) (hI : LINV G γ γh g8 A s.heap T H locs)
    (kk : ∀ (H1 : Heap) (locs1 : List Loc), LINV G γ γh g8 A s.heap (T + 1) H1 locs1 → W p l e room_1 s m #[Value.ref b] below meth c H1 locs1 cells slots Q (F0 m 1009 ls [])) : W p l e room_1 s m #[Value.ref b] below meth c H locs cells slots Q (F0 m 712 ls []) := by
  obtain ⟨hx, hb, hml, hown, hts, hK, hN, hX, hbl, hbA, hA⟩ := C
  obtain ⟨co, wn, V7, Vr, Vg, Vga, Vn, Va, Vac, VHa, Vs, Vsl, VHs, Vp, Vpt, Vt, M, hR, hH⟩ := hI
  refine lv_aload_n hx hb dL_law_712 rfl (lv_at hl 2 rfl) ?_
  have r := r_unsee hR
  obtain ⟨F7, hF7⟩ : ∃ z, z = f_X7_unsee V7 Vs := ⟨_, rfl⟩
  obtain ⟨F8, hF8⟩ : ∃ z, z = f_X8_unsee M := ⟨_, rfl⟩
  rw [← hF7, ← hF8] at r
  obtain ⟨e, hR2⟩ := r
  refine kb_ciC hH hA [0, 7] (Wc := [(w_O7 G (γ 0) (γ 1 0) (γ 4 0) (γ 5 0) (γ 6 0) (γ 7 0) (γ 8 0) (γ 9 0) (γ 11 0) V7).flatten, (w_O5 G (γ 7) Vs).flatten]) (Wc' := [(w_O7 G (γ 0) (γ 1 0) (γ 4 0) (γ 5 0) (γ 6 0) (γ 7 0) (γ 8 0) (γ 9 0) (γ 11 0) V7).flatten, (w_O5 G (γ 7) F7.2).flatten]) (WS' := (LW G γ γh g8 V7 Vr Vg Vga Vn Va Vac VHa F7.2 Vsl VHs Vp Vpt Vt M)) (Wf := (w_O7 G (γ 0) (γ 1 0) (γ 4 0) (γ 5 0) (γ 6 0) (γ 7 0) (γ 8 0) (γ 9 0) (γ 11 0) V7 ++ w_O5 G (γ 7) Vs)) (Wf' := (w_O7 G (γ 0) (γ 1 0) (γ 4 0) (γ 5 0) (γ 6 0) (γ 7 0) (γ 8 0) (γ 9 0) (γ 11 0) V7 ++ w_O5 G (γ 7) F7.2)) rfl (by decide) rfl rfl (kb_fl2 _ _) (kb_fl2 _ _) (va_runV (C := RX7) (As := []) (rest := []) ⟨hx, hb, hml, hown, hts⟩ (c_X7_unsee l G (γ 0) (γ 1 0) (γ 4 0) (γ 5 0) (γ 6 0) (γ 8 0) (γ 9 0) (γ 11 0) V7 (γ 7) Vs hF7.symm _) (cwV 0 hts hL_X7_unsee rfl rfl rfl he_X7_unsee ⟨Nat.le_of_ble_eq_true rfl, Nat.le_of_ble_eq_true rfl⟩) (kb_preVC (Wc := [(w_O7 G (γ 0) (γ 1 0) (γ 4 0) (γ 5 0) (γ 6 0) (γ 7 0) (γ 8 0) (γ 9 0) (γ 11 0) V7).flatten, (w_O5 G (γ 7) Vs).flatten]) hH hK hN [0, 7] rfl (by decide) (kb_fl2 _ _) 0 rfl rfl rfl rfl) rfl rfl hl.1 rfl (lv_room (Nat.le_of_ble_eq_true rfl)) dL_law_713 ⟨hcs.1, hcs.2⟩) (fun H locs hH => ?_)
  have hH : HP G A s.heap (LW G γ γh g8 V7 Vr Vg Vga Vn Va Vac VHa F7.2 Vsl VHs Vp Vpt Vt M) H locs := hH
  refine lv_aload_n hx hb dL_law_716 rfl (lv_at hl 1 rfl) ?_
  refine kb_ciC hH hA [12] (Wc := [(w_O8 G g8 M).flatten]) (Wc' := [(w_O8 G g8 F8.2).flatten]) (WS' := (LW G γ γh g8 V7 Vr Vg Vga Vn Va Vac VHa F7.2 Vsl VHs Vp Vpt Vt F8.2)) (Wf := (w_O8 G g8 M)) (Wf' := (w_O8 G g8 F8.2)) rfl (by decide) rfl rfl (kb_fl1 _) (kb_fl1 _) (va_runV (C := RX8) (As := []) (rest := [.int F7.1]) ⟨hx, hb, hml, hown, hts⟩ (c_X8_unsee l G g8 M hF8.symm _) (cwV 0 hts hL_X8_unsee rfl rfl rfl he_X8_unsee ⟨Nat.le_of_ble_eq_true rfl, Nat.le_of_ble_eq_true rfl⟩) (kb_preVC (Wc := [(w_O8 G g8 M).flatten]) hH hK hN [12] rfl (by decide) (kb_fl1 _) 12 rfl rfl rfl rfl) rfl rfl hl.1 rfl (lv_room (Nat.le_of_ble_eq_true rfl)) dL_law_717 ⟨hcs.1, hcs.2⟩) (fun H locs hH => ?_)
  have hH : HP G A s.heap (LW G γ γh g8 V7 Vr Vg Vga Vn Va Vac VHa F7.2 Vsl VHs Vp Vpt Vt F8.2) H locs := hH
  refine lv_icmp_eq (tgt := 1009) hx hb dL_law_720 (by decide) (fun _ => ?_) (fun c2 => absurd e c2)
  exact kk _ _ ⟨_, _, V7, Vr, Vg, Vga, Vn, Va, Vac, VHa, F7.2, Vsl, VHs, Vp, Vpt, Vt, F8.2, (RLN_mono (Nat.le_succ T) hR2), hH⟩
set_option maxHeartbeats 4000000 in
set_option maxRecDepth 100000 in
theorem law_23 {p : Program} {l : Launch} {e : Env} {s : State} {m : MethodId} {below : List Frame} {meth : Method} {c : Code} {H : Heap} {locs : List Loc} {cells slots : Nat} {Q : State → Prop} {ls : Array Slot} {G : Ge} {A : Nat → Prop} {b L : Nat} {xs : Nat → Int32} {γ : Nat → Nat → Nat} {γh : Nat → Nat → Nat → Nat} {g8 : Nat → Nat} {i T : Nat} (C : LC p s m c b L xs G A) (h1 : vp_in (nI i + 1) L) (h2 : vp_in (nI i + 2) L) (h3 : vp_in (nI i + 3) L) (hT : T < 2 ^ 31) (hcs : cells ≤ room_1.cells ∧ slots ≤ room_1.slots) (hl : lv_has ls 4 [(3, .int (nI i)), (2, .ref (g8 0)), (1, .ref (γ 0 0)), (0, .ref b)]) (hI : LINV G γ γh g8 A s.heap T H locs)
    (kk : ∀ (H1 : Heap) (locs1 : List Loc), LINV G γ γh g8 A s.heap (T + 1) H1 locs1 → W p l e room_1 s m #[Value.ref b] below meth c H1 locs1 cells slots Q (F0 m 1009 ls [])) : W p l e room_1 s m #[Value.ref b] below meth c H locs cells slots Q (F0 m 725 ls []) := by
  obtain ⟨hx, hb, hml, hown, hts, hK, hN, hX, hbl, hbA, hA⟩ := C
  obtain ⟨co, wn, V7, Vr, Vg, Vga, Vn, Va, Vac, VHa, Vs, Vsl, VHs, Vp, Vpt, Vt, M, hR, hH⟩ := hI
  refine lv_aload_n hx hb dL_law_725 rfl (lv_at hl 2 rfl) ?_
  refine lv_aload_n hx hb dL_law_726 rfl (lv_at hl 3 rfl) ?_
  refine lv_iload_n hx hb dL_law_727 rfl (lv_at hl 0 rfl) ?_
  refine lv_iconst (v := 1) hx hb dL_law_728 (by decide) ?_
  refine lv_iadd hx hb dL_law_729 ?_
  refine va_sld hx hb hX hbl hbA hH.2.2 h1 dL_law_730 ?_
  refine lv_aload_n hx hb dL_law_731 rfl (lv_at hl 3 rfl) ?_
  refine lv_iload_n hx hb dL_law_732 rfl (lv_at hl 0 rfl) ?_
  refine lv_iconst (v := 2) hx hb dL_law_733 (by decide) ?_
  refine lv_iadd hx hb dL_law_734 ?_
  refine va_sld hx hb hX hbl hbA hH.2.2 h2 dL_law_735 ?_
  have r := r_strings hR (xs (nI i + 1).toNatClampNeg) (xs (nI i + 2).toNatClampNeg)
  obtain ⟨F7, hF7⟩ : ∃ z, z = f_X7_strings V7 Va Vn Vs (xs (nI i + 1).toNatClampNeg) (xs (nI i + 2).toNatClampNeg) := ⟨_, rfl⟩
  obtain ⟨F8, hF8⟩ : ∃ z, z = f_X8_strings M (xs (nI i + 1).toNatClampNeg) (xs (nI i + 2).toNatClampNeg) := ⟨_, rfl⟩
  rw [← hF7, ← hF8] at r
  obtain ⟨d7, d8, e⟩ := r
  refine kb_ciC hH hA [0, 5, 4, 7] (Wc := [(w_O7 G (γ 0) (γ 1 0) (γ 4 0) (γ 5 0) (γ 6 0) (γ 7 0) (γ 8 0) (γ 9 0) (γ 11 0) V7).flatten, (w_O1 G (γ 5) Va).flatten, (w_O2 G (γ 4) Vn).flatten, (w_O5 G (γ 7) Vs).flatten]) (Wc' := [(w_O7 G (γ 0) (γ 1 0) (γ 4 0) (γ 5 0) (γ 6 0) (γ 7 0) (γ 8 0) (γ 9 0) (γ 11 0) V7).flatten, (w_O1 G (γ 5) Va).flatten, (w_O2 G (γ 4) Vn).flatten, (w_O5 G (γ 7) Vs).flatten]) (WS' := (LW G γ γh g8 V7 Vr Vg Vga Vn Va Vac VHa Vs Vsl VHs Vp Vpt Vt M)) (Wf := (w_O7 G (γ 0) (γ 1 0) (γ 4 0) (γ 5 0) (γ 6 0) (γ 7 0) (γ 8 0) (γ 9 0) (γ 11 0) V7 ++ w_O1 G (γ 5) Va ++ w_O2 G (γ 4) Vn ++ w_O5 G (γ 7) Vs)) (Wf' := (w_O7 G (γ 0) (γ 1 0) (γ 4 0) (γ 5 0) (γ 6 0) (γ 7 0) (γ 8 0) (γ 9 0) (γ 11 0) V7 ++ w_O1 G (γ 5) Va ++ w_O2 G (γ 4) Vn ++ w_O5 G (γ 7) Vs)) rfl (by decide) rfl rfl (kb_fl4 _ _ _ _) (kb_fl4 _ _ _ _) (va_runV (C := RX7) (As := [.int (xs (nI i + 1).toNatClampNeg), .int (xs (nI i + 2).toNatClampNeg)]) (rest := []) ⟨hx, hb, hml, hown, hts⟩ (c_X7_strings l G (γ 0) (γ 1 0) (γ 6 0) (γ 8 0) (γ 9 0) (γ 11 0) V7 (γ 5) Va (γ 4) Vn (γ 7) Vs (xs (nI i + 1).toNatClampNeg) (xs (nI i + 2).toNatClampNeg) d7 hF7.symm _) (cwV 2 hts hL_X7_strings rfl rfl rfl he_X7_strings ⟨Nat.le_of_ble_eq_true rfl, Nat.le_of_ble_eq_true rfl⟩) (kb_preVC (Wc := [(w_O7 G (γ 0) (γ 1 0) (γ 4 0) (γ 5 0) (γ 6 0) (γ 7 0) (γ 8 0) (γ 9 0) (γ 11 0) V7).flatten, (w_O1 G (γ 5) Va).flatten, (w_O2 G (γ 4) Vn).flatten, (w_O5 G (γ 7) Vs).flatten]) hH hK hN [0, 5, 4, 7] rfl (by decide) (kb_fl4 _ _ _ _) 0 rfl rfl rfl rfl) rfl rfl hl.1 rfl (lv_room (Nat.le_of_ble_eq_true rfl)) dL_law_736 ⟨hcs.1, hcs.2⟩) (fun H locs hH => ?_)
  have hH : HP G A s.heap (LW G γ γh g8 V7 Vr Vg Vga Vn Va Vac VHa Vs Vsl VHs Vp Vpt Vt M) H locs := hH
  refine lv_aload_n hx hb dL_law_739 rfl (lv_at hl 1 rfl) ?_
  refine lv_aload_n hx hb dL_law_740 rfl (lv_at hl 3 rfl) ?_
  refine lv_iload_n hx hb dL_law_741 rfl (lv_at hl 0 rfl) ?_
  refine lv_iconst (v := 1) hx hb dL_law_742 (by decide) ?_
  refine lv_iadd hx hb dL_law_743 ?_
  refine va_sld hx hb hX hbl hbA hH.2.2 h1 dL_law_744 ?_
  refine lv_aload_n hx hb dL_law_745 rfl (lv_at hl 3 rfl) ?_
  refine lv_iload_n hx hb dL_law_746 rfl (lv_at hl 0 rfl) ?_
  refine lv_iconst (v := 2) hx hb dL_law_747 (by decide) ?_
  refine lv_iadd hx hb dL_law_748 ?_
  refine va_sld hx hb hX hbl hbA hH.2.2 h2 dL_law_749 ?_
  refine kb_ciC hH hA [12] (Wc := [(w_O8 G g8 M).flatten]) (Wc' := [(w_O8 G g8 M).flatten]) (WS' := (LW G γ γh g8 V7 Vr Vg Vga Vn Va Vac VHa Vs Vsl VHs Vp Vpt Vt M)) (Wf := (w_O8 G g8 M)) (Wf' := (w_O8 G g8 M)) rfl (by decide) rfl rfl (kb_fl1 _) (kb_fl1 _) (va_runV (C := RX8) (As := [.int (xs (nI i + 1).toNatClampNeg), .int (xs (nI i + 2).toNatClampNeg)]) (rest := [.int F7]) ⟨hx, hb, hml, hown, hts⟩ (c_X8_strings l G g8 M (xs (nI i + 1).toNatClampNeg) (xs (nI i + 2).toNatClampNeg) d8 hF8.symm _) (cwV 2 hts hL_X8_strings rfl rfl rfl he_X8_strings ⟨Nat.le_of_ble_eq_true rfl, Nat.le_of_ble_eq_true rfl⟩) (kb_preVC (Wc := [(w_O8 G g8 M).flatten]) hH hK hN [12] rfl (by decide) (kb_fl1 _) 12 rfl rfl rfl rfl) rfl rfl hl.1 rfl (lv_room (Nat.le_of_ble_eq_true rfl)) dL_law_750 ⟨hcs.1, hcs.2⟩) (fun H locs hH => ?_)
  have hH : HP G A s.heap (LW G γ γh g8 V7 Vr Vg Vga Vn Va Vac VHa Vs Vsl VHs Vp Vpt Vt M) H locs := hH
  refine lv_icmp_eq (tgt := 1009) hx hb dL_law_753 (by decide) (fun _ => ?_) (fun c2 => absurd e c2)
  exact kk _ _ ⟨_, _, V7, Vr, Vg, Vga, Vn, Va, Vac, VHa, Vs, Vsl, VHs, Vp, Vpt, Vt, M, (RLN_mono (Nat.le_succ T) hR), hH⟩
