theorem dL_law_758 : decode cL_law 758 = .ok (.aload_n 1, 1) := by decide +kernel
theorem dL_law_759 : decode cL_law 759 = .ok (.invokevirtual 112, 3) := by decide +kernel
theorem dL_law_762 : decode cL_law 762 = .ok (.aload_n 2, 1) := by decide +kernel
theorem dL_law_763 : decode cL_law 763 = .ok (.invokevirtual 115, 3) := by decide +kernel
theorem dL_law_766 : decode cL_law 766 = .ok (.if_icmp .eq 243, 3) := by decide +kernel
theorem dL_law_771 : decode cL_law 771 = .ok (.aload_n 1, 1) := by decide +kernel
theorem dL_law_772 : decode cL_law 772 = .ok (.aload_n 0, 1) := by decide +kernel
theorem dL_law_773 : decode cL_law 773 = .ok (.iload_n 3, 1) := by decide +kernel
theorem dL_law_774 : decode cL_law 774 = .ok (.iconst 1, 1) := by decide +kernel
theorem dL_law_775 : decode cL_law 775 = .ok (.iadd, 1) := by decide +kernel
theorem dL_law_776 : decode cL_law 776 = .ok (.iaload, 1) := by decide +kernel
theorem dL_law_777 : decode cL_law 777 = .ok (.aload_n 0, 1) := by decide +kernel
theorem dL_law_778 : decode cL_law 778 = .ok (.iload_n 3, 1) := by decide +kernel
theorem dL_law_779 : decode cL_law 779 = .ok (.iconst 2, 1) := by decide +kernel
theorem dL_law_780 : decode cL_law 780 = .ok (.iadd, 1) := by decide +kernel
theorem dL_law_781 : decode cL_law 781 = .ok (.iaload, 1) := by decide +kernel
theorem dL_law_782 : decode cL_law 782 = .ok (.invokevirtual 116, 3) := by decide +kernel
theorem dL_law_785 : decode cL_law 785 = .ok (.aload_n 2, 1) := by decide +kernel
theorem dL_law_786 : decode cL_law 786 = .ok (.aload_n 0, 1) := by decide +kernel
theorem dL_law_787 : decode cL_law 787 = .ok (.iload_n 3, 1) := by decide +kernel
theorem dL_law_788 : decode cL_law 788 = .ok (.iconst 1, 1) := by decide +kernel
theorem dL_law_789 : decode cL_law 789 = .ok (.iadd, 1) := by decide +kernel
theorem dL_law_790 : decode cL_law 790 = .ok (.iaload, 1) := by decide +kernel
theorem dL_law_791 : decode cL_law 791 = .ok (.aload_n 0, 1) := by decide +kernel
theorem dL_law_792 : decode cL_law 792 = .ok (.iload_n 3, 1) := by decide +kernel
theorem dL_law_793 : decode cL_law 793 = .ok (.iconst 2, 1) := by decide +kernel
theorem dL_law_794 : decode cL_law 794 = .ok (.iadd, 1) := by decide +kernel
theorem dL_law_795 : decode cL_law 795 = .ok (.iaload, 1) := by decide +kernel
theorem dL_law_796 : decode cL_law 796 = .ok (.invokevirtual 119, 3) := by decide +kernel
theorem dL_law_799 : decode cL_law 799 = .ok (.if_icmp .eq 210, 3) := by decide +kernel
theorem dL_law_804 : decode cL_law 804 = .ok (.aload_n 1, 1) := by decide +kernel
theorem dL_law_805 : decode cL_law 805 = .ok (.aload_n 0, 1) := by decide +kernel
theorem dL_law_806 : decode cL_law 806 = .ok (.iload_n 3, 1) := by decide +kernel
theorem dL_law_807 : decode cL_law 807 = .ok (.iconst 1, 1) := by decide +kernel
theorem dL_law_808 : decode cL_law 808 = .ok (.iadd, 1) := by decide +kernel
theorem dL_law_809 : decode cL_law 809 = .ok (.iaload, 1) := by decide +kernel
theorem dL_law_810 : decode cL_law 810 = .ok (.aload_n 0, 1) := by decide +kernel
theorem dL_law_811 : decode cL_law 811 = .ok (.iload_n 3, 1) := by decide +kernel
theorem dL_law_812 : decode cL_law 812 = .ok (.iconst 2, 1) := by decide +kernel
theorem dL_law_813 : decode cL_law 813 = .ok (.iadd, 1) := by decide +kernel
theorem dL_law_814 : decode cL_law 814 = .ok (.iaload, 1) := by decide +kernel
theorem dL_law_815 : decode cL_law 815 = .ok (.aload_n 0, 1) := by decide +kernel
theorem dL_law_816 : decode cL_law 816 = .ok (.iload_n 3, 1) := by decide +kernel
theorem dL_law_817 : decode cL_law 817 = .ok (.iconst 3, 1) := by decide +kernel
theorem dL_law_818 : decode cL_law 818 = .ok (.iadd, 1) := by decide +kernel
theorem dL_law_819 : decode cL_law 819 = .ok (.iaload, 1) := by decide +kernel
theorem dL_law_820 : decode cL_law 820 = .ok (.ifCond .eq 7, 3) := by decide +kernel
theorem dL_law_823 : decode cL_law 823 = .ok (.iconst 1, 1) := by decide +kernel
theorem dL_law_824 : decode cL_law 824 = .ok (.goto 4, 3) := by decide +kernel
theorem dL_law_827 : decode cL_law 827 = .ok (.iconst 0, 1) := by decide +kernel
theorem dL_law_828 : decode cL_law 828 = .ok (.invokevirtual 120, 3) := by decide +kernel
theorem dL_law_831 : decode cL_law 831 = .ok (.aload_n 2, 1) := by decide +kernel
theorem dL_law_832 : decode cL_law 832 = .ok (.aload_n 0, 1) := by decide +kernel
theorem dL_law_833 : decode cL_law 833 = .ok (.iload_n 3, 1) := by decide +kernel
theorem dL_law_834 : decode cL_law 834 = .ok (.iconst 1, 1) := by decide +kernel
theorem dL_law_835 : decode cL_law 835 = .ok (.iadd, 1) := by decide +kernel
theorem dL_law_836 : decode cL_law 836 = .ok (.iaload, 1) := by decide +kernel
theorem dL_law_837 : decode cL_law 837 = .ok (.aload_n 0, 1) := by decide +kernel
theorem dL_law_838 : decode cL_law 838 = .ok (.iload_n 3, 1) := by decide +kernel
theorem dL_law_839 : decode cL_law 839 = .ok (.iconst 2, 1) := by decide +kernel
theorem dL_law_840 : decode cL_law 840 = .ok (.iadd, 1) := by decide +kernel
theorem dL_law_841 : decode cL_law 841 = .ok (.iaload, 1) := by decide +kernel
theorem dL_law_842 : decode cL_law 842 = .ok (.aload_n 0, 1) := by decide +kernel
theorem dL_law_843 : decode cL_law 843 = .ok (.iload_n 3, 1) := by decide +kernel
theorem dL_law_844 : decode cL_law 844 = .ok (.iconst 3, 1) := by decide +kernel
theorem dL_law_845 : decode cL_law 845 = .ok (.iadd, 1) := by decide +kernel
theorem dL_law_846 : decode cL_law 846 = .ok (.iaload, 1) := by decide +kernel
theorem dL_law_847 : decode cL_law 847 = .ok (.ifCond .eq 7, 3) := by decide +kernel
theorem dL_law_850 : decode cL_law 850 = .ok (.iconst 1, 1) := by decide +kernel
theorem dL_law_851 : decode cL_law 851 = .ok (.goto 4, 3) := by decide +kernel
theorem dL_law_854 : decode cL_law 854 = .ok (.iconst 0, 1) := by decide +kernel
theorem dL_law_855 : decode cL_law 855 = .ok (.invokevirtual 124, 3) := by decide +kernel
theorem dL_law_858 : decode cL_law 858 = .ok (.if_icmp .eq 151, 3) := by decide +kernel
theorem dL_law_863 : decode cL_law 863 = .ok (.aload_n 1, 1) := by decide +kernel
theorem dL_law_864 : decode cL_law 864 = .ok (.aload_n 0, 1) := by decide +kernel
theorem dL_law_865 : decode cL_law 865 = .ok (.iload_n 3, 1) := by decide +kernel
theorem dL_law_866 : decode cL_law 866 = .ok (.iconst 1, 1) := by decide +kernel
theorem dL_law_867 : decode cL_law 867 = .ok (.iadd, 1) := by decide +kernel
theorem dL_law_868 : decode cL_law 868 = .ok (.iaload, 1) := by decide +kernel
theorem dL_law_869 : decode cL_law 869 = .ok (.i2l, 1) := by decide +kernel
theorem dL_law_870 : decode cL_law 870 = .ok (.bipush 32, 2) := by decide +kernel
theorem dL_law_872 : decode cL_law 872 = .ok (.lshl, 1) := by decide +kernel
theorem dL_law_873 : decode cL_law 873 = .ok (.aload_n 0, 1) := by decide +kernel
theorem dL_law_874 : decode cL_law 874 = .ok (.iload_n 3, 1) := by decide +kernel
theorem dL_law_875 : decode cL_law 875 = .ok (.iconst 2, 1) := by decide +kernel
theorem dL_law_876 : decode cL_law 876 = .ok (.iadd, 1) := by decide +kernel
theorem dL_law_877 : decode cL_law 877 = .ok (.iaload, 1) := by decide +kernel
theorem dL_law_878 : decode cL_law 878 = .ok (.i2l, 1) := by decide +kernel
theorem dL_law_879 : decode cL_law 879 = .ok (.ldc2_w 125, 3) := by decide +kernel
theorem dL_law_882 : decode cL_law 882 = .ok (.land, 1) := by decide +kernel
theorem dL_law_883 : decode cL_law 883 = .ok (.lor, 1) := by decide +kernel
theorem dL_law_884 : decode cL_law 884 = .ok (.invokevirtual 127, 3) := by decide +kernel
theorem dL_law_887 : decode cL_law 887 = .ok (.aload_n 2, 1) := by decide +kernel
theorem dL_law_888 : decode cL_law 888 = .ok (.aload_n 0, 1) := by decide +kernel
theorem dL_law_889 : decode cL_law 889 = .ok (.iload_n 3, 1) := by decide +kernel
theorem dL_law_890 : decode cL_law 890 = .ok (.iconst 1, 1) := by decide +kernel
theorem dL_law_891 : decode cL_law 891 = .ok (.iadd, 1) := by decide +kernel
theorem dL_law_892 : decode cL_law 892 = .ok (.iaload, 1) := by decide +kernel
theorem dL_law_893 : decode cL_law 893 = .ok (.i2l, 1) := by decide +kernel
theorem dL_law_894 : decode cL_law 894 = .ok (.bipush 32, 2) := by decide +kernel
theorem dL_law_896 : decode cL_law 896 = .ok (.lshl, 1) := by decide +kernel
theorem dL_law_897 : decode cL_law 897 = .ok (.aload_n 0, 1) := by decide +kernel
theorem dL_law_898 : decode cL_law 898 = .ok (.iload_n 3, 1) := by decide +kernel
theorem dL_law_899 : decode cL_law 899 = .ok (.iconst 2, 1) := by decide +kernel
theorem dL_law_900 : decode cL_law 900 = .ok (.iadd, 1) := by decide +kernel
theorem dL_law_901 : decode cL_law 901 = .ok (.iaload, 1) := by decide +kernel
theorem dL_law_902 : decode cL_law 902 = .ok (.i2l, 1) := by decide +kernel
theorem dL_law_903 : decode cL_law 903 = .ok (.ldc2_w 125, 3) := by decide +kernel
theorem dL_law_906 : decode cL_law 906 = .ok (.land, 1) := by decide +kernel
theorem dL_law_907 : decode cL_law 907 = .ok (.lor, 1) := by decide +kernel
theorem dL_law_908 : decode cL_law 908 = .ok (.invokevirtual 131, 3) := by decide +kernel
theorem dL_law_911 : decode cL_law 911 = .ok (.lcmp, 1) := by decide +kernel
theorem dL_law_912 : decode cL_law 912 = .ok (.ifCond .eq 97, 3) := by decide +kernel
set_option maxHeartbeats 4000000 in
set_option maxRecDepth 100000 in
theorem law_24 {p : Program} {l : Launch} {e : Env} {s : State} {m : MethodId} {below : List Frame} {meth : Method} {c : Code} {H : Heap} {locs : List Loc} {cells slots : Nat} {Q : State → Prop} {ls : Array Slot} {G : Ge} {A : Nat → Prop} {b L : Nat} {xs : Nat → Int32} {γ : Nat → Nat → Nat} {γh : Nat → Nat → Nat → Nat} {g8 : Nat → Nat} {i T : Nat} (C : LC p s m c b L xs G A) (h1 : vp_in (nI i + 1) L) (h2 : vp_in (nI i + 2) L) (h3 : vp_in (nI i + 3) L) (hT : T < 2 ^ 31) (hcs : cells ≤ room_1.cells ∧ slots ≤ room_1.slots) (hl : lv_has ls 4 [(3, .int (nI i)), (2, .ref (g8 0)), (1, .ref (γ 0 0)), (0, .ref b)]) (hI : LINV G γ γh g8 A s.heap T H locs)
    (kk : ∀ (H1 : Heap) (locs1 : List Loc), LINV G γ γh g8 A s.heap (T + 1) H1 locs1 → W p l e room_1 s m #[Value.ref b] below meth c H1 locs1 cells slots Q (F0 m 1009 ls [])) : W p l e room_1 s m #[Value.ref b] below meth c H locs cells slots Q (F0 m 758 ls []) := by
  obtain ⟨hx, hb, hml, hown, hts, hK, hN, hX, hbl, hbA, hA⟩ := C
  obtain ⟨co, wn, V7, Vr, Vg, Vga, Vn, Va, Vac, VHa, Vs, Vsl, VHs, Vp, Vpt, Vt, M, hR, hH⟩ := hI
  refine lv_aload_n hx hb dL_law_758 rfl (lv_at hl 2 rfl) ?_
  have r := r_winds hR
  obtain ⟨F7, hF7⟩ : ∃ z, z = f_X7_winds V7 Va Vn Vs := ⟨_, rfl⟩
  obtain ⟨F8, hF8⟩ : ∃ z, z = f_X8_winds M := ⟨_, rfl⟩
  rw [← hF7, ← hF8] at r
  obtain ⟨d8, e⟩ := r
  refine kb_ciC hH hA [0, 5, 4, 7] (Wc := [(w_O7 G (γ 0) (γ 1 0) (γ 4 0) (γ 5 0) (γ 6 0) (γ 7 0) (γ 8 0) (γ 9 0) (γ 11 0) V7).flatten, (w_O1 G (γ 5) Va).flatten, (w_O2 G (γ 4) Vn).flatten, (w_O5 G (γ 7) Vs).flatten]) (Wc' := [(w_O7 G (γ 0) (γ 1 0) (γ 4 0) (γ 5 0) (γ 6 0) (γ 7 0) (γ 8 0) (γ 9 0) (γ 11 0) V7).flatten, (w_O1 G (γ 5) Va).flatten, (w_O2 G (γ 4) Vn).flatten, (w_O5 G (γ 7) Vs).flatten]) (WS' := (LW G γ γh g8 V7 Vr Vg Vga Vn Va Vac VHa Vs Vsl VHs Vp Vpt Vt M)) (Wf := (w_O7 G (γ 0) (γ 1 0) (γ 4 0) (γ 5 0) (γ 6 0) (γ 7 0) (γ 8 0) (γ 9 0) (γ 11 0) V7 ++ w_O1 G (γ 5) Va ++ w_O2 G (γ 4) Vn ++ w_O5 G (γ 7) Vs)) (Wf' := (w_O7 G (γ 0) (γ 1 0) (γ 4 0) (γ 5 0) (γ 6 0) (γ 7 0) (γ 8 0) (γ 9 0) (γ 11 0) V7 ++ w_O1 G (γ 5) Va ++ w_O2 G (γ 4) Vn ++ w_O5 G (γ 7) Vs)) rfl (by decide) rfl rfl (kb_fl4 _ _ _ _) (kb_fl4 _ _ _ _) (va_runV (C := RX7) (As := []) (rest := []) ⟨hx, hb, hml, hown, hts⟩ (c_X7_winds l G (γ 0) (γ 1 0) (γ 6 0) (γ 8 0) (γ 9 0) (γ 11 0) V7 (γ 5) Va (γ 4) Vn (γ 7) Vs hF7.symm _) (cwV 0 hts hL_X7_winds rfl rfl rfl he_X7_winds ⟨Nat.le_of_ble_eq_true rfl, Nat.le_of_ble_eq_true rfl⟩) (kb_preVC (Wc := [(w_O7 G (γ 0) (γ 1 0) (γ 4 0) (γ 5 0) (γ 6 0) (γ 7 0) (γ 8 0) (γ 9 0) (γ 11 0) V7).flatten, (w_O1 G (γ 5) Va).flatten, (w_O2 G (γ 4) Vn).flatten, (w_O5 G (γ 7) Vs).flatten]) hH hK hN [0, 5, 4, 7] rfl (by decide) (kb_fl4 _ _ _ _) 0 rfl rfl rfl rfl) rfl rfl hl.1 rfl (lv_room (Nat.le_of_ble_eq_true rfl)) dL_law_759 ⟨hcs.1, hcs.2⟩) (fun H locs hH => ?_)
  have hH : HP G A s.heap (LW G γ γh g8 V7 Vr Vg Vga Vn Va Vac VHa Vs Vsl VHs Vp Vpt Vt M) H locs := hH
  refine lv_aload_n hx hb dL_law_762 rfl (lv_at hl 1 rfl) ?_
  refine kb_ciC hH hA [12] (Wc := [(w_O8 G g8 M).flatten]) (Wc' := [(w_O8 G g8 M).flatten]) (WS' := (LW G γ γh g8 V7 Vr Vg Vga Vn Va Vac VHa Vs Vsl VHs Vp Vpt Vt M)) (Wf := (w_O8 G g8 M)) (Wf' := (w_O8 G g8 M)) rfl (by decide) rfl rfl (kb_fl1 _) (kb_fl1 _) (va_runV (C := RX8) (As := []) (rest := [.int F7]) ⟨hx, hb, hml, hown, hts⟩ (c_X8_winds l G g8 M d8 hF8.symm _) (cwV 0 hts hL_X8_winds rfl rfl rfl he_X8_winds ⟨Nat.le_of_ble_eq_true rfl, Nat.le_of_ble_eq_true rfl⟩) (kb_preVC (Wc := [(w_O8 G g8 M).flatten]) hH hK hN [12] rfl (by decide) (kb_fl1 _) 12 rfl rfl rfl rfl) rfl rfl hl.1 rfl (lv_room (Nat.le_of_ble_eq_true rfl)) dL_law_763 ⟨hcs.1, hcs.2⟩) (fun H locs hH => ?_)
  have hH : HP G A s.heap (LW G γ γh g8 V7 Vr Vg Vga Vn Va Vac VHa Vs Vsl VHs Vp Vpt Vt M) H locs := hH
  refine lv_icmp_eq (tgt := 1009) hx hb dL_law_766 (by decide) (fun _ => ?_) (fun c2 => absurd e c2)
  exact kk _ _ ⟨_, _, V7, Vr, Vg, Vga, Vn, Va, Vac, VHa, Vs, Vsl, VHs, Vp, Vpt, Vt, M, (RLN_mono (Nat.le_succ T) hR), hH⟩
set_option maxHeartbeats 4000000 in
set_option maxRecDepth 100000 in
theorem law_25 {p : Program} {l : Launch} {e : Env} {s : State} {m : MethodId} {below : List Frame} {meth : Method} {c : Code} {H : Heap} {locs : List Loc} {cells slots : Nat} {Q : State → Prop} {ls : Array Slot} {G : Ge} {A : Nat → Prop} {b L : Nat} {xs : Nat → Int32} {γ : Nat → Nat → Nat} {γh : Nat → Nat → Nat → Nat} {g8 : Nat → Nat} {i T : Nat} (C : LC p s m c b L xs G A) (h1 : vp_in (nI i + 1) L) (h2 : vp_in (nI i + 2) L) (h3 : vp_in (nI i + 3) L) (hT : T < 2 ^ 31) (hcs : cells ≤ room_1.cells ∧ slots ≤ room_1.slots) (hl : lv_has ls 4 [(3, .int (nI i)), (2, .ref (g8 0)), (1, .ref (γ 0 0)), (0, .ref b)]) (hI : LINV G γ γh g8 A s.heap T H locs)
    (kk : ∀ (H1 : Heap) (locs1 : List Loc), LINV G γ γh g8 A s.heap (T + 1) H1 locs1 → W p l e room_1 s m #[Value.ref b] below meth c H1 locs1 cells slots Q (F0 m 1009 ls [])) : W p l e room_1 s m #[Value.ref b] below meth c H locs cells slots Q (F0 m 771 ls []) := by
  obtain ⟨hx, hb, hml, hown, hts, hK, hN, hX, hbl, hbA, hA⟩ := C
  obtain ⟨co, wn, V7, Vr, Vg, Vga, Vn, Va, Vac, VHa, Vs, Vsl, VHs, Vp, Vpt, Vt, M, hR, hH⟩ := hI
  refine lv_aload_n hx hb dL_law_771 rfl (lv_at hl 2 rfl) ?_
  refine lv_aload_n hx hb dL_law_772 rfl (lv_at hl 3 rfl) ?_
  refine lv_iload_n hx hb dL_law_773 rfl (lv_at hl 0 rfl) ?_
  refine lv_iconst (v := 1) hx hb dL_law_774 (by decide) ?_
  refine lv_iadd hx hb dL_law_775 ?_
  refine va_sld hx hb hX hbl hbA hH.2.2 h1 dL_law_776 ?_
  refine lv_aload_n hx hb dL_law_777 rfl (lv_at hl 3 rfl) ?_
  refine lv_iload_n hx hb dL_law_778 rfl (lv_at hl 0 rfl) ?_
  refine lv_iconst (v := 2) hx hb dL_law_779 (by decide) ?_
  refine lv_iadd hx hb dL_law_780 ?_
  refine va_sld hx hb hX hbl hbA hH.2.2 h2 dL_law_781 ?_
  have r := r_rests hR (xs (nI i + 1).toNatClampNeg) (xs (nI i + 2).toNatClampNeg)
  obtain ⟨F7, hF7⟩ : ∃ z, z = f_X7_rests V7 Va Vn (xs (nI i + 1).toNatClampNeg) (xs (nI i + 2).toNatClampNeg) := ⟨_, rfl⟩
  obtain ⟨F8, hF8⟩ : ∃ z, z = f_X8_rests M (xs (nI i + 1).toNatClampNeg) (xs (nI i + 2).toNatClampNeg) := ⟨_, rfl⟩
  rw [← hF7, ← hF8] at r
  obtain ⟨d7, d8, e⟩ := r
  refine kb_ciC hH hA [0, 5, 4] (Wc := [(w_O7 G (γ 0) (γ 1 0) (γ 4 0) (γ 5 0) (γ 6 0) (γ 7 0) (γ 8 0) (γ 9 0) (γ 11 0) V7).flatten, (w_O1 G (γ 5) Va).flatten, (w_O2 G (γ 4) Vn).flatten]) (Wc' := [(w_O7 G (γ 0) (γ 1 0) (γ 4 0) (γ 5 0) (γ 6 0) (γ 7 0) (γ 8 0) (γ 9 0) (γ 11 0) V7).flatten, (w_O1 G (γ 5) Va).flatten, (w_O2 G (γ 4) Vn).flatten]) (WS' := (LW G γ γh g8 V7 Vr Vg Vga Vn Va Vac VHa Vs Vsl VHs Vp Vpt Vt M)) (Wf := (w_O7 G (γ 0) (γ 1 0) (γ 4 0) (γ 5 0) (γ 6 0) (γ 7 0) (γ 8 0) (γ 9 0) (γ 11 0) V7 ++ w_O1 G (γ 5) Va ++ w_O2 G (γ 4) Vn)) (Wf' := (w_O7 G (γ 0) (γ 1 0) (γ 4 0) (γ 5 0) (γ 6 0) (γ 7 0) (γ 8 0) (γ 9 0) (γ 11 0) V7 ++ w_O1 G (γ 5) Va ++ w_O2 G (γ 4) Vn)) rfl (by decide) rfl rfl (kb_fl3 _ _ _) (kb_fl3 _ _ _) (va_runV (C := RX7) (As := [.int (xs (nI i + 1).toNatClampNeg), .int (xs (nI i + 2).toNatClampNeg)]) (rest := []) ⟨hx, hb, hml, hown, hts⟩ (c_X7_rests l G (γ 0) (γ 1 0) (γ 6 0) (γ 7 0) (γ 8 0) (γ 9 0) (γ 11 0) V7 (γ 5) Va (γ 4) Vn (xs (nI i + 1).toNatClampNeg) (xs (nI i + 2).toNatClampNeg) d7 hF7.symm _) (cwV 2 hts hL_X7_rests rfl rfl rfl he_X7_rests ⟨Nat.le_of_ble_eq_true rfl, Nat.le_of_ble_eq_true rfl⟩) (kb_preVC (Wc := [(w_O7 G (γ 0) (γ 1 0) (γ 4 0) (γ 5 0) (γ 6 0) (γ 7 0) (γ 8 0) (γ 9 0) (γ 11 0) V7).flatten, (w_O1 G (γ 5) Va).flatten, (w_O2 G (γ 4) Vn).flatten]) hH hK hN [0, 5, 4] rfl (by decide) (kb_fl3 _ _ _) 0 rfl rfl rfl rfl) rfl rfl hl.1 rfl (lv_room (Nat.le_of_ble_eq_true rfl)) dL_law_782 ⟨hcs.1, hcs.2⟩) (fun H locs hH => ?_)
  have hH : HP G A s.heap (LW G γ γh g8 V7 Vr Vg Vga Vn Va Vac VHa Vs Vsl VHs Vp Vpt Vt M) H locs := hH
  refine lv_aload_n hx hb dL_law_785 rfl (lv_at hl 1 rfl) ?_
  refine lv_aload_n hx hb dL_law_786 rfl (lv_at hl 3 rfl) ?_
  refine lv_iload_n hx hb dL_law_787 rfl (lv_at hl 0 rfl) ?_
  refine lv_iconst (v := 1) hx hb dL_law_788 (by decide) ?_
  refine lv_iadd hx hb dL_law_789 ?_
  refine va_sld hx hb hX hbl hbA hH.2.2 h1 dL_law_790 ?_
  refine lv_aload_n hx hb dL_law_791 rfl (lv_at hl 3 rfl) ?_
  refine lv_iload_n hx hb dL_law_792 rfl (lv_at hl 0 rfl) ?_
  refine lv_iconst (v := 2) hx hb dL_law_793 (by decide) ?_
  refine lv_iadd hx hb dL_law_794 ?_
  refine va_sld hx hb hX hbl hbA hH.2.2 h2 dL_law_795 ?_
  refine kb_ciC hH hA [12] (Wc := [(w_O8 G g8 M).flatten]) (Wc' := [(w_O8 G g8 M).flatten]) (WS' := (LW G γ γh g8 V7 Vr Vg Vga Vn Va Vac VHa Vs Vsl VHs Vp Vpt Vt M)) (Wf := (w_O8 G g8 M)) (Wf' := (w_O8 G g8 M)) rfl (by decide) rfl rfl (kb_fl1 _) (kb_fl1 _) (va_runV (C := RX8) (As := [.int (xs (nI i + 1).toNatClampNeg), .int (xs (nI i + 2).toNatClampNeg)]) (rest := [.int F7]) ⟨hx, hb, hml, hown, hts⟩ (c_X8_rests l G g8 M (xs (nI i + 1).toNatClampNeg) (xs (nI i + 2).toNatClampNeg) d8 hF8.symm _) (cwV 2 hts hL_X8_rests rfl rfl rfl he_X8_rests ⟨Nat.le_of_ble_eq_true rfl, Nat.le_of_ble_eq_true rfl⟩) (kb_preVC (Wc := [(w_O8 G g8 M).flatten]) hH hK hN [12] rfl (by decide) (kb_fl1 _) 12 rfl rfl rfl rfl) rfl rfl hl.1 rfl (lv_room (Nat.le_of_ble_eq_true rfl)) dL_law_796 ⟨hcs.1, hcs.2⟩) (fun H locs hH => ?_)
  have hH : HP G A s.heap (LW G γ γh g8 V7 Vr Vg Vga Vn Va Vac VHa Vs Vsl VHs Vp Vpt Vt M) H locs := hH
  refine lv_icmp_eq (tgt := 1009) hx hb dL_law_799 (by decide) (fun _ => ?_) (fun c2 => absurd e c2)
  exact kk _ _ ⟨_, _, V7, Vr, Vg, Vga, Vn, Va, Vac, VHa, Vs, Vsl, VHs, Vp, Vpt, Vt, M, (RLN_mono (Nat.le_succ T) hR), hH⟩
set_option maxHeartbeats 4000000 in
set_option maxRecDepth 100000 in
theorem law_26 {p : Program} {l : Launch} {e : Env} {s : State} {m : MethodId} {below : List Frame} {meth : Method} {c : Code} {H : Heap} {locs : List Loc} {cells slots : Nat} {Q : State → Prop} {ls : Array Slot} {G : Ge} {A : Nat → Prop} {b L : Nat} {xs : Nat → Int32} {γ : Nat → Nat → Nat} {γh : Nat → Nat → Nat → Nat} {g8 : Nat → Nat} {i T : Nat} (C : LC p s m c b L xs G A) (h1 : vp_in (nI i + 1) L) (h2 : vp_in (nI i + 2) L) (h3 : vp_in (nI i + 3) L) (hT : T < 2 ^ 31) (hcs : cells ≤ room_1.cells ∧ slots ≤ room_1.slots) (hl : lv_has ls 4 [(3, .int (nI i)), (2, .ref (g8 0)), (1, .ref (γ 0 0)), (0, .ref b)]) (hI : LINV G γ γh g8 A s.heap T H locs)
    (kk : ∀ (H1 : Heap) (locs1 : List Loc), LINV G γ γh g8 A s.heap (T + 1) H1 locs1 → W p l e room_1 s m #[Value.ref b] below meth c H1 locs1 cells slots Q (F0 m 1009 ls [])) : W p l e room_1 s m #[Value.ref b] below meth c H locs cells slots Q (F0 m 804 ls []) := by
  obtain ⟨hx, hb, hml, hown, hts, hK, hN, hX, hbl, hbA, hA⟩ := C
  obtain ⟨co, wn, V7, Vr, Vg, Vga, Vn, Va, Vac, VHa, Vs, Vsl, VHs, Vp, Vpt, Vt, M, hR, hH⟩ := hI
  by_cases hz : xs (nI i + 3).toNatClampNeg = 0
  · refine lv_aload_n hx hb dL_law_804 rfl (lv_at hl 2 rfl) ?_
    refine lv_aload_n hx hb dL_law_805 rfl (lv_at hl 3 rfl) ?_
    refine lv_iload_n hx hb dL_law_806 rfl (lv_at hl 0 rfl) ?_
    refine lv_iconst (v := 1) hx hb dL_law_807 (by decide) ?_
    refine lv_iadd hx hb dL_law_808 ?_
    refine va_sld hx hb hX hbl hbA hH.2.2 h1 dL_law_809 ?_
    refine lv_aload_n hx hb dL_law_810 rfl (lv_at hl 3 rfl) ?_
    refine lv_iload_n hx hb dL_law_811 rfl (lv_at hl 0 rfl) ?_
    refine lv_iconst (v := 2) hx hb dL_law_812 (by decide) ?_
    refine lv_iadd hx hb dL_law_813 ?_
    refine va_sld hx hb hX hbl hbA hH.2.2 h2 dL_law_814 ?_
    refine lv_aload_n hx hb dL_law_815 rfl (lv_at hl 3 rfl) ?_
    refine lv_iload_n hx hb dL_law_816 rfl (lv_at hl 0 rfl) ?_
    refine lv_iconst (v := 3) hx hb dL_law_817 (by decide) ?_
    refine lv_iadd hx hb dL_law_818 ?_
    refine va_sld hx hb hX hbl hbA hH.2.2 h3 dL_law_819 ?_
    refine lv_if_eq (tgt := 827) hx hb dL_law_820 (by decide) (fun _ => ?_) (fun c2 => absurd hz c2)
    refine lv_iconst (v := 0) hx hb dL_law_827 (by decide) ?_
    have r := r_frost hR (xs (nI i + 1).toNatClampNeg) (xs (nI i + 2).toNatClampNeg) ((0 : Int32))
    obtain ⟨F7, hF7⟩ : ∃ z, z = f_X7_frost V7 Va Vn (xs (nI i + 1).toNatClampNeg) (xs (nI i + 2).toNatClampNeg) ((0 : Int32)) := ⟨_, rfl⟩
    obtain ⟨F8, hF8⟩ : ∃ z, z = f_X8_frost M (xs (nI i + 1).toNatClampNeg) (xs (nI i + 2).toNatClampNeg) ((0 : Int32)) := ⟨_, rfl⟩
    rw [← hF7, ← hF8] at r
    obtain ⟨d7, d8, e⟩ := r
    refine kb_ciC hH hA [0, 5, 4] (Wc := [(w_O7 G (γ 0) (γ 1 0) (γ 4 0) (γ 5 0) (γ 6 0) (γ 7 0) (γ 8 0) (γ 9 0) (γ 11 0) V7).flatten, (w_O1 G (γ 5) Va).flatten, (w_O2 G (γ 4) Vn).flatten]) (Wc' := [(w_O7 G (γ 0) (γ 1 0) (γ 4 0) (γ 5 0) (γ 6 0) (γ 7 0) (γ 8 0) (γ 9 0) (γ 11 0) V7).flatten, (w_O1 G (γ 5) Va).flatten, (w_O2 G (γ 4) Vn).flatten]) (WS' := (LW G γ γh g8 V7 Vr Vg Vga Vn Va Vac VHa Vs Vsl VHs Vp Vpt Vt M)) (Wf := (w_O7 G (γ 0) (γ 1 0) (γ 4 0) (γ 5 0) (γ 6 0) (γ 7 0) (γ 8 0) (γ 9 0) (γ 11 0) V7 ++ w_O1 G (γ 5) Va ++ w_O2 G (γ 4) Vn)) (Wf' := (w_O7 G (γ 0) (γ 1 0) (γ 4 0) (γ 5 0) (γ 6 0) (γ 7 0) (γ 8 0) (γ 9 0) (γ 11 0) V7 ++ w_O1 G (γ 5) Va ++ w_O2 G (γ 4) Vn)) rfl (by decide) rfl rfl (kb_fl3 _ _ _) (kb_fl3 _ _ _) (va_runV (C := RX7) (As := [.int (xs (nI i + 1).toNatClampNeg), .int (xs (nI i + 2).toNatClampNeg), .int ((0 : Int32))]) (rest := []) ⟨hx, hb, hml, hown, hts⟩ (c_X7_frost l G (γ 0) (γ 1 0) (γ 6 0) (γ 7 0) (γ 8 0) (γ 9 0) (γ 11 0) V7 (γ 5) Va (γ 4) Vn (xs (nI i + 1).toNatClampNeg) (xs (nI i + 2).toNatClampNeg) ((0 : Int32)) d7 hF7.symm _) (cwV 3 hts hL_X7_frost rfl rfl rfl he_X7_frost ⟨Nat.le_of_ble_eq_true rfl, Nat.le_of_ble_eq_true rfl⟩) (kb_preVC (Wc := [(w_O7 G (γ 0) (γ 1 0) (γ 4 0) (γ 5 0) (γ 6 0) (γ 7 0) (γ 8 0) (γ 9 0) (γ 11 0) V7).flatten, (w_O1 G (γ 5) Va).flatten, (w_O2 G (γ 4) Vn).flatten]) hH hK hN [0, 5, 4] rfl (by decide) (kb_fl3 _ _ _) 0 rfl rfl rfl rfl) rfl rfl hl.1 rfl (lv_room (Nat.le_of_ble_eq_true rfl)) dL_law_828 ⟨hcs.1, hcs.2⟩) (fun H locs hH => ?_)
    have hH : HP G A s.heap (LW G γ γh g8 V7 Vr Vg Vga Vn Va Vac VHa Vs Vsl VHs Vp Vpt Vt M) H locs := hH
    refine lv_aload_n hx hb dL_law_831 rfl (lv_at hl 1 rfl) ?_
    refine lv_aload_n hx hb dL_law_832 rfl (lv_at hl 3 rfl) ?_
    refine lv_iload_n hx hb dL_law_833 rfl (lv_at hl 0 rfl) ?_
    refine lv_iconst (v := 1) hx hb dL_law_834 (by decide) ?_
    refine lv_iadd hx hb dL_law_835 ?_
    refine va_sld hx hb hX hbl hbA hH.2.2 h1 dL_law_836 ?_
    refine lv_aload_n hx hb dL_law_837 rfl (lv_at hl 3 rfl) ?_
    refine lv_iload_n hx hb dL_law_838 rfl (lv_at hl 0 rfl) ?_
    refine lv_iconst (v := 2) hx hb dL_law_839 (by decide) ?_
    refine lv_iadd hx hb dL_law_840 ?_
    refine va_sld hx hb hX hbl hbA hH.2.2 h2 dL_law_841 ?_
    refine lv_aload_n hx hb dL_law_842 rfl (lv_at hl 3 rfl) ?_
    refine lv_iload_n hx hb dL_law_843 rfl (lv_at hl 0 rfl) ?_
    refine lv_iconst (v := 3) hx hb dL_law_844 (by decide) ?_
    refine lv_iadd hx hb dL_law_845 ?_
    refine va_sld hx hb hX hbl hbA hH.2.2 h3 dL_law_846 ?_
    refine lv_if_eq (tgt := 854) hx hb dL_law_847 (by decide) (fun _ => ?_) (fun c2 => absurd hz c2)
    refine lv_iconst (v := 0) hx hb dL_law_854 (by decide) ?_
    refine kb_ciC hH hA [12] (Wc := [(w_O8 G g8 M).flatten]) (Wc' := [(w_O8 G g8 M).flatten]) (WS' := (LW G γ γh g8 V7 Vr Vg Vga Vn Va Vac VHa Vs Vsl VHs Vp Vpt Vt M)) (Wf := (w_O8 G g8 M)) (Wf' := (w_O8 G g8 M)) rfl (by decide) rfl rfl (kb_fl1 _) (kb_fl1 _) (va_runV (C := RX8) (As := [.int (xs (nI i + 1).toNatClampNeg), .int (xs (nI i + 2).toNatClampNeg), .int ((0 : Int32))]) (rest := [.int F7]) ⟨hx, hb, hml, hown, hts⟩ (c_X8_frost l G g8 M (xs (nI i + 1).toNatClampNeg) (xs (nI i + 2).toNatClampNeg) ((0 : Int32)) d8 hF8.symm _) (cwV 3 hts hL_X8_frost rfl rfl rfl he_X8_frost ⟨Nat.le_of_ble_eq_true rfl, Nat.le_of_ble_eq_true rfl⟩) (kb_preVC (Wc := [(w_O8 G g8 M).flatten]) hH hK hN [12] rfl (by decide) (kb_fl1 _) 12 rfl rfl rfl rfl) rfl rfl hl.1 rfl (lv_room (Nat.le_of_ble_eq_true rfl)) dL_law_855 ⟨hcs.1, hcs.2⟩) (fun H locs hH => ?_)
    have hH : HP G A s.heap (LW G γ γh g8 V7 Vr Vg Vga Vn Va Vac VHa Vs Vsl VHs Vp Vpt Vt M) H locs := hH
    refine lv_icmp_eq (tgt := 1009) hx hb dL_law_858 (by decide) (fun _ => ?_) (fun c2 => absurd e c2)
    exact kk _ _ ⟨_, _, V7, Vr, Vg, Vga, Vn, Va, Vac, VHa, Vs, Vsl, VHs, Vp, Vpt, Vt, M, (RLN_mono (Nat.le_succ T) hR), hH⟩
  · refine lv_aload_n hx hb dL_law_804 rfl (lv_at hl 2 rfl) ?_
    refine lv_aload_n hx hb dL_law_805 rfl (lv_at hl 3 rfl) ?_
    refine lv_iload_n hx hb dL_law_806 rfl (lv_at hl 0 rfl) ?_
    refine lv_iconst (v := 1) hx hb dL_law_807 (by decide) ?_
    refine lv_iadd hx hb dL_law_808 ?_
    refine va_sld hx hb hX hbl hbA hH.2.2 h1 dL_law_809 ?_
    refine lv_aload_n hx hb dL_law_810 rfl (lv_at hl 3 rfl) ?_
    refine lv_iload_n hx hb dL_law_811 rfl (lv_at hl 0 rfl) ?_
    refine lv_iconst (v := 2) hx hb dL_law_812 (by decide) ?_
    refine lv_iadd hx hb dL_law_813 ?_
    refine va_sld hx hb hX hbl hbA hH.2.2 h2 dL_law_814 ?_
    refine lv_aload_n hx hb dL_law_815 rfl (lv_at hl 3 rfl) ?_
    refine lv_iload_n hx hb dL_law_816 rfl (lv_at hl 0 rfl) ?_
    refine lv_iconst (v := 3) hx hb dL_law_817 (by decide) ?_
    refine lv_iadd hx hb dL_law_818 ?_
    refine va_sld hx hb hX hbl hbA hH.2.2 h3 dL_law_819 ?_
    refine lv_if_eq (tgt := 827) hx hb dL_law_820 (by decide) (fun c2 => absurd c2 hz) (fun _ => ?_)
    refine lv_iconst (v := 1) hx hb dL_law_823 (by decide) ?_
    refine lv_goto (tgt := 828) hx hb dL_law_824 (by decide) ?_
    have r := r_frost hR (xs (nI i + 1).toNatClampNeg) (xs (nI i + 2).toNatClampNeg) ((1 : Int32))
    obtain ⟨F7, hF7⟩ : ∃ z, z = f_X7_frost V7 Va Vn (xs (nI i + 1).toNatClampNeg) (xs (nI i + 2).toNatClampNeg) ((1 : Int32)) := ⟨_, rfl⟩
    obtain ⟨F8, hF8⟩ : ∃ z, z = f_X8_frost M (xs (nI i + 1).toNatClampNeg) (xs (nI i + 2).toNatClampNeg) ((1 : Int32)) := ⟨_, rfl⟩
    rw [← hF7, ← hF8] at r
    obtain ⟨d7, d8, e⟩ := r
    refine kb_ciC hH hA [0, 5, 4] (Wc := [(w_O7 G (γ 0) (γ 1 0) (γ 4 0) (γ 5 0) (γ 6 0) (γ 7 0) (γ 8 0) (γ 9 0) (γ 11 0) V7).flatten, (w_O1 G (γ 5) Va).flatten, (w_O2 G (γ 4) Vn).flatten]) (Wc' := [(w_O7 G (γ 0) (γ 1 0) (γ 4 0) (γ 5 0) (γ 6 0) (γ 7 0) (γ 8 0) (γ 9 0) (γ 11 0) V7).flatten, (w_O1 G (γ 5) Va).flatten, (w_O2 G (γ 4) Vn).flatten]) (WS' := (LW G γ γh g8 V7 Vr Vg Vga Vn Va Vac VHa Vs Vsl VHs Vp Vpt Vt M)) (Wf := (w_O7 G (γ 0) (γ 1 0) (γ 4 0) (γ 5 0) (γ 6 0) (γ 7 0) (γ 8 0) (γ 9 0) (γ 11 0) V7 ++ w_O1 G (γ 5) Va ++ w_O2 G (γ 4) Vn)) (Wf' := (w_O7 G (γ 0) (γ 1 0) (γ 4 0) (γ 5 0) (γ 6 0) (γ 7 0) (γ 8 0) (γ 9 0) (γ 11 0) V7 ++ w_O1 G (γ 5) Va ++ w_O2 G (γ 4) Vn)) rfl (by decide) rfl rfl (kb_fl3 _ _ _) (kb_fl3 _ _ _) (va_runV (C := RX7) (As := [.int (xs (nI i + 1).toNatClampNeg), .int (xs (nI i + 2).toNatClampNeg), .int ((1 : Int32))]) (rest := []) ⟨hx, hb, hml, hown, hts⟩ (c_X7_frost l G (γ 0) (γ 1 0) (γ 6 0) (γ 7 0) (γ 8 0) (γ 9 0) (γ 11 0) V7 (γ 5) Va (γ 4) Vn (xs (nI i + 1).toNatClampNeg) (xs (nI i + 2).toNatClampNeg) ((1 : Int32)) d7 hF7.symm _) (cwV 3 hts hL_X7_frost rfl rfl rfl he_X7_frost ⟨Nat.le_of_ble_eq_true rfl, Nat.le_of_ble_eq_true rfl⟩) (kb_preVC (Wc := [(w_O7 G (γ 0) (γ 1 0) (γ 4 0) (γ 5 0) (γ 6 0) (γ 7 0) (γ 8 0) (γ 9 0) (γ 11 0) V7).flatten, (w_O1 G (γ 5) Va).flatten, (w_O2 G (γ 4) Vn).flatten]) hH hK hN [0, 5, 4] rfl (by decide) (kb_fl3 _ _ _) 0 rfl rfl rfl rfl) rfl rfl hl.1 rfl (lv_room (Nat.le_of_ble_eq_true rfl)) dL_law_828 ⟨hcs.1, hcs.2⟩) (fun H locs hH => ?_)
    have hH : HP G A s.heap (LW G γ γh g8 V7 Vr Vg Vga Vn Va Vac VHa Vs Vsl VHs Vp Vpt Vt M) H locs := hH
    refine lv_aload_n hx hb dL_law_831 rfl (lv_at hl 1 rfl) ?_
    refine lv_aload_n hx hb dL_law_832 rfl (lv_at hl 3 rfl) ?_
    refine lv_iload_n hx hb dL_law_833 rfl (lv_at hl 0 rfl) ?_
    refine lv_iconst (v := 1) hx hb dL_law_834 (by decide) ?_
    refine lv_iadd hx hb dL_law_835 ?_
    refine va_sld hx hb hX hbl hbA hH.2.2 h1 dL_law_836 ?_
    refine lv_aload_n hx hb dL_law_837 rfl (lv_at hl 3 rfl) ?_
    refine lv_iload_n hx hb dL_law_838 rfl (lv_at hl 0 rfl) ?_
    refine lv_iconst (v := 2) hx hb dL_law_839 (by decide) ?_
    refine lv_iadd hx hb dL_law_840 ?_
    refine va_sld hx hb hX hbl hbA hH.2.2 h2 dL_law_841 ?_
    refine lv_aload_n hx hb dL_law_842 rfl (lv_at hl 3 rfl) ?_
    refine lv_iload_n hx hb dL_law_843 rfl (lv_at hl 0 rfl) ?_
    refine lv_iconst (v := 3) hx hb dL_law_844 (by decide) ?_
    refine lv_iadd hx hb dL_law_845 ?_
    refine va_sld hx hb hX hbl hbA hH.2.2 h3 dL_law_846 ?_
    refine lv_if_eq (tgt := 854) hx hb dL_law_847 (by decide) (fun c2 => absurd c2 hz) (fun _ => ?_)
    refine lv_iconst (v := 1) hx hb dL_law_850 (by decide) ?_
    refine lv_goto (tgt := 855) hx hb dL_law_851 (by decide) ?_
    refine kb_ciC hH hA [12] (Wc := [(w_O8 G g8 M).flatten]) (Wc' := [(w_O8 G g8 M).flatten]) (WS' := (LW G γ γh g8 V7 Vr Vg Vga Vn Va Vac VHa Vs Vsl VHs Vp Vpt Vt M)) (Wf := (w_O8 G g8 M)) (Wf' := (w_O8 G g8 M)) rfl (by decide) rfl rfl (kb_fl1 _) (kb_fl1 _) (va_runV (C := RX8) (As := [.int (xs (nI i + 1).toNatClampNeg), .int (xs (nI i + 2).toNatClampNeg), .int ((1 : Int32))]) (rest := [.int F7]) ⟨hx, hb, hml, hown, hts⟩ (c_X8_frost l G g8 M (xs (nI i + 1).toNatClampNeg) (xs (nI i + 2).toNatClampNeg) ((1 : Int32)) d8 hF8.symm _) (cwV 3 hts hL_X8_frost rfl rfl rfl he_X8_frost ⟨Nat.le_of_ble_eq_true rfl, Nat.le_of_ble_eq_true rfl⟩) (kb_preVC (Wc := [(w_O8 G g8 M).flatten]) hH hK hN [12] rfl (by decide) (kb_fl1 _) 12 rfl rfl rfl rfl) rfl rfl hl.1 rfl (lv_room (Nat.le_of_ble_eq_true rfl)) dL_law_855 ⟨hcs.1, hcs.2⟩) (fun H locs hH => ?_)
    have hH : HP G A s.heap (LW G γ γh g8 V7 Vr Vg Vga Vn Va Vac VHa Vs Vsl VHs Vp Vpt Vt M) H locs := hH
    refine lv_icmp_eq (tgt := 1009) hx hb dL_law_858 (by decide) (fun _ => ?_) (fun c2 => absurd e c2)
    exact kk _ _ ⟨_, _, V7, Vr, Vg, Vga, Vn, Va, Vac, VHa, Vs, Vsl, VHs, Vp, Vpt, Vt, M, (RLN_mono (Nat.le_succ T) hR), hH⟩
set_option maxHeartbeats 4000000 in
set_option maxRecDepth 100000 in
theorem law_27 {p : Program} {l : Launch} {e : Env} {s : State} {m : MethodId} {below : List Frame} {meth : Method} {c : Code} {H : Heap} {locs : List Loc} {cells slots : Nat} {Q : State → Prop} {ls : Array Slot} {G : Ge} {A : Nat → Prop} {b L : Nat} {xs : Nat → Int32} {γ : Nat → Nat → Nat} {γh : Nat → Nat → Nat → Nat} {g8 : Nat → Nat} {i T : Nat} (C : LC p s m c b L xs G A) (h1 : vp_in (nI i + 1) L) (h2 : vp_in (nI i + 2) L) (h3 : vp_in (nI i + 3) L) (hT : T < 2 ^ 31) (hcs : cells ≤ room_1.cells ∧ slots ≤ room_1.slots) (hl : lv_has ls 4 [(3, .int (nI i)), (2, .ref (g8 0)), (1, .ref (γ 0 0)), (0, .ref b)]) (hI : LINV G γ γh g8 A s.heap T H locs)
    (kk : ∀ (H1 : Heap) (locs1 : List Loc), LINV G γ γh g8 A s.heap (T + 1) H1 locs1 → W p l e room_1 s m #[Value.ref b] below meth c H1 locs1 cells slots Q (F0 m 1009 ls [])) : W p l e room_1 s m #[Value.ref b] below meth c H locs cells slots Q (F0 m 863 ls []) := by
  obtain ⟨hx, hb, hml, hown, hts, hK, hN, hX, hbl, hbA, hA⟩ := C
  obtain ⟨co, wn, V7, Vr, Vg, Vga, Vn, Va, Vac, VHa, Vs, Vsl, VHs, Vp, Vpt, Vt, M, hR, hH⟩ := hI
  refine lv_aload_n hx hb dL_law_863 rfl (lv_at hl 2 rfl) ?_
  refine lv_aload_n hx hb dL_law_864 rfl (lv_at hl 3 rfl) ?_
  refine lv_iload_n hx hb dL_law_865 rfl (lv_at hl 0 rfl) ?_
  refine lv_iconst (v := 1) hx hb dL_law_866 (by decide) ?_
  refine lv_iadd hx hb dL_law_867 ?_
  refine va_sld hx hb hX hbl hbA hH.2.2 h1 dL_law_868 ?_
  refine lv_i2l (v := (xs (nI i + 1).toNatClampNeg).toInt64) hx hb dL_law_869 rfl ?_
  refine lv_bipush (v := 32) hx hb dL_law_870 (by decide) ?_
  refine lv_lshl (v := ((xs (nI i + 1).toNatClampNeg).toInt64 <<< ((32 : Int32).toInt64 &&& 63))) hx hb dL_law_872 rfl ?_
  refine lv_aload_n hx hb dL_law_873 rfl (lv_at hl 3 rfl) ?_
  refine lv_iload_n hx hb dL_law_874 rfl (lv_at hl 0 rfl) ?_
  refine lv_iconst (v := 2) hx hb dL_law_875 (by decide) ?_
  refine lv_iadd hx hb dL_law_876 ?_
  refine va_sld hx hb hX hbl hbA hH.2.2 h2 dL_law_877 ?_
  refine lv_i2l (v := (xs (nI i + 2).toNatClampNeg).toInt64) hx hb dL_law_878 rfl ?_
  refine lv_ldc2 (v := 4294967295) hx hb hown (hts (.constantLong RL 125 (4294967295)) (List.mem_of_getElem? (i := 1006) (by decide +kernel))) dL_law_879 ?_
  refine lv_land hx hb dL_law_882 ?_
  refine lv_lor hx hb dL_law_883 ?_
  have r := r_seed hR ((((xs (nI i + 1).toNatClampNeg).toInt64 <<< ((32 : Int32).toInt64 &&& 63)) ||| ((xs (nI i + 2).toNatClampNeg).toInt64 &&& (4294967295 : Int64))))
  obtain ⟨F7, hF7⟩ : ∃ z, z = f_X7_seed V7 ((((xs (nI i + 1).toNatClampNeg).toInt64 <<< ((32 : Int32).toInt64 &&& 63)) ||| ((xs (nI i + 2).toNatClampNeg).toInt64 &&& (4294967295 : Int64)))) := ⟨_, rfl⟩
  obtain ⟨F8, hF8⟩ : ∃ z, z = f_X8_seed M ((((xs (nI i + 1).toNatClampNeg).toInt64 <<< ((32 : Int32).toInt64 &&& 63)) ||| ((xs (nI i + 2).toNatClampNeg).toInt64 &&& (4294967295 : Int64)))) := ⟨_, rfl⟩
  rw [← hF7, ← hF8] at r
  obtain ⟨e, hR2⟩ := r
  refine kb_cjC hH hA [0] (Wc := [(w_O7 G (γ 0) (γ 1 0) (γ 4 0) (γ 5 0) (γ 6 0) (γ 7 0) (γ 8 0) (γ 9 0) (γ 11 0) V7).flatten]) (Wc' := [(w_O7 G (γ 0) (γ 1 0) (γ 4 0) (γ 5 0) (γ 6 0) (γ 7 0) (γ 8 0) (γ 9 0) (γ 11 0) F7.2).flatten]) (WS' := (LW G γ γh g8 F7.2 Vr Vg Vga Vn Va Vac VHa Vs Vsl VHs Vp Vpt Vt M)) (Wf := (w_O7 G (γ 0) (γ 1 0) (γ 4 0) (γ 5 0) (γ 6 0) (γ 7 0) (γ 8 0) (γ 9 0) (γ 11 0) V7)) (Wf' := (w_O7 G (γ 0) (γ 1 0) (γ 4 0) (γ 5 0) (γ 6 0) (γ 7 0) (γ 8 0) (γ 9 0) (γ 11 0) F7.2)) rfl (by decide) rfl rfl (kb_fl1 _) (kb_fl1 _) (va_runV (C := RX7) (As := [.long ((((xs (nI i + 1).toNatClampNeg).toInt64 <<< ((32 : Int32).toInt64 &&& 63)) ||| ((xs (nI i + 2).toNatClampNeg).toInt64 &&& (4294967295 : Int64))))]) (rest := []) ⟨hx, hb, hml, hown, hts⟩ (c_X7_seed l G (γ 0) (γ 1 0) (γ 4 0) (γ 5 0) (γ 6 0) (γ 7 0) (γ 8 0) (γ 9 0) (γ 11 0) V7 ((((xs (nI i + 1).toNatClampNeg).toInt64 <<< ((32 : Int32).toInt64 &&& 63)) ||| ((xs (nI i + 2).toNatClampNeg).toInt64 &&& (4294967295 : Int64)))) hF7.symm _) (cwV 1 hts hL_X7_seed rfl rfl rfl he_X7_seed ⟨Nat.le_of_ble_eq_true rfl, Nat.le_of_ble_eq_true rfl⟩) (kb_preVC (Wc := [(w_O7 G (γ 0) (γ 1 0) (γ 4 0) (γ 5 0) (γ 6 0) (γ 7 0) (γ 8 0) (γ 9 0) (γ 11 0) V7).flatten]) hH hK hN [0] rfl (by decide) (kb_fl1 _) 0 rfl rfl rfl rfl) rfl rfl hl.1 rfl (lv_room (Nat.le_of_ble_eq_true rfl)) dL_law_884 ⟨hcs.1, hcs.2⟩) (fun H locs hH => ?_)
  have hH : HP G A s.heap (LW G γ γh g8 F7.2 Vr Vg Vga Vn Va Vac VHa Vs Vsl VHs Vp Vpt Vt M) H locs := hH
  refine lv_aload_n hx hb dL_law_887 rfl (lv_at hl 1 rfl) ?_
  refine lv_aload_n hx hb dL_law_888 rfl (lv_at hl 3 rfl) ?_
  refine lv_iload_n hx hb dL_law_889 rfl (lv_at hl 0 rfl) ?_
  refine lv_iconst (v := 1) hx hb dL_law_890 (by decide) ?_
  refine lv_iadd hx hb dL_law_891 ?_
  refine va_sld hx hb hX hbl hbA hH.2.2 h1 dL_law_892 ?_
  refine lv_i2l (v := (xs (nI i + 1).toNatClampNeg).toInt64) hx hb dL_law_893 rfl ?_
  refine lv_bipush (v := 32) hx hb dL_law_894 (by decide) ?_
  refine lv_lshl (v := ((xs (nI i + 1).toNatClampNeg).toInt64 <<< ((32 : Int32).toInt64 &&& 63))) hx hb dL_law_896 rfl ?_
  refine lv_aload_n hx hb dL_law_897 rfl (lv_at hl 3 rfl) ?_
  refine lv_iload_n hx hb dL_law_898 rfl (lv_at hl 0 rfl) ?_
  refine lv_iconst (v := 2) hx hb dL_law_899 (by decide) ?_
  refine lv_iadd hx hb dL_law_900 ?_
  refine va_sld hx hb hX hbl hbA hH.2.2 h2 dL_law_901 ?_
  refine lv_i2l (v := (xs (nI i + 2).toNatClampNeg).toInt64) hx hb dL_law_902 rfl ?_
  refine lv_ldc2 (v := 4294967295) hx hb hown (hts (.constantLong RL 125 (4294967295)) (List.mem_of_getElem? (i := 1006) (by decide +kernel))) dL_law_903 ?_
  refine lv_land hx hb dL_law_906 ?_
  refine lv_lor hx hb dL_law_907 ?_
  refine kb_cjC hH hA [12] (Wc := [(w_O8 G g8 M).flatten]) (Wc' := [(w_O8 G g8 F8.2).flatten]) (WS' := (LW G γ γh g8 F7.2 Vr Vg Vga Vn Va Vac VHa Vs Vsl VHs Vp Vpt Vt F8.2)) (Wf := (w_O8 G g8 M)) (Wf' := (w_O8 G g8 F8.2)) rfl (by decide) rfl rfl (kb_fl1 _) (kb_fl1 _) (va_runV (C := RX8) (As := [.long ((((xs (nI i + 1).toNatClampNeg).toInt64 <<< ((32 : Int32).toInt64 &&& 63)) ||| ((xs (nI i + 2).toNatClampNeg).toInt64 &&& (4294967295 : Int64))))]) (rest := [.long F7.1]) ⟨hx, hb, hml, hown, hts⟩ (c_X8_seed l G g8 M ((((xs (nI i + 1).toNatClampNeg).toInt64 <<< ((32 : Int32).toInt64 &&& 63)) ||| ((xs (nI i + 2).toNatClampNeg).toInt64 &&& (4294967295 : Int64)))) hF8.symm _) (cwV 1 hts hL_X8_seed rfl rfl rfl he_X8_seed ⟨Nat.le_of_ble_eq_true rfl, Nat.le_of_ble_eq_true rfl⟩) (kb_preVC (Wc := [(w_O8 G g8 M).flatten]) hH hK hN [12] rfl (by decide) (kb_fl1 _) 12 rfl rfl rfl rfl) rfl rfl hl.1 rfl (lv_room (Nat.le_of_ble_eq_true rfl)) dL_law_908 ⟨hcs.1, hcs.2⟩) (fun H locs hH => ?_)
  have hH : HP G A s.heap (LW G γ γh g8 F7.2 Vr Vg Vga Vn Va Vac VHa Vs Vsl VHs Vp Vpt Vt F8.2) H locs := hH
  rw [e]
  refine W.lcmp hx hb dL_law_911 ?_
  refine lv_if_eq (tgt := 1009) hx hb dL_law_912 (by decide) (fun _ => ?_) (fun c2 => absurd (lg_self _) c2)
  exact kk _ _ ⟨_, _, F7.2, Vr, Vg, Vga, Vn, Va, Vac, VHa, Vs, Vsl, VHs, Vp, Vpt, Vt, F8.2, (RLN_mono (Nat.le_succ T) hR2), hH⟩
