theorem dL_law_738 : decode cL_law 738 = .ok (.aload_n 1, 1) := by decide +kernel
theorem dL_law_739 : decode cL_law 739 = .ok (.aload_n 0, 1) := by decide +kernel
theorem dL_law_740 : decode cL_law 740 = .ok (.iload 4, 2) := by decide +kernel
theorem dL_law_742 : decode cL_law 742 = .ok (.iconst 1, 1) := by decide +kernel
theorem dL_law_743 : decode cL_law 743 = .ok (.iadd, 1) := by decide +kernel
theorem dL_law_744 : decode cL_law 744 = .ok (.iaload, 1) := by decide +kernel
theorem dL_law_745 : decode cL_law 745 = .ok (.invokevirtual 144, 3) := by decide +kernel
theorem dL_law_748 : decode cL_law 748 = .ok (.aload_n 2, 1) := by decide +kernel
theorem dL_law_749 : decode cL_law 749 = .ok (.aload_n 0, 1) := by decide +kernel
theorem dL_law_750 : decode cL_law 750 = .ok (.iload 4, 2) := by decide +kernel
theorem dL_law_752 : decode cL_law 752 = .ok (.iconst 1, 1) := by decide +kernel
theorem dL_law_753 : decode cL_law 753 = .ok (.iadd, 1) := by decide +kernel
theorem dL_law_754 : decode cL_law 754 = .ok (.iaload, 1) := by decide +kernel
theorem dL_law_755 : decode cL_law 755 = .ok (.invokevirtual 147, 3) := by decide +kernel
theorem dL_law_758 : decode cL_law 758 = .ok (.if_icmp .eq 1520, 3) := by decide +kernel
theorem dL_law_761 : decode cL_law 761 = .ok (.iconst 0, 1) := by decide +kernel
theorem dL_law_762 : decode cL_law 762 = .ok (.ireturn, 1) := by decide +kernel
theorem kL_144 : CV RL 144 RX9 yX9_hours cX9_hours 2 (some .int) 1 := ⟨wsV_gt wd396 wd397 wd398 wd1 wd399, by decide +kernel⟩
theorem kL_147 : CV RL 147 RX10 yX10_hours cX10_hours 2 (some .int) 1 := ⟨wsV_gt wd1601 wd1602 wd1603 wd11 wd1604, by decide +kernel⟩
theorem dL_law_763 : decode cL_law 763 = .ok (.aload_n 1, 1) := by decide +kernel
theorem dL_law_764 : decode cL_law 764 = .ok (.aload_n 0, 1) := by decide +kernel
theorem dL_law_765 : decode cL_law 765 = .ok (.iload 4, 2) := by decide +kernel
theorem dL_law_767 : decode cL_law 767 = .ok (.iconst 1, 1) := by decide +kernel
theorem dL_law_768 : decode cL_law 768 = .ok (.iadd, 1) := by decide +kernel
theorem dL_law_769 : decode cL_law 769 = .ok (.iaload, 1) := by decide +kernel
theorem dL_law_770 : decode cL_law 770 = .ok (.aload_n 0, 1) := by decide +kernel
theorem dL_law_771 : decode cL_law 771 = .ok (.iload 4, 2) := by decide +kernel
theorem dL_law_773 : decode cL_law 773 = .ok (.iconst 2, 1) := by decide +kernel
theorem dL_law_774 : decode cL_law 774 = .ok (.iadd, 1) := by decide +kernel
theorem dL_law_775 : decode cL_law 775 = .ok (.iaload, 1) := by decide +kernel
theorem dL_law_776 : decode cL_law 776 = .ok (.aload_n 3, 1) := by decide +kernel
theorem dL_law_777 : decode cL_law 777 = .ok (.invokestatic 148, 3) := by decide +kernel
theorem dL_law_780 : decode cL_law 780 = .ok (.istore 5, 2) := by decide +kernel
theorem dL_law_782 : decode cL_law 782 = .ok (.aload_n 2, 1) := by decide +kernel
theorem dL_law_783 : decode cL_law 783 = .ok (.aload_n 0, 1) := by decide +kernel
theorem dL_law_784 : decode cL_law 784 = .ok (.iload 4, 2) := by decide +kernel
theorem dL_law_786 : decode cL_law 786 = .ok (.iconst 1, 1) := by decide +kernel
theorem dL_law_787 : decode cL_law 787 = .ok (.iadd, 1) := by decide +kernel
theorem dL_law_788 : decode cL_law 788 = .ok (.iaload, 1) := by decide +kernel
theorem dL_law_789 : decode cL_law 789 = .ok (.aload_n 0, 1) := by decide +kernel
theorem dL_law_790 : decode cL_law 790 = .ok (.iload 4, 2) := by decide +kernel
theorem dL_law_792 : decode cL_law 792 = .ok (.iconst 2, 1) := by decide +kernel
theorem dL_law_793 : decode cL_law 793 = .ok (.iadd, 1) := by decide +kernel
theorem dL_law_794 : decode cL_law 794 = .ok (.iaload, 1) := by decide +kernel
theorem dL_law_795 : decode cL_law 795 = .ok (.invokevirtual 150, 3) := by decide +kernel
theorem dL_law_798 : decode cL_law 798 = .ok (.istore 6, 2) := by decide +kernel
theorem dL_law_800 : decode cL_law 800 = .ok (.aload_n 2, 1) := by decide +kernel
theorem dL_law_801 : decode cL_law 801 = .ok (.invokevirtual 117, 3) := by decide +kernel
theorem dL_law_804 : decode cL_law 804 = .ok (.iload 5, 2) := by decide +kernel
theorem dL_law_806 : decode cL_law 806 = .ok (.if_icmp .eq 5, 3) := by decide +kernel
theorem dL_law_809 : decode cL_law 809 = .ok (.iconst 0, 1) := by decide +kernel
theorem dL_law_810 : decode cL_law 810 = .ok (.ireturn, 1) := by decide +kernel
theorem dL_law_811 : decode cL_law 811 = .ok (.iload 5, 2) := by decide +kernel
theorem dL_law_813 : decode cL_law 813 = .ok (.ifCond .ne 22, 3) := by decide +kernel
theorem dL_law_816 : decode cL_law 816 = .ok (.aload_n 3, 1) := by decide +kernel
theorem dL_law_817 : decode cL_law 817 = .ok (.iconst 0, 1) := by decide +kernel
theorem dL_law_818 : decode cL_law 818 = .ok (.laload, 1) := by decide +kernel
theorem dL_law_819 : decode cL_law 819 = .ok (.iload 6, 2) := by decide +kernel
theorem dL_law_821 : decode cL_law 821 = .ok (.ifCond .eq 7, 3) := by decide +kernel
theorem dL_law_824 : decode cL_law 824 = .ok (.lconst 1, 1) := by decide +kernel
theorem dL_law_825 : decode cL_law 825 = .ok (.goto 4, 3) := by decide +kernel
theorem dL_law_828 : decode cL_law 828 = .ok (.lconst 0, 1) := by decide +kernel
theorem dL_law_829 : decode cL_law 829 = .ok (.lcmp, 1) := by decide +kernel
theorem dL_law_830 : decode cL_law 830 = .ok (.ifCond .eq 5, 3) := by decide +kernel
theorem dL_law_833 : decode cL_law 833 = .ok (.iconst 0, 1) := by decide +kernel
theorem dL_law_834 : decode cL_law 834 = .ok (.ireturn, 1) := by decide +kernel
theorem dL_law_835 : decode cL_law 835 = .ok (.goto 1443, 3) := by decide +kernel
theorem kH_148 : CH RL 148 yL_teach cL_teach 5 (some .int) [(0, 17, 20, 18)] 4 := ⟨wsH_gt wd896 wd897 wd0 wd898, by decide +kernel⟩
theorem kL_150 : CV RL 150 RX10 yX10_teach cX10_teach 3 (some .boolean) 2 := ⟨wsV_gt wd1642 wd1643 wd1644 wd11 wd1645, by decide +kernel⟩
theorem dL_law_838 : decode cL_law 838 = .ok (.aload_n 1, 1) := by decide +kernel
theorem dL_law_839 : decode cL_law 839 = .ok (.aload_n 0, 1) := by decide +kernel
theorem dL_law_840 : decode cL_law 840 = .ok (.iload 4, 2) := by decide +kernel
theorem dL_law_842 : decode cL_law 842 = .ok (.iconst 1, 1) := by decide +kernel
theorem dL_law_843 : decode cL_law 843 = .ok (.iadd, 1) := by decide +kernel
theorem dL_law_844 : decode cL_law 844 = .ok (.iaload, 1) := by decide +kernel
theorem dL_law_845 : decode cL_law 845 = .ok (.aload_n 0, 1) := by decide +kernel
theorem dL_law_846 : decode cL_law 846 = .ok (.iload 4, 2) := by decide +kernel
theorem dL_law_848 : decode cL_law 848 = .ok (.iconst 2, 1) := by decide +kernel
theorem dL_law_849 : decode cL_law 849 = .ok (.iadd, 1) := by decide +kernel
theorem dL_law_850 : decode cL_law 850 = .ok (.iaload, 1) := by decide +kernel
theorem dL_law_851 : decode cL_law 851 = .ok (.aload_n 0, 1) := by decide +kernel
theorem dL_law_852 : decode cL_law 852 = .ok (.iload 4, 2) := by decide +kernel
theorem dL_law_854 : decode cL_law 854 = .ok (.iconst 3, 1) := by decide +kernel
theorem dL_law_855 : decode cL_law 855 = .ok (.iadd, 1) := by decide +kernel
theorem dL_law_856 : decode cL_law 856 = .ok (.iaload, 1) := by decide +kernel
theorem dL_law_857 : decode cL_law 857 = .ok (.aload_n 3, 1) := by decide +kernel
theorem dL_law_858 : decode cL_law 858 = .ok (.invokestatic 151, 3) := by decide +kernel
theorem dL_law_861 : decode cL_law 861 = .ok (.istore 5, 2) := by decide +kernel
theorem dL_law_863 : decode cL_law 863 = .ok (.aload_n 2, 1) := by decide +kernel
theorem dL_law_864 : decode cL_law 864 = .ok (.aload_n 0, 1) := by decide +kernel
theorem dL_law_865 : decode cL_law 865 = .ok (.iload 4, 2) := by decide +kernel
theorem dL_law_867 : decode cL_law 867 = .ok (.iconst 1, 1) := by decide +kernel
theorem dL_law_868 : decode cL_law 868 = .ok (.iadd, 1) := by decide +kernel
theorem dL_law_869 : decode cL_law 869 = .ok (.iaload, 1) := by decide +kernel
theorem dL_law_870 : decode cL_law 870 = .ok (.aload_n 0, 1) := by decide +kernel
theorem dL_law_871 : decode cL_law 871 = .ok (.iload 4, 2) := by decide +kernel
theorem dL_law_873 : decode cL_law 873 = .ok (.iconst 2, 1) := by decide +kernel
theorem dL_law_874 : decode cL_law 874 = .ok (.iadd, 1) := by decide +kernel
theorem dL_law_875 : decode cL_law 875 = .ok (.iaload, 1) := by decide +kernel
theorem dL_law_876 : decode cL_law 876 = .ok (.aload_n 0, 1) := by decide +kernel
theorem dL_law_877 : decode cL_law 877 = .ok (.iload 4, 2) := by decide +kernel
theorem dL_law_879 : decode cL_law 879 = .ok (.iconst 3, 1) := by decide +kernel
theorem dL_law_880 : decode cL_law 880 = .ok (.iadd, 1) := by decide +kernel
theorem dL_law_881 : decode cL_law 881 = .ok (.iaload, 1) := by decide +kernel
theorem dL_law_882 : decode cL_law 882 = .ok (.invokevirtual 154, 3) := by decide +kernel
theorem dL_law_885 : decode cL_law 885 = .ok (.istore 6, 2) := by decide +kernel
theorem dL_law_887 : decode cL_law 887 = .ok (.aload_n 2, 1) := by decide +kernel
theorem dL_law_888 : decode cL_law 888 = .ok (.invokevirtual 117, 3) := by decide +kernel
theorem dL_law_891 : decode cL_law 891 = .ok (.iload 5, 2) := by decide +kernel
theorem dL_law_893 : decode cL_law 893 = .ok (.if_icmp .eq 5, 3) := by decide +kernel
theorem dL_law_896 : decode cL_law 896 = .ok (.iconst 0, 1) := by decide +kernel
theorem dL_law_897 : decode cL_law 897 = .ok (.ireturn, 1) := by decide +kernel
theorem dL_law_898 : decode cL_law 898 = .ok (.iload 5, 2) := by decide +kernel
theorem dL_law_900 : decode cL_law 900 = .ok (.ifCond .ne 15, 3) := by decide +kernel
theorem dL_law_903 : decode cL_law 903 = .ok (.aload_n 3, 1) := by decide +kernel
theorem dL_law_904 : decode cL_law 904 = .ok (.iconst 0, 1) := by decide +kernel
theorem dL_law_905 : decode cL_law 905 = .ok (.laload, 1) := by decide +kernel
theorem dL_law_906 : decode cL_law 906 = .ok (.iload 6, 2) := by decide +kernel
theorem dL_law_908 : decode cL_law 908 = .ok (.i2l, 1) := by decide +kernel
theorem dL_law_909 : decode cL_law 909 = .ok (.lcmp, 1) := by decide +kernel
theorem dL_law_910 : decode cL_law 910 = .ok (.ifCond .eq 5, 3) := by decide +kernel
theorem dL_law_913 : decode cL_law 913 = .ok (.iconst 0, 1) := by decide +kernel
theorem dL_law_914 : decode cL_law 914 = .ok (.ireturn, 1) := by decide +kernel
theorem dL_law_915 : decode cL_law 915 = .ok (.goto 1363, 3) := by decide +kernel
theorem kH_151 : CH RL 151 yL_load cL_load 6 (some .int) [(0, 12, 15, 18)] 5 := ⟨wsH_gt wd903 wd904 wd0 wd905, by decide +kernel⟩
theorem kL_154 : CV RL 154 RX10 yX10_load cX10_load 4 (some .int) 3 := ⟨wsV_gt wd1654 wd1655 wd1656 wd11 wd1657, by decide +kernel⟩
section LC
variable {p : Program} {l : Launch} {e : Env} {s : State} {m : MethodId} {below : List Frame} {meth : Method} {c : Code} {G : Gt} {Q : State → Prop} {b L i : Nat} {xs : Nat → Int32} {S : St} {H : Heap} {locs : List Loc} {ls : Array Slot} {cells slots : Nat}
set_option maxHeartbeats 4000000 in
set_option maxRecDepth 20000 in
theorem lc_hours (C : Cx p s m #[.ref b] meth c cL_law 7 RL G) (hst : l.stackTraces = false) (hX : va_X b L xs s s.heap) (hbl : b < s.heap.size) (hbA : ¬ Ab G b) (hi : 6 * i + 5 < L) (hL : L ≤ 3072) (hd : Dy G S s H locs) (hR : Rel S) (hl : lv_has ls 7 [(4, .int (nI (6 * i))), (0, .ref b), (1, .ref (gR G 0)), (2, .ref (gR G 142)), (3, .ref (gR G 186))]) (hB : cells + 20 ≤ 601024 ∧ slots + 120 ≤ 7293034) (hnext : ∀ (S : St) (H : Heap) (locs : List Loc) (ls : Array Slot) (k n : Nat), k ≤ cells + 20 → n ≤ slots + 120 → Dy G S s H locs → Rel S → lv_has ls 7 [(4, .int (nI (6 * i))), (0, .ref b), (1, .ref (gR G 0)), (2, .ref (gR G 142)), (3, .ref (gR G 186))] → W p l e room_1 s m #[.ref b] below meth c H locs k n Q (F0 m 2278 ls [])) : W p l e room_1 s m #[.ref b] below meth c H locs cells slots Q (F0 m 738 ls []) := by
  have hx := C.1.1
  have hb := C.1.2.1
  obtain ⟨r, S1, S2, e1, e2, hR2⟩ := A_hours (xs (6 * i + 1)) S hR
  refine lv_aload_n hx hb dL_law_738 rfl (lv_at hl 2 rfl) ?_
  refine R_scr (k := 1) C hd hX hbl hbA (lv_at hl 1 rfl) (lv_at hl 0 rfl) hi hL (by decide) rfl dL_law_739 dL_law_740 dL_law_742 dL_law_743 dL_law_744 ?_
  refine R_cVi (rest := []) (As := [.int (xs (6 * i + 1))]) C hd (ccX9_hours l G e1) kL_144 rfl (by decide) (rfl : kd 0 = 9) hl.1 ⟨by decide, by decide⟩ rfl rfl (Nat.le_of_ble_eq_true rfl) dL_law_745 ⟨Nat.le_trans (Nat.le_add_right cells 20) hB.1, Nat.le_trans (Nat.le_add_right slots 120) hB.2⟩ (fun H locs hd => ?_)
  refine lv_aload_n hx hb dL_law_748 rfl (lv_at hl 3 rfl) ?_
  refine R_scr (k := 1) C hd hX hbl hbA (lv_at hl 1 rfl) (lv_at hl 0 rfl) hi hL (by decide) rfl dL_law_749 dL_law_750 dL_law_752 dL_law_753 dL_law_754 ?_
  refine R_cVi (rest := [.int r]) (As := [.int (xs (6 * i + 1))]) C hd (ccX10_hours l G e2) kL_147 rfl (by decide) (rfl : kd 142 = 10) hl.1 ⟨by decide, by decide⟩ rfl rfl (Nat.le_of_ble_eq_true rfl) dL_law_755 ⟨Nat.le_trans (Nat.le_add_right cells 20) hB.1, Nat.le_trans (Nat.le_add_right slots 120) hB.2⟩ (fun H locs hd => ?_)
  refine lv_icmp_eq (tgt := 2278) hx hb dL_law_758 (by decide) (fun _ => ?_) (fun q => absurd rfl q)
  exact hnext S2 H locs ls _ _ (by omega) (by omega) hd hR2 hl
set_option maxHeartbeats 4000000 in
set_option maxRecDepth 20000 in
theorem lc_teach (C : Cx p s m #[.ref b] meth c cL_law 7 RL G) (hst : l.stackTraces = false) (hX : va_X b L xs s s.heap) (hbl : b < s.heap.size) (hbA : ¬ Ab G b) (hi : 6 * i + 5 < L) (hL : L ≤ 3072) (hd : Dy G S s H locs) (hR : Rel S) (hl : lv_has ls 7 [(4, .int (nI (6 * i))), (0, .ref b), (1, .ref (gR G 0)), (2, .ref (gR G 142)), (3, .ref (gR G 186))]) (hB : cells + 20 ≤ 601024 ∧ slots + 120 ≤ 7293034) (hnext : ∀ (S : St) (H : Heap) (locs : List Loc) (ls : Array Slot) (k n : Nat), k ≤ cells + 20 → n ≤ slots + 120 → Dy G S s H locs → Rel S → lv_has ls 7 [(4, .int (nI (6 * i))), (0, .ref b), (1, .ref (gR G 0)), (2, .ref (gR G 142)), (3, .ref (gR G 186))] → W p l e room_1 s m #[.ref b] below meth c H locs k n Q (F0 m 2278 ls [])) : W p l e room_1 s m #[.ref b] below meth c H locs cells slots Q (F0 m 763 ls []) := by
  have hx := C.1.1
  have hb := C.1.2.1
  obtain ⟨k, S1, bb, S2, e1, e2, hR2, e3, e4⟩ := useC (A_teach (nX := 1) (xs (6 * i + 1)) (xs (6 * i + 2))) (some 1) none true (Or.inl rfl) (Or.inr ⟨rfl, no2 (fun _ => A_teach (xs (6 * i + 1)) (xs (6 * i + 2)))⟩) (by decide) (fun _ _ _ h => n6_fX10_teach rfl _ h) hR
  refine lv_aload_n hx hb dL_law_763 rfl (lv_at hl 2 rfl) ?_
  refine R_scr (k := 1) C hd hX hbl hbA (lv_at hl 1 rfl) (lv_at hl 0 rfl) hi hL (by decide) rfl dL_law_764 dL_law_765 dL_law_767 dL_law_768 dL_law_769 ?_
  refine R_scr (k := 2) C hd hX hbl hbA (lv_at hl 1 rfl) (lv_at hl 0 rfl) hi hL (by decide) rfl dL_law_770 dL_law_771 dL_law_773 dL_law_774 dL_law_775 ?_
  refine lv_aload_n hx hb dL_law_776 rfl (lv_at hl 4 rfl) ?_
  refine R_cHi (rest := []) (As := [.ref (gR G 0), .int (xs (6 * i + 1)), .int (xs (6 * i + 2)), .ref (gR G 186)]) C hd (ccL_teach l G hst e1) kH_148 hl.1 ⟨by decide, by decide⟩ rfl rfl (Nat.le_of_ble_eq_true rfl) dL_law_777 (lfit hB (by decide) (by decide)) (fun H locs hd => ?_)
  refine lv_istore hx hb dL_law_780 hl (by decide) rfl (fun ls hl => ?_)
  refine lv_aload_n hx hb dL_law_782 rfl (lv_at hl 4 rfl) ?_
  refine R_scr (k := 1) C hd hX hbl hbA (lv_at hl 2 rfl) (lv_at hl 1 rfl) hi hL (by decide) rfl dL_law_783 dL_law_784 dL_law_786 dL_law_787 dL_law_788 ?_
  refine R_scr (k := 2) C hd hX hbl hbA (lv_at hl 2 rfl) (lv_at hl 1 rfl) hi hL (by decide) rfl dL_law_789 dL_law_790 dL_law_792 dL_law_793 dL_law_794 ?_
  refine R_cVi (rest := []) (As := [.int (xs (6 * i + 1)), .int (xs (6 * i + 2))]) C hd (ccX10_teach l G e2) kL_150 rfl (by decide) (rfl : kd 142 = 10) hl.1 ⟨by decide, by decide⟩ rfl rfl (Nat.le_of_ble_eq_true rfl) dL_law_795 (lfit2 hB (by decide) (by decide)) (fun H locs hd => ?_)
  refine lv_istore hx hb dL_law_798 hl (by decide) rfl (fun ls hl => ?_)
  refine lv_aload_n hx hb dL_law_800 rfl (lv_at hl 5 rfl) ?_
  refine R_cVi (rest := []) (As := []) C hd (ccX10_thrown l G rfl) kL_117 rfl (by decide) (rfl : kd 142 = 10) hl.1 ⟨by decide, by decide⟩ rfl rfl (Nat.le_of_ble_eq_true rfl) dL_law_801 (lfit2 hB (by decide) (by decide)) (fun H locs hd => ?_)
  refine lv_iload hx hb dL_law_804 (lv_at hl 1 rfl) ?_
  refine lv_icmp_eq (tgt := 811) hx hb dL_law_806 (by decide) (fun _ => ?_) (fun q => absurd e3 q)
  refine lv_iload hx hb dL_law_811 (lv_at hl 1 rfl) ?_
  refine lv_if_ne (tgt := 835) hx hb dL_law_813 (by decide) (fun _ => ?_) (fun ck => ?_)
  · refine lv_goto (tgt := 2278) hx hb dL_law_835 (by decide) ?_
    exact hnext S2 H locs ls _ _ (by omega) (by omega) hd hR2 (lv_sbs hl (fun q hq => List.mem_cons_of_mem _ (List.mem_cons_of_mem _ hq)))
  · have e5 := e4 ck
    refine lv_aload_n hx hb dL_law_816 rfl (lv_at hl 6 rfl) ?_
    refine lv_iconst hx hb dL_law_817 rfl ?_
    refine R_lald C hd dL_law_818 ?_
    refine lv_iload hx hb dL_law_819 (lv_at hl 0 rfl) ?_
    refine lv_if_eq (tgt := 828) hx hb dL_law_821 (by decide) (fun cz => ?_) (fun cz => ?_)
    · refine lv_lconst (v := 0) hx hb dL_law_828 rfl ?_
      refine W.lcmp hx hb dL_law_829 ?_
      rw [show (S2 186 0).toInt64 = (0 : Int64) by rw [e5]; show (if bb = 0 then (0 : Int32) else 1).toInt64 = 0; rw [if_pos cz]; rfl, lcmp_eq]
      refine lv_if_eq (tgt := 835) hx hb dL_law_830 (by decide) (fun _ => ?_) (fun q => absurd rfl q)
      refine lv_goto (tgt := 2278) hx hb dL_law_835 (by decide) ?_
      exact hnext S2 H locs ls _ _ (by omega) (by omega) hd hR2 (lv_sbs hl (fun q hq => List.mem_cons_of_mem _ (List.mem_cons_of_mem _ hq)))
    · refine lv_lconst (v := 1) hx hb dL_law_824 rfl ?_
      refine lv_goto (tgt := 829) hx hb dL_law_825 (by decide) ?_
      refine W.lcmp hx hb dL_law_829 ?_
      rw [show (S2 186 0).toInt64 = (1 : Int64) by rw [e5]; show (if bb = 0 then (0 : Int32) else 1).toInt64 = 1; rw [if_neg cz]; rfl, lcmp_eq]
      refine lv_if_eq (tgt := 835) hx hb dL_law_830 (by decide) (fun _ => ?_) (fun q => absurd rfl q)
      refine lv_goto (tgt := 2278) hx hb dL_law_835 (by decide) ?_
      exact hnext S2 H locs ls _ _ (by omega) (by omega) hd hR2 (lv_sbs hl (fun q hq => List.mem_cons_of_mem _ (List.mem_cons_of_mem _ hq)))
set_option maxHeartbeats 4000000 in
set_option maxRecDepth 20000 in
theorem lc_load (C : Cx p s m #[.ref b] meth c cL_law 7 RL G) (hst : l.stackTraces = false) (hX : va_X b L xs s s.heap) (hbl : b < s.heap.size) (hbA : ¬ Ab G b) (hi : 6 * i + 5 < L) (hL : L ≤ 3072) (hd : Dy G S s H locs) (hR : Rel S) (hl : lv_has ls 7 [(4, .int (nI (6 * i))), (0, .ref b), (1, .ref (gR G 0)), (2, .ref (gR G 142)), (3, .ref (gR G 186))]) (hB : cells + 20 ≤ 601024 ∧ slots + 120 ≤ 7293034) (hnext : ∀ (S : St) (H : Heap) (locs : List Loc) (ls : Array Slot) (k n : Nat), k ≤ cells + 20 → n ≤ slots + 120 → Dy G S s H locs → Rel S → lv_has ls 7 [(4, .int (nI (6 * i))), (0, .ref b), (1, .ref (gR G 0)), (2, .ref (gR G 142)), (3, .ref (gR G 186))] → W p l e room_1 s m #[.ref b] below meth c H locs k n Q (F0 m 2278 ls [])) : W p l e room_1 s m #[.ref b] below meth c H locs cells slots Q (F0 m 838 ls []) := by
  have hx := C.1.1
  have hb := C.1.2.1
  obtain ⟨k, S1, bb, S2, e1, e2, hR2, e3, e4⟩ := useC (A_load (nX := 1) (xs (6 * i + 1)) (xs (6 * i + 2)) (xs (6 * i + 3))) (some 1) none false (Or.inl rfl) (Or.inr ⟨rfl, no2 (fun _ => A_load (xs (6 * i + 1)) (xs (6 * i + 2)) (xs (6 * i + 3)))⟩) (by decide) (fun _ _ _ h => n6_fX10_load rfl _ h) hR
  refine lv_aload_n hx hb dL_law_838 rfl (lv_at hl 2 rfl) ?_
  refine R_scr (k := 1) C hd hX hbl hbA (lv_at hl 1 rfl) (lv_at hl 0 rfl) hi hL (by decide) rfl dL_law_839 dL_law_840 dL_law_842 dL_law_843 dL_law_844 ?_
  refine R_scr (k := 2) C hd hX hbl hbA (lv_at hl 1 rfl) (lv_at hl 0 rfl) hi hL (by decide) rfl dL_law_845 dL_law_846 dL_law_848 dL_law_849 dL_law_850 ?_
  refine R_scr (k := 3) C hd hX hbl hbA (lv_at hl 1 rfl) (lv_at hl 0 rfl) hi hL (by decide) rfl dL_law_851 dL_law_852 dL_law_854 dL_law_855 dL_law_856 ?_
  refine lv_aload_n hx hb dL_law_857 rfl (lv_at hl 4 rfl) ?_
  refine R_cHi (rest := []) (As := [.ref (gR G 0), .int (xs (6 * i + 1)), .int (xs (6 * i + 2)), .int (xs (6 * i + 3)), .ref (gR G 186)]) C hd (ccL_load l G hst e1) kH_151 hl.1 ⟨by decide, by decide⟩ rfl rfl (Nat.le_of_ble_eq_true rfl) dL_law_858 (lfit hB (by decide) (by decide)) (fun H locs hd => ?_)
  refine lv_istore hx hb dL_law_861 hl (by decide) rfl (fun ls hl => ?_)
  refine lv_aload_n hx hb dL_law_863 rfl (lv_at hl 4 rfl) ?_
  refine R_scr (k := 1) C hd hX hbl hbA (lv_at hl 2 rfl) (lv_at hl 1 rfl) hi hL (by decide) rfl dL_law_864 dL_law_865 dL_law_867 dL_law_868 dL_law_869 ?_
  refine R_scr (k := 2) C hd hX hbl hbA (lv_at hl 2 rfl) (lv_at hl 1 rfl) hi hL (by decide) rfl dL_law_870 dL_law_871 dL_law_873 dL_law_874 dL_law_875 ?_
  refine R_scr (k := 3) C hd hX hbl hbA (lv_at hl 2 rfl) (lv_at hl 1 rfl) hi hL (by decide) rfl dL_law_876 dL_law_877 dL_law_879 dL_law_880 dL_law_881 ?_
  refine R_cVi (rest := []) (As := [.int (xs (6 * i + 1)), .int (xs (6 * i + 2)), .int (xs (6 * i + 3))]) C hd (ccX10_load l G e2) kL_154 rfl (by decide) (rfl : kd 142 = 10) hl.1 ⟨by decide, by decide⟩ rfl rfl (Nat.le_of_ble_eq_true rfl) dL_law_882 (lfit2 hB (by decide) (by decide)) (fun H locs hd => ?_)
  refine lv_istore hx hb dL_law_885 hl (by decide) rfl (fun ls hl => ?_)
  refine lv_aload_n hx hb dL_law_887 rfl (lv_at hl 5 rfl) ?_
  refine R_cVi (rest := []) (As := []) C hd (ccX10_thrown l G rfl) kL_117 rfl (by decide) (rfl : kd 142 = 10) hl.1 ⟨by decide, by decide⟩ rfl rfl (Nat.le_of_ble_eq_true rfl) dL_law_888 (lfit2 hB (by decide) (by decide)) (fun H locs hd => ?_)
  refine lv_iload hx hb dL_law_891 (lv_at hl 1 rfl) ?_
  refine lv_icmp_eq (tgt := 898) hx hb dL_law_893 (by decide) (fun _ => ?_) (fun q => absurd e3 q)
  refine lv_iload hx hb dL_law_898 (lv_at hl 1 rfl) ?_
  refine lv_if_ne (tgt := 915) hx hb dL_law_900 (by decide) (fun _ => ?_) (fun ck => ?_)
  · refine lv_goto (tgt := 2278) hx hb dL_law_915 (by decide) ?_
    exact hnext S2 H locs ls _ _ (by omega) (by omega) hd hR2 (lv_sbs hl (fun q hq => List.mem_cons_of_mem _ (List.mem_cons_of_mem _ hq)))
  · have e5 := e4 ck
    refine lv_aload_n hx hb dL_law_903 rfl (lv_at hl 6 rfl) ?_
    refine lv_iconst hx hb dL_law_904 rfl ?_
    refine R_lald C hd dL_law_905 ?_
    refine lv_iload hx hb dL_law_906 (lv_at hl 0 rfl) ?_
    refine lv_i2l hx hb dL_law_908 rfl ?_
    refine W.lcmp hx hb dL_law_909 ?_
    rw [show (S2 186 0).toInt64 = bb.toInt64 by rw [e5]; rfl, lcmp_eq]
    refine lv_if_eq (tgt := 915) hx hb dL_law_910 (by decide) (fun _ => ?_) (fun q => absurd rfl q)
    refine lv_goto (tgt := 2278) hx hb dL_law_915 (by decide) ?_
    exact hnext S2 H locs ls _ _ (by omega) (by omega) hd hR2 (lv_sbs hl (fun q hq => List.mem_cons_of_mem _ (List.mem_cons_of_mem _ hq)))
end LC
