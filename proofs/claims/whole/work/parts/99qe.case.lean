theorem dL_law_918 : decode cL_law 918 = .ok (.aload_n 1, 1) := by decide +kernel
theorem dL_law_919 : decode cL_law 919 = .ok (.aload_n 0, 1) := by decide +kernel
theorem dL_law_920 : decode cL_law 920 = .ok (.iload 4, 2) := by decide +kernel
theorem dL_law_922 : decode cL_law 922 = .ok (.iconst 1, 1) := by decide +kernel
theorem dL_law_923 : decode cL_law 923 = .ok (.iadd, 1) := by decide +kernel
theorem dL_law_924 : decode cL_law 924 = .ok (.iaload, 1) := by decide +kernel
theorem dL_law_925 : decode cL_law 925 = .ok (.aload_n 0, 1) := by decide +kernel
theorem dL_law_926 : decode cL_law 926 = .ok (.iload 4, 2) := by decide +kernel
theorem dL_law_928 : decode cL_law 928 = .ok (.iconst 2, 1) := by decide +kernel
theorem dL_law_929 : decode cL_law 929 = .ok (.iadd, 1) := by decide +kernel
theorem dL_law_930 : decode cL_law 930 = .ok (.iaload, 1) := by decide +kernel
theorem dL_law_931 : decode cL_law 931 = .ok (.aload_n 0, 1) := by decide +kernel
theorem dL_law_932 : decode cL_law 932 = .ok (.iload 4, 2) := by decide +kernel
theorem dL_law_934 : decode cL_law 934 = .ok (.iconst 3, 1) := by decide +kernel
theorem dL_law_935 : decode cL_law 935 = .ok (.iadd, 1) := by decide +kernel
theorem dL_law_936 : decode cL_law 936 = .ok (.iaload, 1) := by decide +kernel
theorem dL_law_937 : decode cL_law 937 = .ok (.aload_n 3, 1) := by decide +kernel
theorem dL_law_938 : decode cL_law 938 = .ok (.invokestatic 155, 3) := by decide +kernel
theorem dL_law_941 : decode cL_law 941 = .ok (.istore 5, 2) := by decide +kernel
theorem dL_law_943 : decode cL_law 943 = .ok (.aload_n 2, 1) := by decide +kernel
theorem dL_law_944 : decode cL_law 944 = .ok (.aload_n 0, 1) := by decide +kernel
theorem dL_law_945 : decode cL_law 945 = .ok (.iload 4, 2) := by decide +kernel
theorem dL_law_947 : decode cL_law 947 = .ok (.iconst 1, 1) := by decide +kernel
theorem dL_law_948 : decode cL_law 948 = .ok (.iadd, 1) := by decide +kernel
theorem dL_law_949 : decode cL_law 949 = .ok (.iaload, 1) := by decide +kernel
theorem dL_law_950 : decode cL_law 950 = .ok (.aload_n 0, 1) := by decide +kernel
theorem dL_law_951 : decode cL_law 951 = .ok (.iload 4, 2) := by decide +kernel
theorem dL_law_953 : decode cL_law 953 = .ok (.iconst 2, 1) := by decide +kernel
theorem dL_law_954 : decode cL_law 954 = .ok (.iadd, 1) := by decide +kernel
theorem dL_law_955 : decode cL_law 955 = .ok (.iaload, 1) := by decide +kernel
theorem dL_law_956 : decode cL_law 956 = .ok (.aload_n 0, 1) := by decide +kernel
theorem dL_law_957 : decode cL_law 957 = .ok (.iload 4, 2) := by decide +kernel
theorem dL_law_959 : decode cL_law 959 = .ok (.iconst 3, 1) := by decide +kernel
theorem dL_law_960 : decode cL_law 960 = .ok (.iadd, 1) := by decide +kernel
theorem dL_law_961 : decode cL_law 961 = .ok (.iaload, 1) := by decide +kernel
theorem dL_law_962 : decode cL_law 962 = .ok (.invokevirtual 157, 3) := by decide +kernel
theorem dL_law_965 : decode cL_law 965 = .ok (.istore 6, 2) := by decide +kernel
theorem dL_law_967 : decode cL_law 967 = .ok (.aload_n 2, 1) := by decide +kernel
theorem dL_law_968 : decode cL_law 968 = .ok (.invokevirtual 117, 3) := by decide +kernel
theorem dL_law_971 : decode cL_law 971 = .ok (.iload 5, 2) := by decide +kernel
theorem dL_law_973 : decode cL_law 973 = .ok (.if_icmp .eq 5, 3) := by decide +kernel
theorem dL_law_976 : decode cL_law 976 = .ok (.iconst 0, 1) := by decide +kernel
theorem dL_law_977 : decode cL_law 977 = .ok (.ireturn, 1) := by decide +kernel
theorem dL_law_978 : decode cL_law 978 = .ok (.iload 5, 2) := by decide +kernel
theorem dL_law_980 : decode cL_law 980 = .ok (.ifCond .ne 15, 3) := by decide +kernel
theorem dL_law_983 : decode cL_law 983 = .ok (.aload_n 3, 1) := by decide +kernel
theorem dL_law_984 : decode cL_law 984 = .ok (.iconst 0, 1) := by decide +kernel
theorem dL_law_985 : decode cL_law 985 = .ok (.laload, 1) := by decide +kernel
theorem dL_law_986 : decode cL_law 986 = .ok (.iload 6, 2) := by decide +kernel
theorem dL_law_988 : decode cL_law 988 = .ok (.i2l, 1) := by decide +kernel
theorem dL_law_989 : decode cL_law 989 = .ok (.lcmp, 1) := by decide +kernel
theorem dL_law_990 : decode cL_law 990 = .ok (.ifCond .eq 5, 3) := by decide +kernel
theorem dL_law_993 : decode cL_law 993 = .ok (.iconst 0, 1) := by decide +kernel
theorem dL_law_994 : decode cL_law 994 = .ok (.ireturn, 1) := by decide +kernel
theorem dL_law_995 : decode cL_law 995 = .ok (.goto 1283, 3) := by decide +kernel
theorem kH_155 : CH RL 155 yL_change cL_change 6 (some .int) [(0, 12, 15, 18)] 5 := ⟨wsH_gt wd911 wd912 wd0 wd913, by decide +kernel⟩
theorem kL_157 : CV RL 157 RX10 yX10_change cX10_change 5 (some .int) 3 := ⟨wsV_gt wd1659 wd1660 wd1661 wd11 wd1662, by decide +kernel⟩
theorem dL_law_998 : decode cL_law 998 = .ok (.aload_n 1, 1) := by decide +kernel
theorem dL_law_999 : decode cL_law 999 = .ok (.aload_n 0, 1) := by decide +kernel
theorem dL_law_1000 : decode cL_law 1000 = .ok (.iload 4, 2) := by decide +kernel
theorem dL_law_1002 : decode cL_law 1002 = .ok (.iconst 1, 1) := by decide +kernel
theorem dL_law_1003 : decode cL_law 1003 = .ok (.iadd, 1) := by decide +kernel
theorem dL_law_1004 : decode cL_law 1004 = .ok (.iaload, 1) := by decide +kernel
theorem dL_law_1005 : decode cL_law 1005 = .ok (.aload_n 0, 1) := by decide +kernel
theorem dL_law_1006 : decode cL_law 1006 = .ok (.iload 4, 2) := by decide +kernel
theorem dL_law_1008 : decode cL_law 1008 = .ok (.iconst 2, 1) := by decide +kernel
theorem dL_law_1009 : decode cL_law 1009 = .ok (.iadd, 1) := by decide +kernel
theorem dL_law_1010 : decode cL_law 1010 = .ok (.iaload, 1) := by decide +kernel
theorem dL_law_1011 : decode cL_law 1011 = .ok (.aload_n 3, 1) := by decide +kernel
theorem dL_law_1012 : decode cL_law 1012 = .ok (.invokestatic 158, 3) := by decide +kernel
theorem dL_law_1015 : decode cL_law 1015 = .ok (.istore 5, 2) := by decide +kernel
theorem dL_law_1017 : decode cL_law 1017 = .ok (.aload_n 2, 1) := by decide +kernel
theorem dL_law_1018 : decode cL_law 1018 = .ok (.aload_n 0, 1) := by decide +kernel
theorem dL_law_1019 : decode cL_law 1019 = .ok (.iload 4, 2) := by decide +kernel
theorem dL_law_1021 : decode cL_law 1021 = .ok (.iconst 1, 1) := by decide +kernel
theorem dL_law_1022 : decode cL_law 1022 = .ok (.iadd, 1) := by decide +kernel
theorem dL_law_1023 : decode cL_law 1023 = .ok (.iaload, 1) := by decide +kernel
theorem dL_law_1024 : decode cL_law 1024 = .ok (.aload_n 0, 1) := by decide +kernel
theorem dL_law_1025 : decode cL_law 1025 = .ok (.iload 4, 2) := by decide +kernel
theorem dL_law_1027 : decode cL_law 1027 = .ok (.iconst 2, 1) := by decide +kernel
theorem dL_law_1028 : decode cL_law 1028 = .ok (.iadd, 1) := by decide +kernel
theorem dL_law_1029 : decode cL_law 1029 = .ok (.iaload, 1) := by decide +kernel
theorem dL_law_1030 : decode cL_law 1030 = .ok (.invokevirtual 160, 3) := by decide +kernel
theorem dL_law_1033 : decode cL_law 1033 = .ok (.istore 6, 2) := by decide +kernel
theorem dL_law_1035 : decode cL_law 1035 = .ok (.aload_n 2, 1) := by decide +kernel
theorem dL_law_1036 : decode cL_law 1036 = .ok (.invokevirtual 117, 3) := by decide +kernel
theorem dL_law_1039 : decode cL_law 1039 = .ok (.iload 5, 2) := by decide +kernel
theorem dL_law_1041 : decode cL_law 1041 = .ok (.if_icmp .eq 5, 3) := by decide +kernel
theorem dL_law_1044 : decode cL_law 1044 = .ok (.iconst 0, 1) := by decide +kernel
theorem dL_law_1045 : decode cL_law 1045 = .ok (.ireturn, 1) := by decide +kernel
theorem dL_law_1046 : decode cL_law 1046 = .ok (.iload 5, 2) := by decide +kernel
theorem dL_law_1048 : decode cL_law 1048 = .ok (.ifCond .ne 22, 3) := by decide +kernel
theorem dL_law_1051 : decode cL_law 1051 = .ok (.aload_n 3, 1) := by decide +kernel
theorem dL_law_1052 : decode cL_law 1052 = .ok (.iconst 0, 1) := by decide +kernel
theorem dL_law_1053 : decode cL_law 1053 = .ok (.laload, 1) := by decide +kernel
theorem dL_law_1054 : decode cL_law 1054 = .ok (.iload 6, 2) := by decide +kernel
theorem dL_law_1056 : decode cL_law 1056 = .ok (.ifCond .eq 7, 3) := by decide +kernel
theorem dL_law_1059 : decode cL_law 1059 = .ok (.lconst 1, 1) := by decide +kernel
theorem dL_law_1060 : decode cL_law 1060 = .ok (.goto 4, 3) := by decide +kernel
theorem dL_law_1063 : decode cL_law 1063 = .ok (.lconst 0, 1) := by decide +kernel
theorem dL_law_1064 : decode cL_law 1064 = .ok (.lcmp, 1) := by decide +kernel
theorem dL_law_1065 : decode cL_law 1065 = .ok (.ifCond .eq 5, 3) := by decide +kernel
theorem dL_law_1068 : decode cL_law 1068 = .ok (.iconst 0, 1) := by decide +kernel
theorem dL_law_1069 : decode cL_law 1069 = .ok (.ireturn, 1) := by decide +kernel
theorem dL_law_1070 : decode cL_law 1070 = .ok (.goto 1208, 3) := by decide +kernel
theorem kH_158 : CH RL 158 yL_sell cL_sell 5 (some .int) [(0, 17, 20, 18)] 4 := ⟨wsH_gt wd918 wd919 wd0 wd920, by decide +kernel⟩
theorem kL_160 : CV RL 160 RX10 yX10_sell cX10_sell 3 (some .boolean) 2 := ⟨wsV_gt wd1663 wd1664 wd1665 wd11 wd1666, by decide +kernel⟩
theorem dL_law_1073 : decode cL_law 1073 = .ok (.aload_n 1, 1) := by decide +kernel
theorem dL_law_1074 : decode cL_law 1074 = .ok (.invokevirtual 161, 3) := by decide +kernel
theorem dL_law_1077 : decode cL_law 1077 = .ok (.aload_n 2, 1) := by decide +kernel
theorem dL_law_1078 : decode cL_law 1078 = .ok (.invokevirtual 164, 3) := by decide +kernel
theorem dL_law_1081 : decode cL_law 1081 = .ok (.if_icmp .eq 1197, 3) := by decide +kernel
theorem dL_law_1084 : decode cL_law 1084 = .ok (.iconst 0, 1) := by decide +kernel
theorem dL_law_1085 : decode cL_law 1085 = .ok (.ireturn, 1) := by decide +kernel
theorem kL_161 : CV RL 161 RX9 yX9_undo cX9_undo 1 (some .int) 0 := ⟨wsV_gt wd476 wd477 wd478 wd1 wd479, by decide +kernel⟩
theorem kL_164 : CV RL 164 RX10 yX10_undo cX10_undo 1 (some .int) 0 := ⟨wsV_gt wd1667 wd1668 wd1669 wd11 wd1670, by decide +kernel⟩
section LC
variable {p : Program} {l : Launch} {e : Env} {s : State} {m : MethodId} {below : List Frame} {meth : Method} {c : Code} {G : Gt} {Q : State → Prop} {b L i : Nat} {xs : Nat → Int32} {S : St} {H : Heap} {locs : List Loc} {ls : Array Slot} {cells slots : Nat}
set_option maxHeartbeats 4000000 in
set_option maxRecDepth 20000 in
theorem lc_change (C : Cx p s m #[.ref b] meth c cL_law 7 RL G) (hst : l.stackTraces = false) (hX : va_X b L xs s s.heap) (hbl : b < s.heap.size) (hbA : ¬ Ab G b) (hi : 6 * i + 5 < L) (hL : L ≤ 3072) (hd : Dy G S s H locs) (hR : Rel S) (hl : lv_has ls 7 [(4, .int (nI (6 * i))), (0, .ref b), (1, .ref (gR G 0)), (2, .ref (gR G 142)), (3, .ref (gR G 186))]) (hB : cells + 20 ≤ 601024 ∧ slots + 120 ≤ 7293034) (hnext : ∀ (S : St) (H : Heap) (locs : List Loc) (ls : Array Slot) (k n : Nat), k ≤ cells + 20 → n ≤ slots + 120 → Dy G S s H locs → Rel S → lv_has ls 7 [(4, .int (nI (6 * i))), (0, .ref b), (1, .ref (gR G 0)), (2, .ref (gR G 142)), (3, .ref (gR G 186))] → W p l e room_1 s m #[.ref b] below meth c H locs k n Q (F0 m 2278 ls [])) : W p l e room_1 s m #[.ref b] below meth c H locs cells slots Q (F0 m 918 ls []) := by
  have hx := C.1.1
  have hb := C.1.2.1
  obtain ⟨k, S1, bb, S2, e1, e2, hR2, e3, e4⟩ := useC (A_change (nX := 1) (xs (6 * i + 1)) (xs (6 * i + 2)) (xs (6 * i + 3))) (some 1) none false (Or.inl rfl) (Or.inr ⟨rfl, no2 (fun _ => A_change (xs (6 * i + 1)) (xs (6 * i + 2)) (xs (6 * i + 3)))⟩) (by decide) (fun _ _ _ h => n6_fX10_change rfl _ h) hR
  refine lv_aload_n hx hb dL_law_918 rfl (lv_at hl 2 rfl) ?_
  refine R_scr (k := 1) C hd hX hbl hbA (lv_at hl 1 rfl) (lv_at hl 0 rfl) hi hL (by decide) rfl dL_law_919 dL_law_920 dL_law_922 dL_law_923 dL_law_924 ?_
  refine R_scr (k := 2) C hd hX hbl hbA (lv_at hl 1 rfl) (lv_at hl 0 rfl) hi hL (by decide) rfl dL_law_925 dL_law_926 dL_law_928 dL_law_929 dL_law_930 ?_
  refine R_scr (k := 3) C hd hX hbl hbA (lv_at hl 1 rfl) (lv_at hl 0 rfl) hi hL (by decide) rfl dL_law_931 dL_law_932 dL_law_934 dL_law_935 dL_law_936 ?_
  refine lv_aload_n hx hb dL_law_937 rfl (lv_at hl 4 rfl) ?_
  refine R_cHi (rest := []) (As := [.ref (gR G 0), .int (xs (6 * i + 1)), .int (xs (6 * i + 2)), .int (xs (6 * i + 3)), .ref (gR G 186)]) C hd (ccL_change l G hst e1) kH_155 hl.1 ⟨by decide, by decide⟩ rfl rfl (Nat.le_of_ble_eq_true rfl) dL_law_938 (lfit hB (by decide) (by decide)) (fun H locs hd => ?_)
  refine lv_istore hx hb dL_law_941 hl (by decide) rfl (fun ls hl => ?_)
  refine lv_aload_n hx hb dL_law_943 rfl (lv_at hl 4 rfl) ?_
  refine R_scr (k := 1) C hd hX hbl hbA (lv_at hl 2 rfl) (lv_at hl 1 rfl) hi hL (by decide) rfl dL_law_944 dL_law_945 dL_law_947 dL_law_948 dL_law_949 ?_
  refine R_scr (k := 2) C hd hX hbl hbA (lv_at hl 2 rfl) (lv_at hl 1 rfl) hi hL (by decide) rfl dL_law_950 dL_law_951 dL_law_953 dL_law_954 dL_law_955 ?_
  refine R_scr (k := 3) C hd hX hbl hbA (lv_at hl 2 rfl) (lv_at hl 1 rfl) hi hL (by decide) rfl dL_law_956 dL_law_957 dL_law_959 dL_law_960 dL_law_961 ?_
  refine R_cVi (rest := []) (As := [.int (xs (6 * i + 1)), .int (xs (6 * i + 2)), .int (xs (6 * i + 3))]) C hd (ccX10_change l G e2) kL_157 rfl (by decide) (rfl : kd 142 = 10) hl.1 ⟨by decide, by decide⟩ rfl rfl (Nat.le_of_ble_eq_true rfl) dL_law_962 (lfit2 hB (by decide) (by decide)) (fun H locs hd => ?_)
  refine lv_istore hx hb dL_law_965 hl (by decide) rfl (fun ls hl => ?_)
  refine lv_aload_n hx hb dL_law_967 rfl (lv_at hl 5 rfl) ?_
  refine R_cVi (rest := []) (As := []) C hd (ccX10_thrown l G rfl) kL_117 rfl (by decide) (rfl : kd 142 = 10) hl.1 ⟨by decide, by decide⟩ rfl rfl (Nat.le_of_ble_eq_true rfl) dL_law_968 (lfit2 hB (by decide) (by decide)) (fun H locs hd => ?_)
  refine lv_iload hx hb dL_law_971 (lv_at hl 1 rfl) ?_
  refine lv_icmp_eq (tgt := 978) hx hb dL_law_973 (by decide) (fun _ => ?_) (fun q => absurd e3 q)
  refine lv_iload hx hb dL_law_978 (lv_at hl 1 rfl) ?_
  refine lv_if_ne (tgt := 995) hx hb dL_law_980 (by decide) (fun _ => ?_) (fun ck => ?_)
  · refine lv_goto (tgt := 2278) hx hb dL_law_995 (by decide) ?_
    exact hnext S2 H locs ls _ _ (by omega) (by omega) hd hR2 (lv_sbs hl (fun q hq => List.mem_cons_of_mem _ (List.mem_cons_of_mem _ hq)))
  · have e5 := e4 ck
    refine lv_aload_n hx hb dL_law_983 rfl (lv_at hl 6 rfl) ?_
    refine lv_iconst hx hb dL_law_984 rfl ?_
    refine R_lald C hd dL_law_985 ?_
    refine lv_iload hx hb dL_law_986 (lv_at hl 0 rfl) ?_
    refine lv_i2l hx hb dL_law_988 rfl ?_
    refine W.lcmp hx hb dL_law_989 ?_
    rw [show (S2 186 0).toInt64 = bb.toInt64 by rw [e5]; rfl, lcmp_eq]
    refine lv_if_eq (tgt := 995) hx hb dL_law_990 (by decide) (fun _ => ?_) (fun q => absurd rfl q)
    refine lv_goto (tgt := 2278) hx hb dL_law_995 (by decide) ?_
    exact hnext S2 H locs ls _ _ (by omega) (by omega) hd hR2 (lv_sbs hl (fun q hq => List.mem_cons_of_mem _ (List.mem_cons_of_mem _ hq)))
set_option maxHeartbeats 4000000 in
set_option maxRecDepth 20000 in
theorem lc_sell (C : Cx p s m #[.ref b] meth c cL_law 7 RL G) (hst : l.stackTraces = false) (hX : va_X b L xs s s.heap) (hbl : b < s.heap.size) (hbA : ¬ Ab G b) (hi : 6 * i + 5 < L) (hL : L ≤ 3072) (hd : Dy G S s H locs) (hR : Rel S) (hl : lv_has ls 7 [(4, .int (nI (6 * i))), (0, .ref b), (1, .ref (gR G 0)), (2, .ref (gR G 142)), (3, .ref (gR G 186))]) (hB : cells + 20 ≤ 601024 ∧ slots + 120 ≤ 7293034) (hnext : ∀ (S : St) (H : Heap) (locs : List Loc) (ls : Array Slot) (k n : Nat), k ≤ cells + 20 → n ≤ slots + 120 → Dy G S s H locs → Rel S → lv_has ls 7 [(4, .int (nI (6 * i))), (0, .ref b), (1, .ref (gR G 0)), (2, .ref (gR G 142)), (3, .ref (gR G 186))] → W p l e room_1 s m #[.ref b] below meth c H locs k n Q (F0 m 2278 ls [])) : W p l e room_1 s m #[.ref b] below meth c H locs cells slots Q (F0 m 998 ls []) := by
  have hx := C.1.1
  have hb := C.1.2.1
  obtain ⟨k, S1, bb, S2, e1, e2, hR2, e3, e4⟩ := useC (A_sell (nX := 1) (xs (6 * i + 1)) (xs (6 * i + 2))) (some 1) none true (Or.inl rfl) (Or.inr ⟨rfl, no2 (fun _ => A_sell (xs (6 * i + 1)) (xs (6 * i + 2)))⟩) (by decide) (fun _ _ _ h => n6_fX10_sell rfl _ h) hR
  refine lv_aload_n hx hb dL_law_998 rfl (lv_at hl 2 rfl) ?_
  refine R_scr (k := 1) C hd hX hbl hbA (lv_at hl 1 rfl) (lv_at hl 0 rfl) hi hL (by decide) rfl dL_law_999 dL_law_1000 dL_law_1002 dL_law_1003 dL_law_1004 ?_
  refine R_scr (k := 2) C hd hX hbl hbA (lv_at hl 1 rfl) (lv_at hl 0 rfl) hi hL (by decide) rfl dL_law_1005 dL_law_1006 dL_law_1008 dL_law_1009 dL_law_1010 ?_
  refine lv_aload_n hx hb dL_law_1011 rfl (lv_at hl 4 rfl) ?_
  refine R_cHi (rest := []) (As := [.ref (gR G 0), .int (xs (6 * i + 1)), .int (xs (6 * i + 2)), .ref (gR G 186)]) C hd (ccL_sell l G hst e1) kH_158 hl.1 ⟨by decide, by decide⟩ rfl rfl (Nat.le_of_ble_eq_true rfl) dL_law_1012 (lfit hB (by decide) (by decide)) (fun H locs hd => ?_)
  refine lv_istore hx hb dL_law_1015 hl (by decide) rfl (fun ls hl => ?_)
  refine lv_aload_n hx hb dL_law_1017 rfl (lv_at hl 4 rfl) ?_
  refine R_scr (k := 1) C hd hX hbl hbA (lv_at hl 2 rfl) (lv_at hl 1 rfl) hi hL (by decide) rfl dL_law_1018 dL_law_1019 dL_law_1021 dL_law_1022 dL_law_1023 ?_
  refine R_scr (k := 2) C hd hX hbl hbA (lv_at hl 2 rfl) (lv_at hl 1 rfl) hi hL (by decide) rfl dL_law_1024 dL_law_1025 dL_law_1027 dL_law_1028 dL_law_1029 ?_
  refine R_cVi (rest := []) (As := [.int (xs (6 * i + 1)), .int (xs (6 * i + 2))]) C hd (ccX10_sell l G e2) kL_160 rfl (by decide) (rfl : kd 142 = 10) hl.1 ⟨by decide, by decide⟩ rfl rfl (Nat.le_of_ble_eq_true rfl) dL_law_1030 (lfit2 hB (by decide) (by decide)) (fun H locs hd => ?_)
  refine lv_istore hx hb dL_law_1033 hl (by decide) rfl (fun ls hl => ?_)
  refine lv_aload_n hx hb dL_law_1035 rfl (lv_at hl 5 rfl) ?_
  refine R_cVi (rest := []) (As := []) C hd (ccX10_thrown l G rfl) kL_117 rfl (by decide) (rfl : kd 142 = 10) hl.1 ⟨by decide, by decide⟩ rfl rfl (Nat.le_of_ble_eq_true rfl) dL_law_1036 (lfit2 hB (by decide) (by decide)) (fun H locs hd => ?_)
  refine lv_iload hx hb dL_law_1039 (lv_at hl 1 rfl) ?_
  refine lv_icmp_eq (tgt := 1046) hx hb dL_law_1041 (by decide) (fun _ => ?_) (fun q => absurd e3 q)
  refine lv_iload hx hb dL_law_1046 (lv_at hl 1 rfl) ?_
  refine lv_if_ne (tgt := 1070) hx hb dL_law_1048 (by decide) (fun _ => ?_) (fun ck => ?_)
  · refine lv_goto (tgt := 2278) hx hb dL_law_1070 (by decide) ?_
    exact hnext S2 H locs ls _ _ (by omega) (by omega) hd hR2 (lv_sbs hl (fun q hq => List.mem_cons_of_mem _ (List.mem_cons_of_mem _ hq)))
  · have e5 := e4 ck
    refine lv_aload_n hx hb dL_law_1051 rfl (lv_at hl 6 rfl) ?_
    refine lv_iconst hx hb dL_law_1052 rfl ?_
    refine R_lald C hd dL_law_1053 ?_
    refine lv_iload hx hb dL_law_1054 (lv_at hl 0 rfl) ?_
    refine lv_if_eq (tgt := 1063) hx hb dL_law_1056 (by decide) (fun cz => ?_) (fun cz => ?_)
    · refine lv_lconst (v := 0) hx hb dL_law_1063 rfl ?_
      refine W.lcmp hx hb dL_law_1064 ?_
      rw [show (S2 186 0).toInt64 = (0 : Int64) by rw [e5]; show (if bb = 0 then (0 : Int32) else 1).toInt64 = 0; rw [if_pos cz]; rfl, lcmp_eq]
      refine lv_if_eq (tgt := 1070) hx hb dL_law_1065 (by decide) (fun _ => ?_) (fun q => absurd rfl q)
      refine lv_goto (tgt := 2278) hx hb dL_law_1070 (by decide) ?_
      exact hnext S2 H locs ls _ _ (by omega) (by omega) hd hR2 (lv_sbs hl (fun q hq => List.mem_cons_of_mem _ (List.mem_cons_of_mem _ hq)))
    · refine lv_lconst (v := 1) hx hb dL_law_1059 rfl ?_
      refine lv_goto (tgt := 1064) hx hb dL_law_1060 (by decide) ?_
      refine W.lcmp hx hb dL_law_1064 ?_
      rw [show (S2 186 0).toInt64 = (1 : Int64) by rw [e5]; show (if bb = 0 then (0 : Int32) else 1).toInt64 = 1; rw [if_neg cz]; rfl, lcmp_eq]
      refine lv_if_eq (tgt := 1070) hx hb dL_law_1065 (by decide) (fun _ => ?_) (fun q => absurd rfl q)
      refine lv_goto (tgt := 2278) hx hb dL_law_1070 (by decide) ?_
      exact hnext S2 H locs ls _ _ (by omega) (by omega) hd hR2 (lv_sbs hl (fun q hq => List.mem_cons_of_mem _ (List.mem_cons_of_mem _ hq)))
set_option maxHeartbeats 4000000 in
set_option maxRecDepth 20000 in
theorem lc_undo (C : Cx p s m #[.ref b] meth c cL_law 7 RL G) (hst : l.stackTraces = false) (hX : va_X b L xs s s.heap) (hbl : b < s.heap.size) (hbA : ¬ Ab G b) (hi : 6 * i + 5 < L) (hL : L ≤ 3072) (hd : Dy G S s H locs) (hR : Rel S) (hl : lv_has ls 7 [(4, .int (nI (6 * i))), (0, .ref b), (1, .ref (gR G 0)), (2, .ref (gR G 142)), (3, .ref (gR G 186))]) (hB : cells + 20 ≤ 601024 ∧ slots + 120 ≤ 7293034) (hnext : ∀ (S : St) (H : Heap) (locs : List Loc) (ls : Array Slot) (k n : Nat), k ≤ cells + 20 → n ≤ slots + 120 → Dy G S s H locs → Rel S → lv_has ls 7 [(4, .int (nI (6 * i))), (0, .ref b), (1, .ref (gR G 0)), (2, .ref (gR G 142)), (3, .ref (gR G 186))] → W p l e room_1 s m #[.ref b] below meth c H locs k n Q (F0 m 2278 ls [])) : W p l e room_1 s m #[.ref b] below meth c H locs cells slots Q (F0 m 1073 ls []) := by
  have hx := C.1.1
  have hb := C.1.2.1
  obtain ⟨r, S1, S2, e1, e2, hR2⟩ := A_undo  S hR
  refine lv_aload_n hx hb dL_law_1073 rfl (lv_at hl 2 rfl) ?_
  refine R_cVi (rest := []) (As := []) C hd (ccX9_undo l G e1) kL_161 rfl (by decide) (rfl : kd 0 = 9) hl.1 ⟨by decide, by decide⟩ rfl rfl (Nat.le_of_ble_eq_true rfl) dL_law_1074 ⟨Nat.le_trans (Nat.le_add_right cells 20) hB.1, Nat.le_trans (Nat.le_add_right slots 120) hB.2⟩ (fun H locs hd => ?_)
  refine lv_aload_n hx hb dL_law_1077 rfl (lv_at hl 3 rfl) ?_
  refine R_cVi (rest := [.int r]) (As := []) C hd (ccX10_undo l G e2) kL_164 rfl (by decide) (rfl : kd 142 = 10) hl.1 ⟨by decide, by decide⟩ rfl rfl (Nat.le_of_ble_eq_true rfl) dL_law_1078 ⟨Nat.le_trans (Nat.le_add_right cells 20) hB.1, Nat.le_trans (Nat.le_add_right slots 120) hB.2⟩ (fun H locs hd => ?_)
  refine lv_icmp_eq (tgt := 2278) hx hb dL_law_1081 (by decide) (fun _ => ?_) (fun q => absurd rfl q)
  exact hnext S2 H locs ls _ _ (by omega) (by omega) hd hR2 hl
end LC
