theorem dL_law_2015 : decode cL_law 2015 = .ok (.aload_n 1, 1) := by decide +kernel
theorem dL_law_2016 : decode cL_law 2016 = .ok (.aload_n 0, 1) := by decide +kernel
theorem dL_law_2017 : decode cL_law 2017 = .ok (.iload 4, 2) := by decide +kernel
theorem dL_law_2019 : decode cL_law 2019 = .ok (.iconst 1, 1) := by decide +kernel
theorem dL_law_2020 : decode cL_law 2020 = .ok (.iadd, 1) := by decide +kernel
theorem dL_law_2021 : decode cL_law 2021 = .ok (.iaload, 1) := by decide +kernel
theorem dL_law_2022 : decode cL_law 2022 = .ok (.aload_n 3, 1) := by decide +kernel
theorem dL_law_2023 : decode cL_law 2023 = .ok (.invokestatic 211, 3) := by decide +kernel
theorem dL_law_2026 : decode cL_law 2026 = .ok (.istore 5, 2) := by decide +kernel
theorem dL_law_2028 : decode cL_law 2028 = .ok (.aload_n 2, 1) := by decide +kernel
theorem dL_law_2029 : decode cL_law 2029 = .ok (.aload_n 0, 1) := by decide +kernel
theorem dL_law_2030 : decode cL_law 2030 = .ok (.iload 4, 2) := by decide +kernel
theorem dL_law_2032 : decode cL_law 2032 = .ok (.iconst 1, 1) := by decide +kernel
theorem dL_law_2033 : decode cL_law 2033 = .ok (.iadd, 1) := by decide +kernel
theorem dL_law_2034 : decode cL_law 2034 = .ok (.iaload, 1) := by decide +kernel
theorem dL_law_2035 : decode cL_law 2035 = .ok (.invokevirtual 213, 3) := by decide +kernel
theorem dL_law_2038 : decode cL_law 2038 = .ok (.istore 6, 2) := by decide +kernel
theorem dL_law_2040 : decode cL_law 2040 = .ok (.aload_n 2, 1) := by decide +kernel
theorem dL_law_2041 : decode cL_law 2041 = .ok (.invokevirtual 117, 3) := by decide +kernel
theorem dL_law_2044 : decode cL_law 2044 = .ok (.iload 5, 2) := by decide +kernel
theorem dL_law_2046 : decode cL_law 2046 = .ok (.if_icmp .eq 5, 3) := by decide +kernel
theorem dL_law_2049 : decode cL_law 2049 = .ok (.iconst 0, 1) := by decide +kernel
theorem dL_law_2050 : decode cL_law 2050 = .ok (.ireturn, 1) := by decide +kernel
theorem dL_law_2051 : decode cL_law 2051 = .ok (.iload 5, 2) := by decide +kernel
theorem dL_law_2053 : decode cL_law 2053 = .ok (.ifCond .ne 15, 3) := by decide +kernel
theorem dL_law_2056 : decode cL_law 2056 = .ok (.aload_n 3, 1) := by decide +kernel
theorem dL_law_2057 : decode cL_law 2057 = .ok (.iconst 0, 1) := by decide +kernel
theorem dL_law_2058 : decode cL_law 2058 = .ok (.laload, 1) := by decide +kernel
theorem dL_law_2059 : decode cL_law 2059 = .ok (.iload 6, 2) := by decide +kernel
theorem dL_law_2061 : decode cL_law 2061 = .ok (.i2l, 1) := by decide +kernel
theorem dL_law_2062 : decode cL_law 2062 = .ok (.lcmp, 1) := by decide +kernel
theorem dL_law_2063 : decode cL_law 2063 = .ok (.ifCond .eq 5, 3) := by decide +kernel
theorem dL_law_2066 : decode cL_law 2066 = .ok (.iconst 0, 1) := by decide +kernel
theorem dL_law_2067 : decode cL_law 2067 = .ok (.ireturn, 1) := by decide +kernel
theorem dL_law_2068 : decode cL_law 2068 = .ok (.goto 210, 3) := by decide +kernel
theorem kH_211 : CH RL 211 yL_listen cL_listen 4 (some .int) [(0, 9, 12, 18)] 3 := ⟨wsH_gt wd1110 wd1111 wd0 wd1112, by decide +kernel⟩
theorem kL_213 : CV RL 213 RX10 yX10_listen cX10_listen 6 (some .int) 1 := ⟨wsV_gt wd1766 wd1767 wd1768 wd11 wd1769, by decide +kernel⟩
theorem dL_law_2071 : decode cL_law 2071 = .ok (.aload_n 1, 1) := by decide +kernel
theorem dL_law_2072 : decode cL_law 2072 = .ok (.invokevirtual 214, 3) := by decide +kernel
theorem dL_law_2075 : decode cL_law 2075 = .ok (.aload_n 2, 1) := by decide +kernel
theorem dL_law_2076 : decode cL_law 2076 = .ok (.invokevirtual 217, 3) := by decide +kernel
theorem dL_law_2079 : decode cL_law 2079 = .ok (.goto 199, 3) := by decide +kernel
theorem kL_214 : CV RL 214 RX9 yX9_forget cX9_forget 1 none 0 := ⟨wsV_gt wd497 wd498 wd499 wd1 wd500, by decide +kernel⟩
theorem kL_217 : CV RL 217 RX10 yX10_forget cX10_forget 1 none 0 := ⟨wsV_gt wd1777 wd1778 wd1779 wd11 wd1780, by decide +kernel⟩
theorem dL_law_2082 : decode cL_law 2082 = .ok (.aload_n 1, 1) := by decide +kernel
theorem dL_law_2083 : decode cL_law 2083 = .ok (.aload_n 0, 1) := by decide +kernel
theorem dL_law_2084 : decode cL_law 2084 = .ok (.iload 4, 2) := by decide +kernel
theorem dL_law_2086 : decode cL_law 2086 = .ok (.iconst 1, 1) := by decide +kernel
theorem dL_law_2087 : decode cL_law 2087 = .ok (.iadd, 1) := by decide +kernel
theorem dL_law_2088 : decode cL_law 2088 = .ok (.iaload, 1) := by decide +kernel
theorem dL_law_2089 : decode cL_law 2089 = .ok (.aload_n 0, 1) := by decide +kernel
theorem dL_law_2090 : decode cL_law 2090 = .ok (.iload 4, 2) := by decide +kernel
theorem dL_law_2092 : decode cL_law 2092 = .ok (.iconst 2, 1) := by decide +kernel
theorem dL_law_2093 : decode cL_law 2093 = .ok (.iadd, 1) := by decide +kernel
theorem dL_law_2094 : decode cL_law 2094 = .ok (.iaload, 1) := by decide +kernel
theorem dL_law_2095 : decode cL_law 2095 = .ok (.aload_n 0, 1) := by decide +kernel
theorem dL_law_2096 : decode cL_law 2096 = .ok (.iload 4, 2) := by decide +kernel
theorem dL_law_2098 : decode cL_law 2098 = .ok (.iconst 3, 1) := by decide +kernel
theorem dL_law_2099 : decode cL_law 2099 = .ok (.iadd, 1) := by decide +kernel
theorem dL_law_2100 : decode cL_law 2100 = .ok (.iaload, 1) := by decide +kernel
theorem dL_law_2101 : decode cL_law 2101 = .ok (.aload_n 0, 1) := by decide +kernel
theorem dL_law_2102 : decode cL_law 2102 = .ok (.iload 4, 2) := by decide +kernel
theorem dL_law_2104 : decode cL_law 2104 = .ok (.iconst 4, 1) := by decide +kernel
theorem dL_law_2105 : decode cL_law 2105 = .ok (.iadd, 1) := by decide +kernel
theorem dL_law_2106 : decode cL_law 2106 = .ok (.iaload, 1) := by decide +kernel
theorem dL_law_2107 : decode cL_law 2107 = .ok (.aload_n 3, 1) := by decide +kernel
theorem dL_law_2108 : decode cL_law 2108 = .ok (.invokestatic 218, 3) := by decide +kernel
theorem dL_law_2111 : decode cL_law 2111 = .ok (.istore 5, 2) := by decide +kernel
theorem dL_law_2113 : decode cL_law 2113 = .ok (.aload_n 2, 1) := by decide +kernel
theorem dL_law_2114 : decode cL_law 2114 = .ok (.aload_n 0, 1) := by decide +kernel
theorem dL_law_2115 : decode cL_law 2115 = .ok (.iload 4, 2) := by decide +kernel
theorem dL_law_2117 : decode cL_law 2117 = .ok (.iconst 1, 1) := by decide +kernel
theorem dL_law_2118 : decode cL_law 2118 = .ok (.iadd, 1) := by decide +kernel
theorem dL_law_2119 : decode cL_law 2119 = .ok (.iaload, 1) := by decide +kernel
theorem dL_law_2120 : decode cL_law 2120 = .ok (.aload_n 0, 1) := by decide +kernel
theorem dL_law_2121 : decode cL_law 2121 = .ok (.iload 4, 2) := by decide +kernel
theorem dL_law_2123 : decode cL_law 2123 = .ok (.iconst 2, 1) := by decide +kernel
theorem dL_law_2124 : decode cL_law 2124 = .ok (.iadd, 1) := by decide +kernel
theorem dL_law_2125 : decode cL_law 2125 = .ok (.iaload, 1) := by decide +kernel
theorem dL_law_2126 : decode cL_law 2126 = .ok (.aload_n 0, 1) := by decide +kernel
theorem dL_law_2127 : decode cL_law 2127 = .ok (.iload 4, 2) := by decide +kernel
theorem dL_law_2129 : decode cL_law 2129 = .ok (.iconst 3, 1) := by decide +kernel
theorem dL_law_2130 : decode cL_law 2130 = .ok (.iadd, 1) := by decide +kernel
theorem dL_law_2131 : decode cL_law 2131 = .ok (.iaload, 1) := by decide +kernel
theorem dL_law_2132 : decode cL_law 2132 = .ok (.aload_n 0, 1) := by decide +kernel
theorem dL_law_2133 : decode cL_law 2133 = .ok (.iload 4, 2) := by decide +kernel
theorem dL_law_2135 : decode cL_law 2135 = .ok (.iconst 4, 1) := by decide +kernel
theorem dL_law_2136 : decode cL_law 2136 = .ok (.iadd, 1) := by decide +kernel
theorem dL_law_2137 : decode cL_law 2137 = .ok (.iaload, 1) := by decide +kernel
theorem dL_law_2138 : decode cL_law 2138 = .ok (.invokevirtual 221, 3) := by decide +kernel
theorem dL_law_2141 : decode cL_law 2141 = .ok (.istore 6, 2) := by decide +kernel
theorem dL_law_2143 : decode cL_law 2143 = .ok (.aload_n 2, 1) := by decide +kernel
theorem dL_law_2144 : decode cL_law 2144 = .ok (.invokevirtual 117, 3) := by decide +kernel
theorem dL_law_2147 : decode cL_law 2147 = .ok (.iload 5, 2) := by decide +kernel
theorem dL_law_2149 : decode cL_law 2149 = .ok (.if_icmp .eq 5, 3) := by decide +kernel
theorem dL_law_2152 : decode cL_law 2152 = .ok (.iconst 0, 1) := by decide +kernel
theorem dL_law_2153 : decode cL_law 2153 = .ok (.ireturn, 1) := by decide +kernel
theorem dL_law_2154 : decode cL_law 2154 = .ok (.iload 5, 2) := by decide +kernel
theorem dL_law_2156 : decode cL_law 2156 = .ok (.ifCond .ne 15, 3) := by decide +kernel
theorem dL_law_2159 : decode cL_law 2159 = .ok (.aload_n 3, 1) := by decide +kernel
theorem dL_law_2160 : decode cL_law 2160 = .ok (.iconst 0, 1) := by decide +kernel
theorem dL_law_2161 : decode cL_law 2161 = .ok (.laload, 1) := by decide +kernel
theorem dL_law_2162 : decode cL_law 2162 = .ok (.iload 6, 2) := by decide +kernel
theorem dL_law_2164 : decode cL_law 2164 = .ok (.i2l, 1) := by decide +kernel
theorem dL_law_2165 : decode cL_law 2165 = .ok (.lcmp, 1) := by decide +kernel
theorem dL_law_2166 : decode cL_law 2166 = .ok (.ifCond .eq 5, 3) := by decide +kernel
theorem dL_law_2169 : decode cL_law 2169 = .ok (.iconst 0, 1) := by decide +kernel
theorem dL_law_2170 : decode cL_law 2170 = .ok (.ireturn, 1) := by decide +kernel
theorem dL_law_2171 : decode cL_law 2171 = .ok (.goto 107, 3) := by decide +kernel
theorem kH_218 : CH RL 218 yL_game cL_game 7 (some .int) [(0, 14, 17, 18), (0, 14, 21, 13)] 6 := ⟨wsH_gt wd1123 wd1124 wd0 wd1125, by decide +kernel⟩
theorem kL_221 : CV RL 221 RX10 yX10_game cX10_game 10 (some .int) 4 := ⟨wsV_gt wd1781 wd1782 wd1783 wd11 wd1784, by decide +kernel⟩
section LC
variable {p : Program} {l : Launch} {e : Env} {s : State} {m : MethodId} {below : List Frame} {meth : Method} {c : Code} {G : Gt} {Q : State → Prop} {b L i : Nat} {xs : Nat → Int32} {S : St} {H : Heap} {locs : List Loc} {ls : Array Slot} {cells slots : Nat}
set_option maxHeartbeats 4000000 in
set_option maxRecDepth 20000 in
theorem lc_listen (C : Cx p s m #[.ref b] meth c cL_law 7 RL G) (hst : l.stackTraces = false) (hX : va_X b L xs s s.heap) (hbl : b < s.heap.size) (hbA : ¬ Ab G b) (hi : 6 * i + 5 < L) (hL : L ≤ 3072) (hd : Dy G S s H locs) (hR : Rel S) (hl : lv_has ls 7 [(4, .int (nI (6 * i))), (0, .ref b), (1, .ref (gR G 0)), (2, .ref (gR G 142)), (3, .ref (gR G 186))]) (hB : cells + 20 ≤ 601024 ∧ slots + 120 ≤ 7293034) (hnext : ∀ (S : St) (H : Heap) (locs : List Loc) (ls : Array Slot) (k n : Nat), k ≤ cells + 20 → n ≤ slots + 120 → Dy G S s H locs → Rel S → lv_has ls 7 [(4, .int (nI (6 * i))), (0, .ref b), (1, .ref (gR G 0)), (2, .ref (gR G 142)), (3, .ref (gR G 186))] → W p l e room_1 s m #[.ref b] below meth c H locs k n Q (F0 m 2278 ls [])) : W p l e room_1 s m #[.ref b] below meth c H locs cells slots Q (F0 m 2015 ls []) := by
  have hx := C.1.1
  have hb := C.1.2.1
  obtain ⟨k, S1, bb, S2, e1, e2, hR2, e3, e4⟩ := useC (A_listen (nX := 1) (xs (6 * i + 1))) (some 1) none false (Or.inl rfl) (Or.inr ⟨rfl, no2 (fun _ => A_listen (xs (6 * i + 1)))⟩) (by decide) (fun _ _ _ h => n6_fX10_listen rfl _ h) hR
  refine lv_aload_n hx hb dL_law_2015 rfl (lv_at hl 2 rfl) ?_
  refine R_scr (k := 1) C hd hX hbl hbA (lv_at hl 1 rfl) (lv_at hl 0 rfl) hi hL (by decide) rfl dL_law_2016 dL_law_2017 dL_law_2019 dL_law_2020 dL_law_2021 ?_
  refine lv_aload_n hx hb dL_law_2022 rfl (lv_at hl 4 rfl) ?_
  refine R_cHi (rest := []) (As := [.ref (gR G 0), .int (xs (6 * i + 1)), .ref (gR G 186)]) C hd (ccL_listen l G hst e1) kH_211 hl.1 ⟨by decide, by decide⟩ rfl rfl (Nat.le_of_ble_eq_true rfl) dL_law_2023 (lfit hB (by decide) (by decide)) (fun H locs hd => ?_)
  refine lv_istore hx hb dL_law_2026 hl (by decide) rfl (fun ls hl => ?_)
  refine lv_aload_n hx hb dL_law_2028 rfl (lv_at hl 4 rfl) ?_
  refine R_scr (k := 1) C hd hX hbl hbA (lv_at hl 2 rfl) (lv_at hl 1 rfl) hi hL (by decide) rfl dL_law_2029 dL_law_2030 dL_law_2032 dL_law_2033 dL_law_2034 ?_
  refine R_cVi (rest := []) (As := [.int (xs (6 * i + 1))]) C hd (ccX10_listen l G e2) kL_213 rfl (by decide) (rfl : kd 142 = 10) hl.1 ⟨by decide, by decide⟩ rfl rfl (Nat.le_of_ble_eq_true rfl) dL_law_2035 (lfit2 hB (by decide) (by decide)) (fun H locs hd => ?_)
  refine lv_istore hx hb dL_law_2038 hl (by decide) rfl (fun ls hl => ?_)
  refine lv_aload_n hx hb dL_law_2040 rfl (lv_at hl 5 rfl) ?_
  refine R_cVi (rest := []) (As := []) C hd (ccX10_thrown l G rfl) kL_117 rfl (by decide) (rfl : kd 142 = 10) hl.1 ⟨by decide, by decide⟩ rfl rfl (Nat.le_of_ble_eq_true rfl) dL_law_2041 (lfit2 hB (by decide) (by decide)) (fun H locs hd => ?_)
  refine lv_iload hx hb dL_law_2044 (lv_at hl 1 rfl) ?_
  refine lv_icmp_eq (tgt := 2051) hx hb dL_law_2046 (by decide) (fun _ => ?_) (fun q => absurd e3 q)
  refine lv_iload hx hb dL_law_2051 (lv_at hl 1 rfl) ?_
  refine lv_if_ne (tgt := 2068) hx hb dL_law_2053 (by decide) (fun _ => ?_) (fun ck => ?_)
  · refine lv_goto (tgt := 2278) hx hb dL_law_2068 (by decide) ?_
    exact hnext S2 H locs ls _ _ (by omega) (by omega) hd hR2 (lv_sbs hl (fun q hq => List.mem_cons_of_mem _ (List.mem_cons_of_mem _ hq)))
  · have e5 := e4 ck
    refine lv_aload_n hx hb dL_law_2056 rfl (lv_at hl 6 rfl) ?_
    refine lv_iconst hx hb dL_law_2057 rfl ?_
    refine R_lald C hd dL_law_2058 ?_
    refine lv_iload hx hb dL_law_2059 (lv_at hl 0 rfl) ?_
    refine lv_i2l hx hb dL_law_2061 rfl ?_
    refine W.lcmp hx hb dL_law_2062 ?_
    rw [show (S2 186 0).toInt64 = bb.toInt64 by rw [e5]; rfl, lcmp_eq]
    refine lv_if_eq (tgt := 2068) hx hb dL_law_2063 (by decide) (fun _ => ?_) (fun q => absurd rfl q)
    refine lv_goto (tgt := 2278) hx hb dL_law_2068 (by decide) ?_
    exact hnext S2 H locs ls _ _ (by omega) (by omega) hd hR2 (lv_sbs hl (fun q hq => List.mem_cons_of_mem _ (List.mem_cons_of_mem _ hq)))
set_option maxHeartbeats 4000000 in
set_option maxRecDepth 20000 in
theorem lc_forget (C : Cx p s m #[.ref b] meth c cL_law 7 RL G) (hst : l.stackTraces = false) (hX : va_X b L xs s s.heap) (hbl : b < s.heap.size) (hbA : ¬ Ab G b) (hi : 6 * i + 5 < L) (hL : L ≤ 3072) (hd : Dy G S s H locs) (hR : Rel S) (hl : lv_has ls 7 [(4, .int (nI (6 * i))), (0, .ref b), (1, .ref (gR G 0)), (2, .ref (gR G 142)), (3, .ref (gR G 186))]) (hB : cells + 20 ≤ 601024 ∧ slots + 120 ≤ 7293034) (hnext : ∀ (S : St) (H : Heap) (locs : List Loc) (ls : Array Slot) (k n : Nat), k ≤ cells + 20 → n ≤ slots + 120 → Dy G S s H locs → Rel S → lv_has ls 7 [(4, .int (nI (6 * i))), (0, .ref b), (1, .ref (gR G 0)), (2, .ref (gR G 142)), (3, .ref (gR G 186))] → W p l e room_1 s m #[.ref b] below meth c H locs k n Q (F0 m 2278 ls [])) : W p l e room_1 s m #[.ref b] below meth c H locs cells slots Q (F0 m 2071 ls []) := by
  have hx := C.1.1
  have hb := C.1.2.1
  obtain ⟨S1, S2, e1, e2, hR2⟩ := A_forget  S hR
  refine lv_aload_n hx hb dL_law_2071 rfl (lv_at hl 2 rfl) ?_
  refine R_cVv (rest := []) (As := []) C hd (ccX9_forget l G e1) kL_214 rfl (by decide) (rfl : kd 0 = 9) hl.1 ⟨by decide, by decide⟩ rfl rfl (Nat.le_of_ble_eq_true rfl) dL_law_2072 ⟨Nat.le_trans (Nat.le_add_right cells 20) hB.1, Nat.le_trans (Nat.le_add_right slots 120) hB.2⟩ (fun H locs hd => ?_)
  refine lv_aload_n hx hb dL_law_2075 rfl (lv_at hl 3 rfl) ?_
  refine R_cVv (rest := []) (As := []) C hd (ccX10_forget l G e2) kL_217 rfl (by decide) (rfl : kd 142 = 10) hl.1 ⟨by decide, by decide⟩ rfl rfl (Nat.le_of_ble_eq_true rfl) dL_law_2076 ⟨Nat.le_trans (Nat.le_add_right cells 20) hB.1, Nat.le_trans (Nat.le_add_right slots 120) hB.2⟩ (fun H locs hd => ?_)
  refine lv_goto (tgt := 2278) hx hb dL_law_2079 (by decide) ?_
  exact hnext S2 H locs ls _ _ (by omega) (by omega) hd hR2 hl
set_option maxHeartbeats 4000000 in
set_option maxRecDepth 20000 in
theorem lc_game (C : Cx p s m #[.ref b] meth c cL_law 7 RL G) (hst : l.stackTraces = false) (hX : va_X b L xs s s.heap) (hbl : b < s.heap.size) (hbA : ¬ Ab G b) (hi : 6 * i + 5 < L) (hL : L ≤ 3072) (hd : Dy G S s H locs) (hR : Rel S) (hl : lv_has ls 7 [(4, .int (nI (6 * i))), (0, .ref b), (1, .ref (gR G 0)), (2, .ref (gR G 142)), (3, .ref (gR G 186))]) (hB : cells + 20 ≤ 601024 ∧ slots + 120 ≤ 7293034) (hnext : ∀ (S : St) (H : Heap) (locs : List Loc) (ls : Array Slot) (k n : Nat), k ≤ cells + 20 → n ≤ slots + 120 → Dy G S s H locs → Rel S → lv_has ls 7 [(4, .int (nI (6 * i))), (0, .ref b), (1, .ref (gR G 0)), (2, .ref (gR G 142)), (3, .ref (gR G 186))] → W p l e room_1 s m #[.ref b] below meth c H locs k n Q (F0 m 2278 ls [])) : W p l e room_1 s m #[.ref b] below meth c H locs cells slots Q (F0 m 2082 ls []) := by
  have hx := C.1.1
  have hb := C.1.2.1
  obtain ⟨k, S1, bb, S2, e1, e2, hR2, e3, e4⟩ := useC (A_game (xs (6 * i + 1)) (xs (6 * i + 2)) (xs (6 * i + 3)) (xs (6 * i + 4))) (some 1) (some 2) false (Or.inl rfl) (Or.inl rfl) (by decide) (fun _ _ _ h => n6_fX10_game rfl _ h) hR
  refine lv_aload_n hx hb dL_law_2082 rfl (lv_at hl 2 rfl) ?_
  refine R_scr (k := 1) C hd hX hbl hbA (lv_at hl 1 rfl) (lv_at hl 0 rfl) hi hL (by decide) rfl dL_law_2083 dL_law_2084 dL_law_2086 dL_law_2087 dL_law_2088 ?_
  refine R_scr (k := 2) C hd hX hbl hbA (lv_at hl 1 rfl) (lv_at hl 0 rfl) hi hL (by decide) rfl dL_law_2089 dL_law_2090 dL_law_2092 dL_law_2093 dL_law_2094 ?_
  refine R_scr (k := 3) C hd hX hbl hbA (lv_at hl 1 rfl) (lv_at hl 0 rfl) hi hL (by decide) rfl dL_law_2095 dL_law_2096 dL_law_2098 dL_law_2099 dL_law_2100 ?_
  refine R_scr (k := 4) C hd hX hbl hbA (lv_at hl 1 rfl) (lv_at hl 0 rfl) hi hL (by decide) rfl dL_law_2101 dL_law_2102 dL_law_2104 dL_law_2105 dL_law_2106 ?_
  refine lv_aload_n hx hb dL_law_2107 rfl (lv_at hl 4 rfl) ?_
  refine R_cHi (rest := []) (As := [.ref (gR G 0), .int (xs (6 * i + 1)), .int (xs (6 * i + 2)), .int (xs (6 * i + 3)), .int (xs (6 * i + 4)), .ref (gR G 186)]) C hd (ccL_game l G hst e1) kH_218 hl.1 ⟨by decide, by decide⟩ rfl rfl (Nat.le_of_ble_eq_true rfl) dL_law_2108 (lfit hB (by decide) (by decide)) (fun H locs hd => ?_)
  refine lv_istore hx hb dL_law_2111 hl (by decide) rfl (fun ls hl => ?_)
  refine lv_aload_n hx hb dL_law_2113 rfl (lv_at hl 4 rfl) ?_
  refine R_scr (k := 1) C hd hX hbl hbA (lv_at hl 2 rfl) (lv_at hl 1 rfl) hi hL (by decide) rfl dL_law_2114 dL_law_2115 dL_law_2117 dL_law_2118 dL_law_2119 ?_
  refine R_scr (k := 2) C hd hX hbl hbA (lv_at hl 2 rfl) (lv_at hl 1 rfl) hi hL (by decide) rfl dL_law_2120 dL_law_2121 dL_law_2123 dL_law_2124 dL_law_2125 ?_
  refine R_scr (k := 3) C hd hX hbl hbA (lv_at hl 2 rfl) (lv_at hl 1 rfl) hi hL (by decide) rfl dL_law_2126 dL_law_2127 dL_law_2129 dL_law_2130 dL_law_2131 ?_
  refine R_scr (k := 4) C hd hX hbl hbA (lv_at hl 2 rfl) (lv_at hl 1 rfl) hi hL (by decide) rfl dL_law_2132 dL_law_2133 dL_law_2135 dL_law_2136 dL_law_2137 ?_
  refine R_cVi (rest := []) (As := [.int (xs (6 * i + 1)), .int (xs (6 * i + 2)), .int (xs (6 * i + 3)), .int (xs (6 * i + 4))]) C hd (ccX10_game l G e2) kL_221 rfl (by decide) (rfl : kd 142 = 10) hl.1 ⟨by decide, by decide⟩ rfl rfl (Nat.le_of_ble_eq_true rfl) dL_law_2138 (lfit2 hB (by decide) (by decide)) (fun H locs hd => ?_)
  refine lv_istore hx hb dL_law_2141 hl (by decide) rfl (fun ls hl => ?_)
  refine lv_aload_n hx hb dL_law_2143 rfl (lv_at hl 5 rfl) ?_
  refine R_cVi (rest := []) (As := []) C hd (ccX10_thrown l G rfl) kL_117 rfl (by decide) (rfl : kd 142 = 10) hl.1 ⟨by decide, by decide⟩ rfl rfl (Nat.le_of_ble_eq_true rfl) dL_law_2144 (lfit2 hB (by decide) (by decide)) (fun H locs hd => ?_)
  refine lv_iload hx hb dL_law_2147 (lv_at hl 1 rfl) ?_
  refine lv_icmp_eq (tgt := 2154) hx hb dL_law_2149 (by decide) (fun _ => ?_) (fun q => absurd e3 q)
  refine lv_iload hx hb dL_law_2154 (lv_at hl 1 rfl) ?_
  refine lv_if_ne (tgt := 2171) hx hb dL_law_2156 (by decide) (fun _ => ?_) (fun ck => ?_)
  · refine lv_goto (tgt := 2278) hx hb dL_law_2171 (by decide) ?_
    exact hnext S2 H locs ls _ _ (by omega) (by omega) hd hR2 (lv_sbs hl (fun q hq => List.mem_cons_of_mem _ (List.mem_cons_of_mem _ hq)))
  · have e5 := e4 ck
    refine lv_aload_n hx hb dL_law_2159 rfl (lv_at hl 6 rfl) ?_
    refine lv_iconst hx hb dL_law_2160 rfl ?_
    refine R_lald C hd dL_law_2161 ?_
    refine lv_iload hx hb dL_law_2162 (lv_at hl 0 rfl) ?_
    refine lv_i2l hx hb dL_law_2164 rfl ?_
    refine W.lcmp hx hb dL_law_2165 ?_
    rw [show (S2 186 0).toInt64 = bb.toInt64 by rw [e5]; rfl, lcmp_eq]
    refine lv_if_eq (tgt := 2171) hx hb dL_law_2166 (by decide) (fun _ => ?_) (fun q => absurd rfl q)
    refine lv_goto (tgt := 2278) hx hb dL_law_2171 (by decide) ?_
    exact hnext S2 H locs ls _ _ (by omega) (by omega) hd hR2 (lv_sbs hl (fun q hq => List.mem_cons_of_mem _ (List.mem_cons_of_mem _ hq)))
end LC
