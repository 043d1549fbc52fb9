theorem dL_law_2174 : decode cL_law 2174 = .ok (.aload_n 1, 1) := by decide +kernel
theorem dL_law_2175 : decode cL_law 2175 = .ok (.aload_n 0, 1) := by decide +kernel
theorem dL_law_2176 : decode cL_law 2176 = .ok (.iload 4, 2) := by decide +kernel
theorem dL_law_2178 : decode cL_law 2178 = .ok (.iconst 1, 1) := by decide +kernel
theorem dL_law_2179 : decode cL_law 2179 = .ok (.iadd, 1) := by decide +kernel
theorem dL_law_2180 : decode cL_law 2180 = .ok (.iaload, 1) := by decide +kernel
theorem dL_law_2181 : decode cL_law 2181 = .ok (.aload_n 0, 1) := by decide +kernel
theorem dL_law_2182 : decode cL_law 2182 = .ok (.iload 4, 2) := by decide +kernel
theorem dL_law_2184 : decode cL_law 2184 = .ok (.iconst 2, 1) := by decide +kernel
theorem dL_law_2185 : decode cL_law 2185 = .ok (.iadd, 1) := by decide +kernel
theorem dL_law_2186 : decode cL_law 2186 = .ok (.iaload, 1) := by decide +kernel
theorem dL_law_2187 : decode cL_law 2187 = .ok (.aload_n 0, 1) := by decide +kernel
theorem dL_law_2188 : decode cL_law 2188 = .ok (.iload 4, 2) := by decide +kernel
theorem dL_law_2190 : decode cL_law 2190 = .ok (.iconst 3, 1) := by decide +kernel
theorem dL_law_2191 : decode cL_law 2191 = .ok (.iadd, 1) := by decide +kernel
theorem dL_law_2192 : decode cL_law 2192 = .ok (.iaload, 1) := by decide +kernel
theorem dL_law_2193 : decode cL_law 2193 = .ok (.aload_n 3, 1) := by decide +kernel
theorem dL_law_2194 : decode cL_law 2194 = .ok (.invokestatic 222, 3) := by decide +kernel
theorem dL_law_2197 : decode cL_law 2197 = .ok (.istore 5, 2) := by decide +kernel
theorem dL_law_2199 : decode cL_law 2199 = .ok (.aload_n 2, 1) := by decide +kernel
theorem dL_law_2200 : decode cL_law 2200 = .ok (.aload_n 0, 1) := by decide +kernel
theorem dL_law_2201 : decode cL_law 2201 = .ok (.iload 4, 2) := by decide +kernel
theorem dL_law_2203 : decode cL_law 2203 = .ok (.iconst 1, 1) := by decide +kernel
theorem dL_law_2204 : decode cL_law 2204 = .ok (.iadd, 1) := by decide +kernel
theorem dL_law_2205 : decode cL_law 2205 = .ok (.iaload, 1) := by decide +kernel
theorem dL_law_2206 : decode cL_law 2206 = .ok (.aload_n 0, 1) := by decide +kernel
theorem dL_law_2207 : decode cL_law 2207 = .ok (.iload 4, 2) := by decide +kernel
theorem dL_law_2209 : decode cL_law 2209 = .ok (.iconst 2, 1) := by decide +kernel
theorem dL_law_2210 : decode cL_law 2210 = .ok (.iadd, 1) := by decide +kernel
theorem dL_law_2211 : decode cL_law 2211 = .ok (.iaload, 1) := by decide +kernel
theorem dL_law_2212 : decode cL_law 2212 = .ok (.aload_n 0, 1) := by decide +kernel
theorem dL_law_2213 : decode cL_law 2213 = .ok (.iload 4, 2) := by decide +kernel
theorem dL_law_2215 : decode cL_law 2215 = .ok (.iconst 3, 1) := by decide +kernel
theorem dL_law_2216 : decode cL_law 2216 = .ok (.iadd, 1) := by decide +kernel
theorem dL_law_2217 : decode cL_law 2217 = .ok (.iaload, 1) := by decide +kernel
theorem dL_law_2218 : decode cL_law 2218 = .ok (.invokevirtual 224, 3) := by decide +kernel
theorem dL_law_2221 : decode cL_law 2221 = .ok (.istore 6, 2) := by decide +kernel
theorem dL_law_2223 : decode cL_law 2223 = .ok (.aload_n 2, 1) := by decide +kernel
theorem dL_law_2224 : decode cL_law 2224 = .ok (.invokevirtual 117, 3) := by decide +kernel
theorem dL_law_2227 : decode cL_law 2227 = .ok (.iload 5, 2) := by decide +kernel
theorem dL_law_2229 : decode cL_law 2229 = .ok (.if_icmp .eq 5, 3) := by decide +kernel
theorem dL_law_2232 : decode cL_law 2232 = .ok (.iconst 0, 1) := by decide +kernel
theorem dL_law_2233 : decode cL_law 2233 = .ok (.ireturn, 1) := by decide +kernel
theorem dL_law_2234 : decode cL_law 2234 = .ok (.iload 5, 2) := by decide +kernel
theorem dL_law_2236 : decode cL_law 2236 = .ok (.ifCond .ne 15, 3) := by decide +kernel
theorem dL_law_2239 : decode cL_law 2239 = .ok (.aload_n 3, 1) := by decide +kernel
theorem dL_law_2240 : decode cL_law 2240 = .ok (.iconst 0, 1) := by decide +kernel
theorem dL_law_2241 : decode cL_law 2241 = .ok (.laload, 1) := by decide +kernel
theorem dL_law_2242 : decode cL_law 2242 = .ok (.iload 6, 2) := by decide +kernel
theorem dL_law_2244 : decode cL_law 2244 = .ok (.i2l, 1) := by decide +kernel
theorem dL_law_2245 : decode cL_law 2245 = .ok (.lcmp, 1) := by decide +kernel
theorem dL_law_2246 : decode cL_law 2246 = .ok (.ifCond .eq 5, 3) := by decide +kernel
theorem dL_law_2249 : decode cL_law 2249 = .ok (.iconst 0, 1) := by decide +kernel
theorem dL_law_2250 : decode cL_law 2250 = .ok (.ireturn, 1) := by decide +kernel
theorem dL_law_2251 : decode cL_law 2251 = .ok (.goto 27, 3) := by decide +kernel
theorem kH_222 : CH RL 222 yL_larks cL_larks 6 (some .int) [(0, 12, 15, 18), (0, 12, 19, 13)] 5 := ⟨wsH_gt wd1141 wd1142 wd0 wd1143, by decide +kernel⟩
theorem kL_224 : CV RL 224 RX10 yX10_larks cX10_larks 9 (some .int) 3 := ⟨wsV_gt wd1789 wd1790 wd1791 wd11 wd1792, by decide +kernel⟩
theorem dL_law_2254 : decode cL_law 2254 = .ok (.aload_n 1, 1) := by decide +kernel
theorem dL_law_2255 : decode cL_law 2255 = .ok (.invokevirtual 225, 3) := by decide +kernel
theorem dL_law_2258 : decode cL_law 2258 = .ok (.aload_n 2, 1) := by decide +kernel
theorem dL_law_2259 : decode cL_law 2259 = .ok (.invokevirtual 228, 3) := by decide +kernel
theorem dL_law_2262 : decode cL_law 2262 = .ok (.goto 16, 3) := by decide +kernel
theorem kL_225 : CV RL 225 RX9 yX9_image cX9_image 1 none 0 := ⟨wsV_gt wd501 wd502 wd503 wd1 wd504, by decide +kernel⟩
theorem kL_228 : CV RL 228 RX10 yX10_image cX10_image 1 none 0 := ⟨wsV_gt wd1802 wd1803 wd1804 wd11 wd1805, by decide +kernel⟩
theorem dL_law_2265 : decode cL_law 2265 = .ok (.aload_n 1, 1) := by decide +kernel
theorem dL_law_2266 : decode cL_law 2266 = .ok (.invokevirtual 229, 3) := by decide +kernel
theorem dL_law_2269 : decode cL_law 2269 = .ok (.aload_n 2, 1) := by decide +kernel
theorem dL_law_2270 : decode cL_law 2270 = .ok (.invokevirtual 233, 3) := by decide +kernel
theorem dL_law_2273 : decode cL_law 2273 = .ok (.if_icmp .eq 5, 3) := by decide +kernel
theorem dL_law_2276 : decode cL_law 2276 = .ok (.iconst 0, 1) := by decide +kernel
theorem dL_law_2277 : decode cL_law 2277 = .ok (.ireturn, 1) := by decide +kernel
theorem kL_229 : CV RL 229 RX9 yX9_restore cX9_restore 1 (some .boolean) 0 := ⟨wsV_gt wd509 wd510 wd511 wd1 wd512, by decide +kernel⟩
theorem kL_233 : CV RL 233 RX10 yX10_restore cX10_restore 1 (some .boolean) 0 := ⟨wsV_gt wd1809 wd1810 wd1811 wd11 wd1812, by decide +kernel⟩
section LC
variable {p : Program} {l : Launch} {e : Env} {s : State} {m : MethodId} {below : List Frame} {meth : Method} {c : Code} {G : Gt} {Q : State → Prop} {b L i : Nat} {xs : Nat → Int32} {S : St} {H : Heap} {locs : List Loc} {ls : Array Slot} {cells slots : Nat}
set_option maxHeartbeats 4000000 in
set_option maxRecDepth 20000 in
theorem lc_larks (C : Cx p s m #[.ref b] meth c cL_law 7 RL G) (hst : l.stackTraces = false) (hX : va_X b L xs s s.heap) (hbl : b < s.heap.size) (hbA : ¬ Ab G b) (hi : 6 * i + 5 < L) (hL : L ≤ 3072) (hd : Dy G S s H locs) (hR : Rel S) (hl : lv_has ls 7 [(4, .int (nI (6 * i))), (0, .ref b), (1, .ref (gR G 0)), (2, .ref (gR G 142)), (3, .ref (gR G 186))]) (hB : cells + 20 ≤ 601024 ∧ slots + 120 ≤ 7293034) (hnext : ∀ (S : St) (H : Heap) (locs : List Loc) (ls : Array Slot) (k n : Nat), k ≤ cells + 20 → n ≤ slots + 120 → Dy G S s H locs → Rel S → lv_has ls 7 [(4, .int (nI (6 * i))), (0, .ref b), (1, .ref (gR G 0)), (2, .ref (gR G 142)), (3, .ref (gR G 186))] → W p l e room_1 s m #[.ref b] below meth c H locs k n Q (F0 m 2278 ls [])) : W p l e room_1 s m #[.ref b] below meth c H locs cells slots Q (F0 m 2174 ls []) := by
  have hx := C.1.1
  have hb := C.1.2.1
  obtain ⟨k, S1, bb, S2, e1, e2, hR2, e3, e4⟩ := useC (A_larks (xs (6 * i + 1)) (xs (6 * i + 2)) (xs (6 * i + 3))) (some 1) (some 2) false (Or.inl rfl) (Or.inl rfl) (by decide) (fun _ _ _ h => n6_fX10_larks rfl _ h) hR
  refine lv_aload_n hx hb dL_law_2174 rfl (lv_at hl 2 rfl) ?_
  refine R_scr (k := 1) C hd hX hbl hbA (lv_at hl 1 rfl) (lv_at hl 0 rfl) hi hL (by decide) rfl dL_law_2175 dL_law_2176 dL_law_2178 dL_law_2179 dL_law_2180 ?_
  refine R_scr (k := 2) C hd hX hbl hbA (lv_at hl 1 rfl) (lv_at hl 0 rfl) hi hL (by decide) rfl dL_law_2181 dL_law_2182 dL_law_2184 dL_law_2185 dL_law_2186 ?_
  refine R_scr (k := 3) C hd hX hbl hbA (lv_at hl 1 rfl) (lv_at hl 0 rfl) hi hL (by decide) rfl dL_law_2187 dL_law_2188 dL_law_2190 dL_law_2191 dL_law_2192 ?_
  refine lv_aload_n hx hb dL_law_2193 rfl (lv_at hl 4 rfl) ?_
  refine R_cHi (rest := []) (As := [.ref (gR G 0), .int (xs (6 * i + 1)), .int (xs (6 * i + 2)), .int (xs (6 * i + 3)), .ref (gR G 186)]) C hd (ccL_larks l G hst e1) kH_222 hl.1 ⟨by decide, by decide⟩ rfl rfl (Nat.le_of_ble_eq_true rfl) dL_law_2194 (lfit hB (by decide) (by decide)) (fun H locs hd => ?_)
  refine lv_istore hx hb dL_law_2197 hl (by decide) rfl (fun ls hl => ?_)
  refine lv_aload_n hx hb dL_law_2199 rfl (lv_at hl 4 rfl) ?_
  refine R_scr (k := 1) C hd hX hbl hbA (lv_at hl 2 rfl) (lv_at hl 1 rfl) hi hL (by decide) rfl dL_law_2200 dL_law_2201 dL_law_2203 dL_law_2204 dL_law_2205 ?_
  refine R_scr (k := 2) C hd hX hbl hbA (lv_at hl 2 rfl) (lv_at hl 1 rfl) hi hL (by decide) rfl dL_law_2206 dL_law_2207 dL_law_2209 dL_law_2210 dL_law_2211 ?_
  refine R_scr (k := 3) C hd hX hbl hbA (lv_at hl 2 rfl) (lv_at hl 1 rfl) hi hL (by decide) rfl dL_law_2212 dL_law_2213 dL_law_2215 dL_law_2216 dL_law_2217 ?_
  refine R_cVi (rest := []) (As := [.int (xs (6 * i + 1)), .int (xs (6 * i + 2)), .int (xs (6 * i + 3))]) C hd (ccX10_larks l G e2) kL_224 rfl (by decide) (rfl : kd 142 = 10) hl.1 ⟨by decide, by decide⟩ rfl rfl (Nat.le_of_ble_eq_true rfl) dL_law_2218 (lfit2 hB (by decide) (by decide)) (fun H locs hd => ?_)
  refine lv_istore hx hb dL_law_2221 hl (by decide) rfl (fun ls hl => ?_)
  refine lv_aload_n hx hb dL_law_2223 rfl (lv_at hl 5 rfl) ?_
  refine R_cVi (rest := []) (As := []) C hd (ccX10_thrown l G rfl) kL_117 rfl (by decide) (rfl : kd 142 = 10) hl.1 ⟨by decide, by decide⟩ rfl rfl (Nat.le_of_ble_eq_true rfl) dL_law_2224 (lfit2 hB (by decide) (by decide)) (fun H locs hd => ?_)
  refine lv_iload hx hb dL_law_2227 (lv_at hl 1 rfl) ?_
  refine lv_icmp_eq (tgt := 2234) hx hb dL_law_2229 (by decide) (fun _ => ?_) (fun q => absurd e3 q)
  refine lv_iload hx hb dL_law_2234 (lv_at hl 1 rfl) ?_
  refine lv_if_ne (tgt := 2251) hx hb dL_law_2236 (by decide) (fun _ => ?_) (fun ck => ?_)
  · refine lv_goto (tgt := 2278) hx hb dL_law_2251 (by decide) ?_
    exact hnext S2 H locs ls _ _ (by omega) (by omega) hd hR2 (lv_sbs hl (fun q hq => List.mem_cons_of_mem _ (List.mem_cons_of_mem _ hq)))
  · have e5 := e4 ck
    refine lv_aload_n hx hb dL_law_2239 rfl (lv_at hl 6 rfl) ?_
    refine lv_iconst hx hb dL_law_2240 rfl ?_
    refine R_lald C hd dL_law_2241 ?_
    refine lv_iload hx hb dL_law_2242 (lv_at hl 0 rfl) ?_
    refine lv_i2l hx hb dL_law_2244 rfl ?_
    refine W.lcmp hx hb dL_law_2245 ?_
    rw [show (S2 186 0).toInt64 = bb.toInt64 by rw [e5]; rfl, lcmp_eq]
    refine lv_if_eq (tgt := 2251) hx hb dL_law_2246 (by decide) (fun _ => ?_) (fun q => absurd rfl q)
    refine lv_goto (tgt := 2278) hx hb dL_law_2251 (by decide) ?_
    exact hnext S2 H locs ls _ _ (by omega) (by omega) hd hR2 (lv_sbs hl (fun q hq => List.mem_cons_of_mem _ (List.mem_cons_of_mem _ hq)))
set_option maxHeartbeats 4000000 in
set_option maxRecDepth 20000 in
theorem lc_image (C : Cx p s m #[.ref b] meth c cL_law 7 RL G) (hst : l.stackTraces = false) (hX : va_X b L xs s s.heap) (hbl : b < s.heap.size) (hbA : ¬ Ab G b) (hi : 6 * i + 5 < L) (hL : L ≤ 3072) (hd : Dy G S s H locs) (hR : Rel S) (hl : lv_has ls 7 [(4, .int (nI (6 * i))), (0, .ref b), (1, .ref (gR G 0)), (2, .ref (gR G 142)), (3, .ref (gR G 186))]) (hB : cells + 20 ≤ 601024 ∧ slots + 120 ≤ 7293034) (hnext : ∀ (S : St) (H : Heap) (locs : List Loc) (ls : Array Slot) (k n : Nat), k ≤ cells + 20 → n ≤ slots + 120 → Dy G S s H locs → Rel S → lv_has ls 7 [(4, .int (nI (6 * i))), (0, .ref b), (1, .ref (gR G 0)), (2, .ref (gR G 142)), (3, .ref (gR G 186))] → W p l e room_1 s m #[.ref b] below meth c H locs k n Q (F0 m 2278 ls [])) : W p l e room_1 s m #[.ref b] below meth c H locs cells slots Q (F0 m 2254 ls []) := by
  have hx := C.1.1
  have hb := C.1.2.1
  obtain ⟨S1, S2, e1, e2, hR2⟩ := A_image  S hR
  refine lv_aload_n hx hb dL_law_2254 rfl (lv_at hl 2 rfl) ?_
  refine R_cVv (rest := []) (As := []) C hd (ccX9_image l G e1) kL_225 rfl (by decide) (rfl : kd 0 = 9) hl.1 ⟨by decide, by decide⟩ rfl rfl (Nat.le_of_ble_eq_true rfl) dL_law_2255 ⟨Nat.le_trans (Nat.le_add_right cells 20) hB.1, Nat.le_trans (Nat.le_add_right slots 120) hB.2⟩ (fun H locs hd => ?_)
  refine lv_aload_n hx hb dL_law_2258 rfl (lv_at hl 3 rfl) ?_
  refine R_cVv (rest := []) (As := []) C hd (ccX10_image l G e2) kL_228 rfl (by decide) (rfl : kd 142 = 10) hl.1 ⟨by decide, by decide⟩ rfl rfl (Nat.le_of_ble_eq_true rfl) dL_law_2259 ⟨Nat.le_trans (Nat.le_add_right cells 20) hB.1, Nat.le_trans (Nat.le_add_right slots 120) hB.2⟩ (fun H locs hd => ?_)
  refine lv_goto (tgt := 2278) hx hb dL_law_2262 (by decide) ?_
  exact hnext S2 H locs ls _ _ (by omega) (by omega) hd hR2 hl
set_option maxHeartbeats 4000000 in
set_option maxRecDepth 20000 in
theorem lc_restore (C : Cx p s m #[.ref b] meth c cL_law 7 RL G) (hst : l.stackTraces = false) (hX : va_X b L xs s s.heap) (hbl : b < s.heap.size) (hbA : ¬ Ab G b) (hi : 6 * i + 5 < L) (hL : L ≤ 3072) (hd : Dy G S s H locs) (hR : Rel S) (hl : lv_has ls 7 [(4, .int (nI (6 * i))), (0, .ref b), (1, .ref (gR G 0)), (2, .ref (gR G 142)), (3, .ref (gR G 186))]) (hB : cells + 20 ≤ 601024 ∧ slots + 120 ≤ 7293034) (hnext : ∀ (S : St) (H : Heap) (locs : List Loc) (ls : Array Slot) (k n : Nat), k ≤ cells + 20 → n ≤ slots + 120 → Dy G S s H locs → Rel S → lv_has ls 7 [(4, .int (nI (6 * i))), (0, .ref b), (1, .ref (gR G 0)), (2, .ref (gR G 142)), (3, .ref (gR G 186))] → W p l e room_1 s m #[.ref b] below meth c H locs k n Q (F0 m 2278 ls [])) : W p l e room_1 s m #[.ref b] below meth c H locs cells slots Q (F0 m 2265 ls []) := by
  have hx := C.1.1
  have hb := C.1.2.1
  obtain ⟨r, S1, S2, e1, e2, hR2⟩ := A_restore  S hR
  refine lv_aload_n hx hb dL_law_2265 rfl (lv_at hl 2 rfl) ?_
  refine R_cVi (rest := []) (As := []) C hd (ccX9_restore l G e1) kL_229 rfl (by decide) (rfl : kd 0 = 9) hl.1 ⟨by decide, by decide⟩ rfl rfl (Nat.le_of_ble_eq_true rfl) dL_law_2266 ⟨Nat.le_trans (Nat.le_add_right cells 20) hB.1, Nat.le_trans (Nat.le_add_right slots 120) hB.2⟩ (fun H locs hd => ?_)
  refine lv_aload_n hx hb dL_law_2269 rfl (lv_at hl 3 rfl) ?_
  refine R_cVi (rest := [.int r]) (As := []) C hd (ccX10_restore l G e2) kL_233 rfl (by decide) (rfl : kd 142 = 10) hl.1 ⟨by decide, by decide⟩ rfl rfl (Nat.le_of_ble_eq_true rfl) dL_law_2270 ⟨Nat.le_trans (Nat.le_add_right cells 20) hB.1, Nat.le_trans (Nat.le_add_right slots 120) hB.2⟩ (fun H locs hd => ?_)
  refine lv_icmp_eq (tgt := 2278) hx hb dL_law_2273 (by decide) (fun _ => ?_) (fun q => absurd rfl q)
  exact hnext S2 H locs ls _ _ (by omega) (by omega) hd hR2 hl
end LC
