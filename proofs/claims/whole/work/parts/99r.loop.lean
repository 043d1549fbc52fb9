theorem dL_law_20 : decode cL_law 20 = .ok (.iconst 0, 1) := by decide +kernel
theorem dL_law_21 : decode cL_law 21 = .ok (.istore 4, 2) := by decide +kernel
theorem dL_law_23 : decode cL_law 23 = .ok (.iload 4, 2) := by decide +kernel
theorem dL_law_25 : decode cL_law 25 = .ok (.aload_n 0, 1) := by decide +kernel
theorem dL_law_26 : decode cL_law 26 = .ok (.arraylength, 1) := by decide +kernel
theorem dL_law_27 : decode cL_law 27 = .ok (.bipush 6, 2) := by decide +kernel
theorem dL_law_29 : decode cL_law 29 = .ok (.isub, 1) := by decide +kernel
theorem dL_law_30 : decode cL_law 30 = .ok (.if_icmp .gt 2254, 3) := by decide +kernel
theorem dL_law_33 : decode cL_law 33 = .ok (.aload_n 0, 1) := by decide +kernel
theorem dL_law_34 : decode cL_law 34 = .ok (.iload 4, 2) := by decide +kernel
theorem dL_law_36 : decode cL_law 36 = .ok (.iaload, 1) := by decide +kernel
theorem dL_law_37 : decode cL_law 37 = .ok (.bipush 63, 2) := by decide +kernel
theorem dL_law_39 : decode cL_law 39 = .ok (.iand, 1) := by decide +kernel
theorem dL_law_40 : decode cL_law 40 = .ok (.tableswitch 2238 0 35 #[160, 233, 289, 302, 358, 426, 494, 562, 630, 698, 723, 798, 878, 958, 1033, 1046, 1114, 1182, 1250, 1330, 1386, 1442, 1522, 1590, 1603, 1671, 1727, 1783, 1839, 1919, 1975, 2031, 2042, 2134, 2214, 2225], 160) := by decide +kernel
theorem dL_law_2278 : decode cL_law 2278 = .ok (.iinc 4 6, 3) := by decide +kernel
theorem dL_law_2281 : decode cL_law 2281 = .ok (.goto (-2258), 3) := by decide +kernel
theorem dL_law_2284 : decode cL_law 2284 = .ok (.iconst 1, 1) := by decide +kernel
theorem dL_law_2285 : decode cL_law 2285 = .ok (.ireturn, 1) := by decide +kernel
section LP
variable {p : Program} {l : Launch} {e : Env} {s : State} {m : MethodId} {below : List Frame} {meth : Method} {c : Code} {G : Gt} {Q : State → Prop} {b L : Nat} {xs : Nat → Int32}
set_option maxHeartbeats 4000000 in
set_option maxRecDepth 20000 in
theorem law_sw (C : Cx p s m #[.ref b] meth c cL_law 7 RL G) (hst : l.stackTraces = false) (hX : va_X b L xs s s.heap) (hbl : b < s.heap.size) (hbA : ¬ Ab G b) (hL : L ≤ 3072) {i : Nat} {S : St} {H : Heap} {locs : List Loc} {ls : Array Slot} {cells slots : Nat} (hi : 6 * i + 5 < L) (hd : Dy G S s H locs) (hR : Rel S) (hl : lv_has ls 7 [(4, .int (nI (6 * i))), (0, .ref b), (1, .ref (gR G 0)), (2, .ref (gR G 142)), (3, .ref (gR G 186))]) (hB : cells + 20 ≤ 601024 ∧ slots + 120 ≤ 7293034) (hnext : ∀ (S : St) (H : Heap) (locs : List Loc) (ls : Array Slot) (k n : Nat), k ≤ cells + 20 → n ≤ slots + 120 → Dy G S s H locs → Rel S → lv_has ls 7 [(4, .int (nI (6 * i))), (0, .ref b), (1, .ref (gR G 0)), (2, .ref (gR G 142)), (3, .ref (gR G 186))] → W p l e room_1 s m #[.ref b] below meth c H locs k n Q (F0 m 2278 ls [])) {x : Int32} : W p l e room_1 s m #[.ref b] below meth c H locs cells slots Q (F0 m 40 ls [.int x]) := by
  have hx := C.1.1
  have hb := C.1.2.1
  by_cases c0 : x = 0
  · refine lv_tableIn (tgt := 200) hx hb dL_law_40 (by rw [c0]; decide) (by rw [c0]; decide) (by rw [c0] <;> rfl) (by decide) ?_
    exact lc_feed C hst hX hbl hbA hi hL hd hR hl hB hnext
  by_cases c1 : x = 1
  · refine lv_tableIn (tgt := 273) hx hb dL_law_40 (by rw [c1]; decide) (by rw [c1]; decide) (by rw [c1] <;> rfl) (by decide) ?_
    exact lc_valley C hst hX hbl hbA hi hL hd hR hl hB hnext
  by_cases c2 : x = 2
  · refine lv_tableIn (tgt := 329) hx hb dL_law_40 (by rw [c2]; decide) (by rw [c2]; decide) (by rw [c2] <;> rfl) (by decide) ?_
    exact lc_fault C hst hX hbl hbA hi hL hd hR hl hB hnext
  by_cases c3 : x = 3
  · refine lv_tableIn (tgt := 342) hx hb dL_law_40 (by rw [c3]; decide) (by rw [c3]; decide) (by rw [c3] <;> rfl) (by decide) ?_
    exact lc_count C hst hX hbl hbA hi hL hd hR hl hB hnext
  by_cases c4 : x = 4
  · refine lv_tableIn (tgt := 398) hx hb dL_law_40 (by rw [c4]; decide) (by rw [c4]; decide) (by rw [c4] <;> rfl) (by decide) ?_
    exact lc_field C hst hX hbl hbA hi hL hd hR hl hB hnext
  by_cases c5 : x = 5
  · refine lv_tableIn (tgt := 466) hx hb dL_law_40 (by rw [c5]; decide) (by rw [c5]; decide) (by rw [c5] <;> rfl) (by decide) ?_
    exact lc_note C hst hX hbl hbA hi hL hd hR hl hB hnext
  by_cases c6 : x = 6
  · refine lv_tableIn (tgt := 534) hx hb dL_law_40 (by rw [c6]; decide) (by rw [c6]; decide) (by rw [c6] <;> rfl) (by decide) ?_
    exact lc_singer C hst hX hbl hbA hi hL hd hR hl hB hnext
  by_cases c7 : x = 7
  · refine lv_tableIn (tgt := 602) hx hb dL_law_40 (by rw [c7]; decide) (by rw [c7]; decide) (by rw [c7] <;> rfl) (by decide) ?_
    exact lc_way C hst hX hbl hbA hi hL hd hR hl hB hnext
  by_cases c8 : x = 8
  · refine lv_tableIn (tgt := 670) hx hb dL_law_40 (by rw [c8]; decide) (by rw [c8]; decide) (by rw [c8] <;> rfl) (by decide) ?_
    exact lc_earth C hst hX hbl hbA hi hL hd hR hl hB hnext
  by_cases c9 : x = 9
  · refine lv_tableIn (tgt := 738) hx hb dL_law_40 (by rw [c9]; decide) (by rw [c9]; decide) (by rw [c9] <;> rfl) (by decide) ?_
    exact lc_hours C hst hX hbl hbA hi hL hd hR hl hB hnext
  by_cases c10 : x = 10
  · refine lv_tableIn (tgt := 763) hx hb dL_law_40 (by rw [c10]; decide) (by rw [c10]; decide) (by rw [c10] <;> rfl) (by decide) ?_
    exact lc_teach C hst hX hbl hbA hi hL hd hR hl hB hnext
  by_cases c11 : x = 11
  · refine lv_tableIn (tgt := 838) hx hb dL_law_40 (by rw [c11]; decide) (by rw [c11]; decide) (by rw [c11] <;> rfl) (by decide) ?_
    exact lc_load C hst hX hbl hbA hi hL hd hR hl hB hnext
  by_cases c12 : x = 12
  · refine lv_tableIn (tgt := 918) hx hb dL_law_40 (by rw [c12]; decide) (by rw [c12]; decide) (by rw [c12] <;> rfl) (by decide) ?_
    exact lc_change C hst hX hbl hbA hi hL hd hR hl hB hnext
  by_cases c13 : x = 13
  · refine lv_tableIn (tgt := 998) hx hb dL_law_40 (by rw [c13]; decide) (by rw [c13]; decide) (by rw [c13] <;> rfl) (by decide) ?_
    exact lc_sell C hst hX hbl hbA hi hL hd hR hl hB hnext
  by_cases c14 : x = 14
  · refine lv_tableIn (tgt := 1073) hx hb dL_law_40 (by rw [c14]; decide) (by rw [c14]; decide) (by rw [c14] <;> rfl) (by decide) ?_
    exact lc_undo C hst hX hbl hbA hi hL hd hR hl hB hnext
  by_cases c15 : x = 15
  · refine lv_tableIn (tgt := 1086) hx hb dL_law_40 (by rw [c15]; decide) (by rw [c15]; decide) (by rw [c15] <;> rfl) (by decide) ?_
    exact lc_sung C hst hX hbl hbA hi hL hd hR hl hB hnext
  by_cases c16 : x = 16
  · refine lv_tableIn (tgt := 1154) hx hb dL_law_40 (by rw [c16]; decide) (by rw [c16]; decide) (by rw [c16] <;> rfl) (by decide) ?_
    exact lc_learnt C hst hX hbl hbA hi hL hd hR hl hB hnext
  by_cases c17 : x = 17
  · refine lv_tableIn (tgt := 1222) hx hb dL_law_40 (by rw [c17]; decide) (by rw [c17]; decide) (by rw [c17] <;> rfl) (by decide) ?_
    exact lc_purse C hst hX hbl hbA hi hL hd hR hl hB hnext
  by_cases c18 : x = 18
  · refine lv_tableIn (tgt := 1290) hx hb dL_law_40 (by rw [c18]; decide) (by rw [c18]; decide) (by rw [c18] <;> rfl) (by decide) ?_
    exact lc_trespasses C hst hX hbl hbA hi hL hd hR hl hB hnext
  by_cases c19 : x = 19
  · refine lv_tableIn (tgt := 1370) hx hb dL_law_40 (by rw [c19]; decide) (by rw [c19]; decide) (by rw [c19] <;> rfl) (by decide) ?_
    exact lc_allKnow C hst hX hbl hbA hi hL hd hR hl hB hnext
  by_cases c20 : x = 20
  · refine lv_tableIn (tgt := 1426) hx hb dL_law_40 (by rw [c20]; decide) (by rw [c20]; decide) (by rw [c20] <;> rfl) (by decide) ?_
    exact lc_lost C hst hX hbl hbA hi hL hd hR hl hB hnext
  by_cases c21 : x = 21
  · refine lv_tableIn (tgt := 1482) hx hb dL_law_40 (by rw [c21]; decide) (by rw [c21]; decide) (by rw [c21] <;> rfl) (by decide) ?_
    exact lc_needed C hst hX hbl hbA hi hL hd hR hl hB hnext
  by_cases c22 : x = 22
  · refine lv_tableIn (tgt := 1562) hx hb dL_law_40 (by rw [c22]; decide) (by rw [c22]; decide) (by rw [c22] <;> rfl) (by decide) ?_
    exact lc_common C hst hX hbl hbA hi hL hd hR hl hB hnext
  by_cases c23 : x = 23
  · refine lv_tableIn (tgt := 1630) hx hb dL_law_40 (by rw [c23]; decide) (by rw [c23]; decide) (by rw [c23] <;> rfl) (by decide) ?_
    exact lc_nearest C hst hX hbl hbA hi hL hd hR hl hB hnext
  by_cases c24 : x = 24
  · refine lv_tableIn (tgt := 1643) hx hb dL_law_40 (by rw [c24]; decide) (by rw [c24]; decide) (by rw [c24] <;> rfl) (by decide) ?_
    exact lc_far C hst hX hbl hbA hi hL hd hR hl hB hnext
  by_cases c25 : x = 25
  · refine lv_tableIn (tgt := 1711) hx hb dL_law_40 (by rw [c25]; decide) (by rw [c25]; decide) (by rw [c25] <;> rfl) (by decide) ?_
    exact lc_round C hst hX hbl hbA hi hL hd hR hl hB hnext
  by_cases c26 : x = 26
  · refine lv_tableIn (tgt := 1767) hx hb dL_law_40 (by rw [c26]; decide) (by rw [c26]; decide) (by rw [c26] <;> rfl) (by decide) ?_
    exact lc_wedding C hst hX hbl hbA hi hL hd hR hl hB hnext
  by_cases c27 : x = 27
  · refine lv_tableIn (tgt := 1823) hx hb dL_law_40 (by rw [c27]; decide) (by rw [c27]; decide) (by rw [c27] <;> rfl) (by decide) ?_
    exact lc_heirs C hst hX hbl hbA hi hL hd hR hl hB hnext
  by_cases c28 : x = 28
  · refine lv_tableIn (tgt := 1879) hx hb dL_law_40 (by rw [c28]; decide) (by rw [c28]; decide) (by rw [c28] <;> rfl) (by decide) ?_
    exact lc_hear C hst hX hbl hbA hi hL hd hR hl hB hnext
  by_cases c29 : x = 29
  · refine lv_tableIn (tgt := 1959) hx hb dL_law_40 (by rw [c29]; decide) (by rw [c29]; decide) (by rw [c29] <;> rfl) (by decide) ?_
    exact lc_otherwise C hst hX hbl hbA hi hL hd hR hl hB hnext
  by_cases c30 : x = 30
  · refine lv_tableIn (tgt := 2015) hx hb dL_law_40 (by rw [c30]; decide) (by rw [c30]; decide) (by rw [c30] <;> rfl) (by decide) ?_
    exact lc_listen C hst hX hbl hbA hi hL hd hR hl hB hnext
  by_cases c31 : x = 31
  · refine lv_tableIn (tgt := 2071) hx hb dL_law_40 (by rw [c31]; decide) (by rw [c31]; decide) (by rw [c31] <;> rfl) (by decide) ?_
    exact lc_forget C hst hX hbl hbA hi hL hd hR hl hB hnext
  by_cases c32 : x = 32
  · refine lv_tableIn (tgt := 2082) hx hb dL_law_40 (by rw [c32]; decide) (by rw [c32]; decide) (by rw [c32] <;> rfl) (by decide) ?_
    exact lc_game C hst hX hbl hbA hi hL hd hR hl hB hnext
  by_cases c33 : x = 33
  · refine lv_tableIn (tgt := 2174) hx hb dL_law_40 (by rw [c33]; decide) (by rw [c33]; decide) (by rw [c33] <;> rfl) (by decide) ?_
    exact lc_larks C hst hX hbl hbA hi hL hd hR hl hB hnext
  by_cases c34 : x = 34
  · refine lv_tableIn (tgt := 2254) hx hb dL_law_40 (by rw [c34]; decide) (by rw [c34]; decide) (by rw [c34] <;> rfl) (by decide) ?_
    exact lc_image C hst hX hbl hbA hi hL hd hR hl hB hnext
  by_cases c35 : x = 35
  · refine lv_tableIn (tgt := 2265) hx hb dL_law_40 (by rw [c35]; decide) (by rw [c35]; decide) (by rw [c35] <;> rfl) (by decide) ?_
    exact lc_restore C hst hX hbl hbA hi hL hd hR hl hB hnext
  refine R_tab (tgt := 2278) C dL_law_40 (by decide) [0, 1, 2, 3, 4, 5, 6, 7, 8, 9, 10, 11, 12, 13, 14, 15, 16, 17, 18, 19, 20, 21, 22, 23, 24, 25, 26, 27, 28, 29, 30, 31, 32, 33, 34, 35] (by decide) ?_ ?_
  · intro z hz
    simp only [List.mem_cons, List.not_mem_nil, or_false] at hz
    rcases hz with rfl | rfl | rfl | rfl | rfl | rfl | rfl | rfl | rfl | rfl | rfl | rfl | rfl | rfl | rfl | rfl | rfl | rfl | rfl | rfl | rfl | rfl | rfl | rfl | rfl | rfl | rfl | rfl | rfl | rfl | rfl | rfl | rfl | rfl | rfl | rfl <;> assumption
  · exact hnext S H locs ls _ _ (by omega) (by omega) hd hR hl
theorem l_exit {L i : Nat} (hL : L ≤ 3072) (hi : i ≤ 600) (h : ¬ nI L - 6 < nI (6 * i)) : 6 * i + 5 < L := by
  have h1 := pk_sub_toInt (a := L) (b := 6) (by omega) (by omega)
  have h2 := nI_toInt (n := 6 * i) (by omega)
  have h3 : nI L - nI 6 = nI L - 6 := rfl
  rw [h3] at h1
  rw [Int32.lt_iff_toInt_lt] at h
  omega
theorem l_stay {L i : Nat} (hL : L ≤ 3072) (hi : i ≤ 600) (h : L ≤ 6 * i + 5) : nI L - 6 < nI (6 * i) := by
  have h1 := pk_sub_toInt (a := L) (b := 6) (by omega) (by omega)
  have h2 := nI_toInt (n := 6 * i) (by omega)
  have h3 : nI L - nI 6 = nI L - 6 := rfl
  rw [h3] at h1
  rw [Int32.lt_iff_toInt_lt]
  omega
set_option maxHeartbeats 4000000 in
set_option maxRecDepth 20000 in
theorem law_loop (C : Cx p s m #[.ref b] meth c cL_law 7 RL G) (hst : l.stackTraces = false) (hX : va_X b L xs s s.heap) (hbl : b < s.heap.size) (hbA : ¬ Ab G b) (hL : L ≤ 3072) (hend : ∀ (S : St) (H : Heap) (locs : List Loc) (ls : Array Slot) (k n : Nat), k ≤ 601024 → n ≤ 7293034 → Dy G S s H locs → W p l e room_1 s m #[.ref b] below meth c H locs k n Q (F0 m 2284 ls [])) : ∀ (n i : Nat) (S : St) (H : Heap) (locs : List Loc) (ls : Array Slot) (cells slots : Nat), L ≤ 6 * i + 5 + 6 * n → i + n ≤ 600 → cells + 20 * n ≤ 601004 → slots + 120 * n ≤ 7292914 → Dy G S s H locs → Rel S → lv_has ls 7 [(4, .int (nI (6 * i))), (0, .ref b), (1, .ref (gR G 0)), (2, .ref (gR G 142)), (3, .ref (gR G 186))] → W p l e room_1 s m #[.ref b] below meth c H locs cells slots Q (F0 m 23 ls []) := by
  have hx := C.1.1
  have hb := C.1.2.1
  intro n
  induction n with
  | zero =>
    intro i S H locs ls cells slots h1 h2 h3 h4 hd hR hl
    refine lv_iload hx hb dL_law_23 (lv_at hl 0 rfl) ?_
    refine lv_aload_n hx hb dL_law_25 rfl (lv_at hl 1 rfl) ?_
    refine va_slen hx hb hX hbl hbA hd.2 dL_law_26 ?_
    refine lv_bipush (v := 6) hx hb dL_law_27 rfl ?_
    refine lv_isub hx hb dL_law_29 ?_
    refine lv_icmp_gt (tgt := 2284) hx hb dL_law_30 (by decide) (fun _ => ?_) (fun q => absurd (l_stay hL (by omega) (by omega)) q)
    exact hend S H locs ls _ _ (by omega) (by omega) hd
  | succ n ih =>
    intro i S H locs ls cells slots h1 h2 h3 h4 hd hR hl
    refine lv_iload hx hb dL_law_23 (lv_at hl 0 rfl) ?_
    refine lv_aload_n hx hb dL_law_25 rfl (lv_at hl 1 rfl) ?_
    refine va_slen hx hb hX hbl hbA hd.2 dL_law_26 ?_
    refine lv_bipush (v := 6) hx hb dL_law_27 rfl ?_
    refine lv_isub hx hb dL_law_29 ?_
    refine lv_icmp_gt (tgt := 2284) hx hb dL_law_30 (by decide) (fun _ => ?_) (fun q => ?_)
    · exact hend S H locs ls _ _ (by omega) (by omega) hd
    · have hi := l_exit hL (by omega) q
      refine lv_aload_n hx hb dL_law_33 rfl (lv_at hl 1 rfl) ?_
      refine lv_iload hx hb dL_law_34 (lv_at hl 0 rfl) ?_
      refine va_sld hx hb hX hbl hbA hd.2 (show ¬ (nI (6 * i) < 0 ∨ L ≤ (nI (6 * i)).toNatClampNeg) from ?_) dL_law_36 ?_
      · rw [nI_clamp (by omega)]
        rintro (q | q)
        · exact nI_pos (by omega) q
        · omega
      · refine lv_bipush (v := 63) hx hb dL_law_37 rfl ?_
        refine lv_iand hx hb dL_law_39 ?_
        refine law_sw C hst hX hbl hbA hL hi hd hR hl ⟨by omega, by omega⟩ (fun S H locs ls k j hk hj hd hR hl => ?_)
        refine lv_iinc (k := 0) (v := nI (6 * (i + 1))) hx hb dL_law_2278 hl rfl ?_ (by decide) rfl (fun ls hl => ?_)
        · show nI (6 * i) + nI 6 = nI (6 * (i + 1))
          rw [nI_add]
          exact congrArg nI (by omega)
        · refine lv_goto (tgt := 23) hx hb dL_law_2281 (by decide) ?_
          exact ih (i + 1) S H locs ls k j (by omega) (by omega) (by omega) (by omega) hd hR hl
end LP
