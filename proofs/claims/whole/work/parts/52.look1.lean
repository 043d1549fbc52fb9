theorem M_ahead {V : Vy} {v d n : Nat} {S : St} (h : Rl V v d S) (hn : n ≤ 60) : ∃ T1 T2 T3, fX10_pack 169 0 (up S 142 3 0) = some T1 ∧ fX10_goOn (nI n) T1 = some T2 ∧ fX10_unpack 169 0 T2 = some T3 ∧ rg V (mr T2) (hrs V (S 37) n) ∧ (∀ m, n = m + 1 → ∀ s, s < vS' V → T2 167 s = sgI V (hrs V (S 37) m) s) ∧ VM V T2 ∧ mK S T3 ∧ T3 142 3 = 0 ∧ T3 167 = T2 167 := by
  have hV := h.vk
  obtain ⟨T1, e1, e1', m1, m2, m3, m4, m5⟩ := M_lay h
  obtain ⟨T2, e2, g1, g2, g3⟩ := M_goOn m1 m3 hn (by omega) m4
  have g3' : mFr (row (up S 142 3 0) 169 (pkd (up S 142 3 0) 169 0)) T2 := by rw [← e1']; exact g3
  obtain ⟨T3, e3, b1, b2, b3⟩ := M_back g3'
  have ha : rg V (mr T1) (S 37) := by rw [m2]; exact h.rag.sm
  refine ⟨T1, T2, T3, e1, e2, e3, by rw [g1]; exact rg_hrs hV ha m3 n (by omega), fun m hm s hs => ?_, m1.fr g3, mK0.tr b1, ?_, b2 167 (by decide)⟩
  · rw [g2 m hm s hs, rg_sgI hV (rg_hrs hV ha m3 m (by omega)) (hrs_ok m3 hV m (by omega)).1 (by omega) hs]
  · rw [b3 3 (by decide) (by decide), g3.2 3 (by decide) (by decide), m5]
theorem m_fail {x : Int32} {S : St} : (bd (fX10_fail x (up S 142 3 0)) fun x1 S => ri x1 S) = some (0, up (up S 142 3 0) 142 3 x) := rfl
theorem A_purse (a1 a2 : Int32) : Agr 2 (fX9_purse a1 a2) (fX10_purse a1 a2) := by
  refine look (fun S V v d hR => ?_)
  have hV := hR.vk
  have hS6 := hV.2.1
  rcases arg a1 (n := vS' V) (by omega) with ⟨s, hs, rfl⟩ | h1
  · rcases arg2 a2 (lo := 0) (hi := 60) (by decide) (by decide) with ⟨n, -, hn, rfl⟩ | h2
    · refine ⟨.inl (hrs V (S 37) n (8 + s)), ?_, fun T hT => ?_⟩
      · obtain ⟨S1, S2, e1, e2, c1, c2, c3, c4, c5, c6⟩ := C_ahead (n := n) hR hn
        unfold fX9_purse
        rw [C_nS_t hR hs, bt_s, show (0 : Int32) = nI 0 from rfl, C_nH_t (by omega) hn, bt_s, gm_v hR.2.1 hR.hv, e1, bv_s, e2, bv_s]
        simp (disch := omega) only [bd_s, bv_s, bt_s, bt_x, vl_s, pf_s, ri_s, rz_0, rz_1, tri_s, trz_0, trz_1, trx_s, pz_0, pz_1, nI_add, pk_mul, up_at, la2, la5, la6, la8, la14, la62, la64, la98, la700, ra1, ra2, ra6, ra8, ra12, ra20, ra36, ra48, lm6, lm8, lm10, lm100, lm106, rm6, rm8, rm10, rm100, rm106, rd131, rd132, rd133, rd134, rd135, rd136, rd131_0, rd131_1, rd131_8]
        exact ok_some ⟨by rw [c1 _ (by omega)], c6.k⟩
      · have hT' := hR.c hT
        obtain ⟨T1, T2, T3, e1, e2, e3, c1, c2, c3, c4, c5, c6⟩ := M_ahead (n := n) hT' hn
        have e37 : T 37 = S 37 := hT 37 (by decide) (by decide) (by decide) (by decide) (by decide)
        unfold fX10_purse
        rw [pf_s, M_isS_t (hT'.M.go (fun a ha => up_ne (by omega))) hs, bd_s, if_neg (by decide), show (0 : Int64) = (nI 0).toInt64 from rfl, show (60 : Int64) = (nI 60).toInt64 from rfl, M_in_t (by omega) hn (by decide), bd_s, if_neg (by decide), e1, bv_s, e2, bv_s, rd159 (by omega), e3, bv_s]
        refine ok_some ⟨c4, c5, ?_⟩
        show T2 159 s = _
        rw [← mr_p (S := T2) (q := s) (by omega), c1 _ (rl_a (by omega) (by omega) (by omega)), e37]
    · refine ⟨.inr 2, ?_, fun T hT => ?_⟩
      · unfold fX9_purse
        rw [C_nS_t hR hs, bt_s, show (0 : Int32) = nI 0 from rfl, C_nH_f h2, bt_x]
        exact ok_some ⟨rfl, cK.rf⟩
      · have hT' := hR.c hT
        unfold fX10_purse
        rw [pf_s, M_isS_t (hT'.M.go (fun a ha => up_ne (by omega))) hs, bd_s, if_neg (by decide), show (0 : Int64) = (nI 0).toInt64 from rfl, show (60 : Int64) = (nI 60).toInt64 from rfl, M_in_f (by decide) h2 (by decide), bd_s, if_pos rfl, m_fail]
        exact ok_some ⟨mKx, Or.inr ⟨rfl, rfl⟩⟩
  · refine ⟨.inr 1, ?_, fun T hT => ?_⟩
    · unfold fX9_purse
      rw [C_nS_f hR h1, bt_x]
      exact ok_some ⟨rfl, cK.rf⟩
    · have hT' := hR.c hT
      unfold fX10_purse
      rw [pf_s, M_isS_f (hT'.M.go (fun a ha => up_ne (by omega))) h1, bd_s, if_pos rfl, m_fail]
      exact ok_some ⟨mKx, Or.inl ⟨rfl, rfl⟩⟩
theorem A_sung (a1 a2 : Int32) : Agr 2 (fX9_sung a1 a2) (fX10_sung a1 a2) := by
  refine look (fun S V v d hR => ?_)
  have hV := hR.vk
  have hS6 := hV.2.1
  rcases arg a1 (n := vS' V) (by omega) with ⟨s, hs, rfl⟩ | h1
  · rcases arg2 a2 (lo := 1) (hi := 60) (by decide) (by decide) with ⟨n, hn0, hn, rfl⟩ | h2
    · obtain ⟨m, rfl⟩ : ∃ m, n = m + 1 := ⟨n - 1, by omega⟩
      refine ⟨.inl (sgI V (hrs V (S 37) m) s), ?_, fun T hT => ?_⟩
      · obtain ⟨S1, S2, e1, e2, c1, c2, c3, c4, c5, c6⟩ := C_ahead (n := m + 1) hR hn
        unfold fX9_sung
        rw [C_nS_t hR hs, bt_s, show (1 : Int32) = nI 1 from rfl, C_nH_t (by omega) hn, bt_s, gm_v hR.2.1 hR.hv, e1, bv_s, e2, bv_s, rd133 (by omega)]
        exact ok_some ⟨by rw [(c2 m rfl s hs).2], c6.k⟩
      · have hT' := hR.c hT
        obtain ⟨T1, T2, T3, e1, e2, e3, c1, c2, c3, c4, c5, c6⟩ := M_ahead (n := m + 1) hT' hn
        have e37 : T 37 = S 37 := hT 37 (by decide) (by decide) (by decide) (by decide) (by decide)
        unfold fX10_sung
        rw [pf_s, M_isS_t (hT'.M.go (fun a ha => up_ne (by omega))) hs, bd_s, if_neg (by decide), show (1 : Int64) = (nI 1).toInt64 from rfl, show (60 : Int64) = (nI 60).toInt64 from rfl, M_in_t (by omega) hn (by decide), bd_s, if_neg (by decide), e1, bv_s, e2, bv_s, e3, bv_s, rd167 (by omega)]
        refine ok_some ⟨c4, c5, ?_⟩
        show T3 167 s = _
        rw [c6, c2 m rfl s hs, e37]
    · refine ⟨.inr 2, ?_, fun T hT => ?_⟩
      · unfold fX9_sung
        rw [C_nS_t hR hs, bt_s, show (1 : Int32) = nI 1 from rfl, C_nH_f h2, bt_x]
        exact ok_some ⟨rfl, cK.rf⟩
      · have hT' := hR.c hT
        unfold fX10_sung
        rw [pf_s, M_isS_t (hT'.M.go (fun a ha => up_ne (by omega))) hs, bd_s, if_neg (by decide), show (1 : Int64) = (nI 1).toInt64 from rfl, show (60 : Int64) = (nI 60).toInt64 from rfl, M_in_f (by decide) h2 (by decide), bd_s, if_pos rfl, m_fail]
        exact ok_some ⟨mKx, Or.inr ⟨rfl, rfl⟩⟩
  · refine ⟨.inr 1, ?_, fun T hT => ?_⟩
    · unfold fX9_sung
      rw [C_nS_f hR h1, bt_x]
      exact ok_some ⟨rfl, cK.rf⟩
    · have hT' := hR.c hT
      unfold fX10_sung
      rw [pf_s, M_isS_f (hT'.M.go (fun a ha => up_ne (by omega))) h1, bd_s, if_pos rfl, m_fail]
      exact ok_some ⟨mKx, Or.inl ⟨rfl, rfl⟩⟩
theorem cK.mr {S T : St} (h : cK S T) : mr T = mr S := mr_cell (fun a ha => h a (by omega) (by omega) (by omega) (by omega) (by omega))
theorem cK.at {S T : St} (h : cK S T) (a : Nat) (h1 : a < 130 ∨ (141 < a ∧ a < 186)) (h2 : a ≠ 14) (h3 : a ≠ 16) (h4 : a ≠ 29) (h5 : a ≠ 31) : T a = S a := h a h1 h2 h3 h4 h5
theorem le_sub1 {x : Int32} {w : Nat} (h : w ≤ 6) {n : Nat} (hn : n < w) : nI n ≤ nI w - 1 := by rw [sub1_lt (by omega)]; exact nI_lt hn (by omega)
theorem M_inW_t {w n : Nat} (h : w ≤ 6) (hn : n < w) (S : St) : fX10_isIn (nI n).toInt64 0 (nI w - 1).toInt64 S = some (1, S) := by
  rw [show (0 : Int64) = (0 : Int32).toInt64 from rfl, M_in, if_pos ⟨nI_pos' (by omega), by rw [sub1_lt (by omega)]; exact nI_lt hn (by omega)⟩]
theorem M_inW_f {w : Nat} {a : Int32} (h : w ≤ 6) (ha : a < 0 ∨ nI w ≤ a) (S : St) : fX10_isIn a.toInt64 0 (nI w - 1).toInt64 S = some (0, S) := by
  rw [show (0 : Int64) = (0 : Int32).toInt64 from rfl, M_in, if_neg]
  rintro ⟨q1, q2⟩
  rw [sub1_lt (by omega)] at q2
  exact nlt_of (by omega) ha (by rw [Int32.lt_iff_toInt_lt]; rw [Int32.le_iff_toInt_le] at q1; omega) q2
theorem A_way {nX : Int32} (a1 a2 : Int32) : Agr nX (fX9_way a1 a2) (fX10_way a1 a2) := by
  refine look (fun S V v d hR => ?_)
  have hV := hR.vk
  have hS6 := hV.2.1
  have hv := hR.hv
  rcases arg a1 (n := vS' V) (by omega) with ⟨s, hs, rfl⟩ | h1
  · obtain ⟨w0, w6⟩ := hV.2.2.1 s hs
    have ew := hR.C.2.2.2.2.1 s hs
    rcases arg a2 (n := vW V s) (by omega) with ⟨i, hi, rfl⟩ | h2
    · refine ⟨.inl (S 37 (62 + s * 6 + i)), ?_, fun T hT => ?_⟩
      · unfold fX9_way
        rw [C_nS_t hR hs, bt_s, if_neg (nI_pos (by omega)), gm_v hR.2.1 hv]
        simp (disch := omega) only [srv3, srv4, srv5, srv6, srv7, srv8, srv9, srv10, srv11, srv12, srv13, rdv1, rdv2, rdv3, rdv4, rdv5, rdv6, rdv7, rdv8, rdv9, rdv10, rdv12, rdv14, ew, nI_leE, nI_ltE, nI_eqE, nI_m1, c0a, c0b, c0c, c0d, c0e, c1a, c1b, c1c, c1d, c1e, c2a, c2b, c2c, c2d, c2e, c3a, c3b, c3c, c3d, c3e, c4a, c4b, c4c, c4d, c4e, c5a, c5b, c5c, c5d, c5e, c6a, c6b, c6c, c6d, c6e, c7a, c7b, c7c, c7d, c7e, c8a, c8b, c8c, c8d, c8e, c9a, c9b, c9c, c9d, c9e, c10a, c10b, c10c, c10d, c10e, c12a, c12b, c12c, c12d, c12e, c14a, c14b, c14c, c14d, c14e, c16a, c16b, c16c, c16d, c16e, c20a, c20b, c20c, c20d, c20e, c30a, c30b, c30c, c30d, c30e, c32a, c32b, c32c, c32d, c32e, c36a, c36b, c36c, c36d, c36e, c40a, c40b, c40c, c40d, c40e, c41a, c41b, c41c, c41d, c41e, c42a, c42b, c42c, c42d, c42e, c43a, c43b, c43c, c43d, c43e, c45a, c45b, c45c, c45d, c45e, c47a, c47b, c47c, c47d, c47e, c48a, c48b, c48c, c48d, c48e, c57a, c57b, c57c, c57d, c57e, c59a, c59b, c59c, c59d, c59e, c60a, c60b, c60c, c60d, c60e, c61a, c61b, c61c, c61d, c61e, c62a, c62b, c62c, c62d, c62e, c64a, c64b, c64c, c64d, c64e, c96a, c96b, c96c, c96d, c96e, c97a, c97b, c97c, c97d, c97e, c98a, c98b, c98c, c98d, c98e, c99a, c99b, c99c, c99d, c99e, c100a, c100b, c100c, c100d, c100e, c122a, c122b, c122c, c122d, c122e, c700a, c700b, c700c, c700d, c700e, c4240a, c4240b, c4240c, c4240d, c4240e, c9999a, c9999b, c9999c, c9999d, c9999e, c100000a, c100000b, c100000c, c100000d, c100000e, c1000000a, c1000000b, c1000000c, c1000000d, c1000000e, if_T, bd_s, bv_s, bt_s, bt_x, vl_s, pf_s, ri_s, rz_0, rz_1, tri_s, trz_0, trz_1, trx_s, pz_0, pz_1, nI_add, pk_mul, up_at, la2, la5, la6, la8, la14, la62, la64, la98, la700, ra1, ra2, ra6, ra8, ra12, ra20, ra36, ra48, lm6, lm8, lm10, lm100, lm106, rm6, rm8, rm10, rm100, rm106, rd37]
        exact ok_some ⟨rfl, cK.rf⟩
      · have hT' := hR.c hT
        unfold fX10_way
        have ew2 := hT'.M.2.2.2.1 s hs
        rw [pf_s, M_isS_t (hT'.M.go (fun a ha => up_ne (by omega))) hs, bd_s, if_neg (by decide), rd151 (by omega), up_ne (by decide), ew2, M_inW_t w6 hi, bd_s, if_neg (by decide)]
        simp (disch := omega) only [bd_s, bv_s, bt_s, bt_x, vl_s, pf_s, ri_s, rz_0, rz_1, tri_s, trz_0, trz_1, trx_s, pz_0, pz_1, nI_add, pk_mul, up_at, la2, la5, la6, la8, la14, la62, la64, la98, la700, ra1, ra2, ra6, ra8, ra12, ra20, ra36, ra48, lm6, lm8, lm10, lm100, lm106, rm6, rm8, rm10, rm100, rm106, rd145, rd146, rd147, rd148, rd149, rd150, rd151, rd152, rd153, rd154, rd155, rd156, rd157, rd158, rd159, rd160, rd161, rd162, rd163, rd164, rd165, rd166, rd167, rd168, rd169, rd170, rd171, rd172, rd173, rd174, rd175, rd176, rd177, rd178, rd179, rd180, rd181, rd182, rd183, rd184, rd185, rd145_0, rd145_2, rd145_3, rd145_4, rd145_5, rd145_6, rd145_7, rd156_0, rd156_1, rd166_0, rd178_0]
        refine ok_some ⟨mK0, rfl, ?_⟩
        show up T 142 3 0 161 (6 * s + i) = _
        rw [up_ne (by decide), ← mr_w (S := T) (q := s) (t := i) (by omega), hT.mr, hR.rag _ (rl_w hs hi)]
    · refine ⟨.inr 1, ?_, fun T hT => ?_⟩
      · unfold fX9_way
        rw [C_nS_t hR hs, bt_s]
        by_cases c : a2 < 0
        · rw [if_pos c]; exact ok_some ⟨rfl, cK.rf⟩
        · rw [if_neg c, gm_v hR.2.1 hv]
          simp (disch := omega) only [srv3, srv4, srv5, srv6, srv7, srv8, srv9, srv10, srv11, srv12, srv13, rdv1, rdv2, rdv3, rdv4, rdv5, rdv6, rdv7, rdv8, rdv9, rdv10, rdv12, rdv14, ew]
          rw [if_neg (nlt_of (by omega) h2 c)]
          exact ok_some ⟨rfl, cK.rf⟩
      · have hT' := hR.c hT
        unfold fX10_way
        have ew2 := hT'.M.2.2.2.1 s hs
        rw [pf_s, M_isS_t (hT'.M.go (fun a ha => up_ne (by omega))) hs, bd_s, if_neg (by decide), rd151 (by omega), up_ne (by decide), ew2, M_inW_f w6 h2, bd_s, if_pos rfl]
        unfold BX10_way_45
        rw [m_fail]
        exact ok_some ⟨mKx, Or.inl ⟨rfl, rfl⟩⟩
  · refine ⟨.inr 1, ?_, fun T hT => ?_⟩
    · unfold fX9_way
      rw [C_nS_f hR h1, bt_x]
      exact ok_some ⟨rfl, cK.rf⟩
    · have hT' := hR.c hT
      unfold fX10_way
      rw [pf_s, M_isS_f (hT'.M.go (fun a ha => up_ne (by omega))) h1, bd_s, if_pos rfl]
      unfold BX10_way_45
      rw [m_fail]
      exact ok_some ⟨mKx, Or.inl ⟨rfl, rfl⟩⟩
theorem A_earth {nX : Int32} (a1 a2 : Int32) : Agr nX (fX9_earth a1 a2) (fX10_earth a1 a2) := by
  refine look (fun S V v d hR => ?_)
  have hV := hR.vk
  have hS6 := hV.2.1
  have hF8 := hV.1
  rcases arg a1 (n := vS' V) (by omega) with ⟨s, hs, rfl⟩ | h1
  · rcases arg a2 (n := vF V) (by omega) with ⟨t, ht, rfl⟩ | h2
    · refine ⟨.inl (S 37 (14 + s * 8 + t)), ?_, fun T hT => ?_⟩
      · unfold fX9_earth
        rw [C_nS_t hR hs, bt_s, C_nF_t hR ht, bt_s]
        simp (disch := omega) only [bd_s, bv_s, bt_s, bt_x, vl_s, pf_s, ri_s, rz_0, rz_1, tri_s, trz_0, trz_1, trx_s, pz_0, pz_1, nI_add, pk_mul, up_at, la2, la5, la6, la8, la14, la62, la64, la98, la700, ra1, ra2, ra6, ra8, ra12, ra20, ra36, ra48, lm6, lm8, lm10, lm100, lm106, rm6, rm8, rm10, rm100, rm106, rd37]
        exact ok_some ⟨rfl, cK.rf⟩
      · have hT' := hR.c hT
        unfold fX10_earth
        have hM0 : VM V (up T 142 3 0) := hT'.M.go (fun a ha => up_ne (by omega))
        rw [pf_s, M_isS_t hM0 hs, bd_s, if_neg (by decide), M_isF_t hM0 ht, bd_s, if_neg (by decide)]
        simp (disch := omega) only [bd_s, bv_s, bt_s, bt_x, vl_s, pf_s, ri_s, rz_0, rz_1, tri_s, trz_0, trz_1, trx_s, pz_0, pz_1, nI_add, pk_mul, up_at, la2, la5, la6, la8, la14, la62, la64, la98, la700, ra1, ra2, ra6, ra8, ra12, ra20, ra36, ra48, lm6, lm8, lm10, lm100, lm106, rm6, rm8, rm10, rm100, rm106, rd145, rd146, rd147, rd148, rd149, rd150, rd151, rd152, rd153, rd154, rd155, rd156, rd157, rd158, rd159, rd160, rd161, rd162, rd163, rd164, rd165, rd166, rd167, rd168, rd169, rd170, rd171, rd172, rd173, rd174, rd175, rd176, rd177, rd178, rd179, rd180, rd181, rd182, rd183, rd184, rd185, rd145_0, rd145_2, rd145_3, rd145_4, rd145_5, rd145_6, rd145_7, rd156_0, rd156_1, rd166_0, rd178_0]
        refine ok_some ⟨mK0, rfl, ?_⟩
        show up T 142 3 0 160 (8 * s + t) = _
        rw [up_ne (by decide), ← mr_e (S := T) (q := s) (t := t) (by omega), hT.mr, hR.rag _ (rl_a (by omega) (by omega) (by omega))]
    · refine ⟨.inr 1, ?_, fun T hT => ?_⟩
      · unfold fX9_earth
        rw [C_nS_t hR hs, bt_s, C_nF_f hR h2, bt_x]
        exact ok_some ⟨rfl, cK.rf⟩
      · have hT' := hR.c hT
        unfold fX10_earth
        have hM0 : VM V (up T 142 3 0) := hT'.M.go (fun a ha => up_ne (by omega))
        rw [pf_s, M_isS_t hM0 hs, bd_s, if_neg (by decide), M_isF_f hM0 h2, bd_s, if_pos rfl]
        unfold BX10_earth_35
        rw [m_fail]
        exact ok_some ⟨mKx, Or.inl ⟨rfl, rfl⟩⟩
  · refine ⟨.inr 1, ?_, fun T hT => ?_⟩
    · unfold fX9_earth
      rw [C_nS_f hR h1, bt_x]
      exact ok_some ⟨rfl, cK.rf⟩
    · have hT' := hR.c hT
      unfold fX10_earth
      rw [pf_s, M_isS_f (hT'.M.go (fun a ha => up_ne (by omega))) h1, bd_s, if_pos rfl]
      unfold BX10_earth_35
      rw [m_fail]
      exact ok_some ⟨mKx, Or.inl ⟨rfl, rfl⟩⟩
theorem A_note {nX : Int32} (a1 a2 : Int32) : Agr nX (fX9_note a1 a2) (fX10_note a1 a2) := by
  refine look (fun S V v d hR => ?_)
  have hV := hR.vk
  have hF8 := hV.1
  have hv := hR.hv
  rcases arg a1 (n := vF V) (by omega) with ⟨f, hf, rfl⟩ | h1
  · obtain ⟨n, n6, en, ei⟩ := hR.X.2.1 f hf
    have ew := (hR.C.2.2.2.2.2.2.2.1 f hf).2
    rw [en] at ew
    rcases arg a2 (n := n) (by omega) with ⟨i, hi, rfl⟩ | h2
    · refine ⟨.inl (S (v + 3) (f * 6 + i)), ?_, fun T hT => ?_⟩
      · unfold fX9_note
        rw [C_nF_t hR hf, bt_s, if_neg (nI_pos (by omega))]
        simp (disch := omega) only [gm_v hR.2.1 hv, srv3, srv4, srv5, srv6, srv7, srv8, srv9, srv10, srv11, srv12, srv13, rdv1, rdv2, rdv3, rdv4, rdv5, rdv6, rdv7, rdv8, rdv9, rdv10, rdv12, rdv14, ew, nI_leE, nI_ltE, nI_eqE, nI_m1, c0a, c0b, c0c, c0d, c0e, c1a, c1b, c1c, c1d, c1e, c2a, c2b, c2c, c2d, c2e, c3a, c3b, c3c, c3d, c3e, c4a, c4b, c4c, c4d, c4e, c5a, c5b, c5c, c5d, c5e, c6a, c6b, c6c, c6d, c6e, c7a, c7b, c7c, c7d, c7e, c8a, c8b, c8c, c8d, c8e, c9a, c9b, c9c, c9d, c9e, c10a, c10b, c10c, c10d, c10e, c12a, c12b, c12c, c12d, c12e, c14a, c14b, c14c, c14d, c14e, c16a, c16b, c16c, c16d, c16e, c20a, c20b, c20c, c20d, c20e, c30a, c30b, c30c, c30d, c30e, c32a, c32b, c32c, c32d, c32e, c36a, c36b, c36c, c36d, c36e, c40a, c40b, c40c, c40d, c40e, c41a, c41b, c41c, c41d, c41e, c42a, c42b, c42c, c42d, c42e, c43a, c43b, c43c, c43d, c43e, c45a, c45b, c45c, c45d, c45e, c47a, c47b, c47c, c47d, c47e, c48a, c48b, c48c, c48d, c48e, c57a, c57b, c57c, c57d, c57e, c59a, c59b, c59c, c59d, c59e, c60a, c60b, c60c, c60d, c60e, c61a, c61b, c61c, c61d, c61e, c62a, c62b, c62c, c62d, c62e, c64a, c64b, c64c, c64d, c64e, c96a, c96b, c96c, c96d, c96e, c97a, c97b, c97c, c97d, c97e, c98a, c98b, c98c, c98d, c98e, c99a, c99b, c99c, c99d, c99e, c100a, c100b, c100c, c100d, c100e, c122a, c122b, c122c, c122d, c122e, c700a, c700b, c700c, c700d, c700e, c4240a, c4240b, c4240c, c4240d, c4240e, c9999a, c9999b, c9999c, c9999d, c9999e, c100000a, c100000b, c100000c, c100000d, c100000e, c1000000a, c1000000b, c1000000c, c1000000d, c1000000e, if_T, bd_s, bv_s, bt_s, bt_x, vl_s, pf_s, ri_s, rz_0, rz_1, tri_s, trz_0, trz_1, trx_s, pz_0, pz_1, nI_add, pk_mul, up_at, la2, la5, la6, la8, la14, la62, la64, la98, la700, ra1, ra2, ra6, ra8, ra12, ra20, ra36, ra48, lm6, lm8, lm10, lm100, lm106, rm6, rm8, rm10, rm100, rm106]
        exact ok_some ⟨rfl, cK.rf⟩
      · have hT' := hR.c hT
        unfold fX10_note
        have ew2 := (hT'.M.2.2.2.2.2.2.1 f hf).2
        rw [en] at ew2
        rw [pf_s, M_isF_t (hT'.M.go (fun a ha => up_ne (by omega))) hf, bd_s, if_neg (by decide), rd147 (by omega), up_ne (by decide), ew2, M_inW_t n6 hi, bd_s, if_neg (by decide)]
        simp (disch := omega) only [bd_s, bv_s, bt_s, bt_x, vl_s, pf_s, ri_s, rz_0, rz_1, tri_s, trz_0, trz_1, trx_s, pz_0, pz_1, nI_add, pk_mul, up_at, la2, la5, la6, la8, la14, la62, la64, la98, la700, ra1, ra2, ra6, ra8, ra12, ra20, ra36, ra48, lm6, lm8, lm10, lm100, lm106, rm6, rm8, rm10, rm100, rm106, rd145, rd146, rd147, rd148, rd149, rd150, rd151, rd152, rd153, rd154, rd155, rd156, rd157, rd158, rd159, rd160, rd161, rd162, rd163, rd164, rd165, rd166, rd167, rd168, rd169, rd170, rd171, rd172, rd173, rd174, rd175, rd176, rd177, rd178, rd179, rd180, rd181, rd182, rd183, rd184, rd185, rd145_0, rd145_2, rd145_3, rd145_4, rd145_5, rd145_6, rd145_7, rd156_0, rd156_1, rd166_0, rd178_0]
        refine ok_some ⟨mK0, rfl, ?_⟩
        show up T 142 3 0 148 (6 * f + i) = _
        rw [up_ne (by decide), hT.at 148 (by decide) (by decide) (by decide) (by decide) (by decide), ei i hi]
    · refine ⟨.inr 1, ?_, fun T hT => ?_⟩
      · unfold fX9_note
        rw [C_nF_t hR hf, bt_s]
        by_cases c : a2 < 0
        · rw [if_pos c]; exact ok_some ⟨rfl, cK.rf⟩
        · rw [if_neg c, gm_v hR.2.1 hv]
          simp (disch := omega) only [srv3, srv4, srv5, srv6, srv7, srv8, srv9, srv10, srv11, srv12, srv13, rdv1, rdv2, rdv3, rdv4, rdv5, rdv6, rdv7, rdv8, rdv9, rdv10, rdv12, rdv14, ew]
          rw [if_neg (nlt_of (by omega) h2 c)]
          exact ok_some ⟨rfl, cK.rf⟩
      · have hT' := hR.c hT
        unfold fX10_note
        have ew2 := (hT'.M.2.2.2.2.2.2.1 f hf).2
        rw [en] at ew2
        rw [pf_s, M_isF_t (hT'.M.go (fun a ha => up_ne (by omega))) hf, bd_s, if_neg (by decide), rd147 (by omega), up_ne (by decide), ew2, M_inW_f n6 h2, bd_s, if_pos rfl]
        unfold BX10_note_45
        rw [m_fail]
        exact ok_some ⟨mKx, Or.inl ⟨rfl, rfl⟩⟩
  · refine ⟨.inr 1, ?_, fun T hT => ?_⟩
    · unfold fX9_note
      rw [C_nF_f hR h1, bt_x]
      exact ok_some ⟨rfl, cK.rf⟩
    · have hT' := hR.c hT
      unfold fX10_note
      rw [pf_s, M_isF_f (hT'.M.go (fun a ha => up_ne (by omega))) h1, bd_s, if_pos rfl]
      unfold BX10_note_45
      rw [m_fail]
      exact ok_some ⟨mKx, Or.inl ⟨rfl, rfl⟩⟩
theorem A_far {nX : Int32} (a1 a2 : Int32) : Agr nX (fX9_far a1 a2) (fX10_far a1 a2) := by
  refine look (fun S V v d hR => ?_)
  have hV := hR.vk
  have hF8 := hV.1
  have hv := hR.hv
  rcases arg a1 (n := vF V) (by omega) with ⟨f, hf, rfl⟩ | h1
  · rcases arg a2 (n := vF V) (by omega) with ⟨t, ht, rfl⟩ | h2
    · obtain ⟨dn, hdn, -⟩ := hR.X.2.2.2.2
      obtain ⟨k1, k2⟩ := hdn f t hf ht
      refine ⟨.inl (if dn f t < 10000 then nI (dn f t) else -1), ?_, fun T hT => ?_⟩
      · unfold fX9_far
        rw [C_nF_t hR hf, bt_s, C_nF_t hR ht, bt_s, gm_v hR.2.1 hv]
        simp (disch := omega) only [srv3, srv4, srv5, srv6, srv7, srv8, srv9, srv10, srv11, srv12, srv13, rdv1, rdv2, rdv3, rdv4, rdv5, rdv6, rdv7, rdv8, rdv9, rdv10, rdv12, rdv14, bd_s, bv_s, bt_s, bt_x, vl_s, pf_s, ri_s, rz_0, rz_1, tri_s, trz_0, trz_1, trx_s, pz_0, pz_1, nI_add, pk_mul, up_at, la2, la5, la6, la8, la14, la62, la64, la98, la700, ra1, ra2, ra6, ra8, ra12, ra20, ra36, ra48, lm6, lm8, lm10, lm100, lm106, rm6, rm8, rm10, rm100, rm106, k1]
        by_cases c : dn f t < 10000
        · simp (disch := omega) only [if_pos c, nI_leE, nI_ltE, nI_eqE, nI_m1, c0a, c0b, c0c, c0d, c0e, c1a, c1b, c1c, c1d, c1e, c2a, c2b, c2c, c2d, c2e, c3a, c3b, c3c, c3d, c3e, c4a, c4b, c4c, c4d, c4e, c5a, c5b, c5c, c5d, c5e, c6a, c6b, c6c, c6d, c6e, c7a, c7b, c7c, c7d, c7e, c8a, c8b, c8c, c8d, c8e, c9a, c9b, c9c, c9d, c9e, c10a, c10b, c10c, c10d, c10e, c12a, c12b, c12c, c12d, c12e, c14a, c14b, c14c, c14d, c14e, c16a, c16b, c16c, c16d, c16e, c20a, c20b, c20c, c20d, c20e, c30a, c30b, c30c, c30d, c30e, c32a, c32b, c32c, c32d, c32e, c36a, c36b, c36c, c36d, c36e, c40a, c40b, c40c, c40d, c40e, c41a, c41b, c41c, c41d, c41e, c42a, c42b, c42c, c42d, c42e, c43a, c43b, c43c, c43d, c43e, c45a, c45b, c45c, c45d, c45e, c47a, c47b, c47c, c47d, c47e, c48a, c48b, c48c, c48d, c48e, c57a, c57b, c57c, c57d, c57e, c59a, c59b, c59c, c59d, c59e, c60a, c60b, c60c, c60d, c60e, c61a, c61b, c61c, c61d, c61e, c62a, c62b, c62c, c62d, c62e, c64a, c64b, c64c, c64d, c64e, c96a, c96b, c96c, c96d, c96e, c97a, c97b, c97c, c97d, c97e, c98a, c98b, c98c, c98d, c98e, c99a, c99b, c99c, c99d, c99e, c100a, c100b, c100c, c100d, c100e, c122a, c122b, c122c, c122d, c122e, c700a, c700b, c700c, c700d, c700e, c4240a, c4240b, c4240c, c4240d, c4240e, c9999a, c9999b, c9999c, c9999d, c9999e, c100000a, c100000b, c100000c, c100000d, c100000e, c1000000a, c1000000b, c1000000c, c1000000d, c1000000e]
          rw [if_pos (by omega)]
          exact ok_some ⟨rfl, cK.rf⟩
        · simp (disch := omega) only [if_neg c, nI_leE, nI_ltE, nI_eqE, nI_m1, c0a, c0b, c0c, c0d, c0e, c1a, c1b, c1c, c1d, c1e, c2a, c2b, c2c, c2d, c2e, c3a, c3b, c3c, c3d, c3e, c4a, c4b, c4c, c4d, c4e, c5a, c5b, c5c, c5d, c5e, c6a, c6b, c6c, c6d, c6e, c7a, c7b, c7c, c7d, c7e, c8a, c8b, c8c, c8d, c8e, c9a, c9b, c9c, c9d, c9e, c10a, c10b, c10c, c10d, c10e, c12a, c12b, c12c, c12d, c12e, c14a, c14b, c14c, c14d, c14e, c16a, c16b, c16c, c16d, c16e, c20a, c20b, c20c, c20d, c20e, c30a, c30b, c30c, c30d, c30e, c32a, c32b, c32c, c32d, c32e, c36a, c36b, c36c, c36d, c36e, c40a, c40b, c40c, c40d, c40e, c41a, c41b, c41c, c41d, c41e, c42a, c42b, c42c, c42d, c42e, c43a, c43b, c43c, c43d, c43e, c45a, c45b, c45c, c45d, c45e, c47a, c47b, c47c, c47d, c47e, c48a, c48b, c48c, c48d, c48e, c57a, c57b, c57c, c57d, c57e, c59a, c59b, c59c, c59d, c59e, c60a, c60b, c60c, c60d, c60e, c61a, c61b, c61c, c61d, c61e, c62a, c62b, c62c, c62d, c62e, c64a, c64b, c64c, c64d, c64e, c96a, c96b, c96c, c96d, c96e, c97a, c97b, c97c, c97d, c97e, c98a, c98b, c98c, c98d, c98e, c99a, c99b, c99c, c99d, c99e, c100a, c100b, c100c, c100d, c100e, c122a, c122b, c122c, c122d, c122e, c700a, c700b, c700c, c700d, c700e, c4240a, c4240b, c4240c, c4240d, c4240e, c9999a, c9999b, c9999c, c9999d, c9999e, c100000a, c100000b, c100000c, c100000d, c100000e, c1000000a, c1000000b, c1000000c, c1000000d, c1000000e]
          rw [if_neg (by omega)]
          exact ok_some ⟨rfl, cK.rf⟩
      · have hT' := hR.c hT
        unfold fX10_far
        have hM0 : VM V (up T 142 3 0) := hT'.M.go (fun a ha => up_ne (by omega))
        have k3 : up T 142 3 0 164 (8 * f + t) = nI (if dn f t < 10000 then dn f t else 100000) := by rw [up_ne (by decide), hT.at 164 (by decide) (by decide) (by decide) (by decide) (by decide), k2]
        rw [pf_s, M_isF_t hM0 hf, bd_s, if_neg (by decide), M_isF_t hM0 ht, bd_s, if_neg (by decide)]
        simp (disch := omega) only [bd_s, bv_s, bt_s, bt_x, vl_s, pf_s, ri_s, rz_0, rz_1, tri_s, trz_0, trz_1, trx_s, pz_0, pz_1, nI_add, pk_mul, up_at, la2, la5, la6, la8, la14, la62, la64, la98, la700, ra1, ra2, ra6, ra8, ra12, ra20, ra36, ra48, lm6, lm8, lm10, lm100, lm106, rm6, rm8, rm10, rm100, rm106, rd145, rd146, rd147, rd148, rd149, rd150, rd151, rd152, rd153, rd154, rd155, rd156, rd157, rd158, rd159, rd160, rd161, rd162, rd163, rd164, rd165, rd166, rd167, rd168, rd169, rd170, rd171, rd172, rd173, rd174, rd175, rd176, rd177, rd178, rd179, rd180, rd181, rd182, rd183, rd184, rd185, rd145_0, rd145_2, rd145_3, rd145_4, rd145_5, rd145_6, rd145_7, rd156_0, rd156_1, rd166_0, rd178_0, k3]
        by_cases c : dn f t < 10000
        · simp (disch := omega) only [if_pos c, nI_leE, nI_ltE, nI_eqE, nI_m1, c0a, c0b, c0c, c0d, c0e, c1a, c1b, c1c, c1d, c1e, c2a, c2b, c2c, c2d, c2e, c3a, c3b, c3c, c3d, c3e, c4a, c4b, c4c, c4d, c4e, c5a, c5b, c5c, c5d, c5e, c6a, c6b, c6c, c6d, c6e, c7a, c7b, c7c, c7d, c7e, c8a, c8b, c8c, c8d, c8e, c9a, c9b, c9c, c9d, c9e, c10a, c10b, c10c, c10d, c10e, c12a, c12b, c12c, c12d, c12e, c14a, c14b, c14c, c14d, c14e, c16a, c16b, c16c, c16d, c16e, c20a, c20b, c20c, c20d, c20e, c30a, c30b, c30c, c30d, c30e, c32a, c32b, c32c, c32d, c32e, c36a, c36b, c36c, c36d, c36e, c40a, c40b, c40c, c40d, c40e, c41a, c41b, c41c, c41d, c41e, c42a, c42b, c42c, c42d, c42e, c43a, c43b, c43c, c43d, c43e, c45a, c45b, c45c, c45d, c45e, c47a, c47b, c47c, c47d, c47e, c48a, c48b, c48c, c48d, c48e, c57a, c57b, c57c, c57d, c57e, c59a, c59b, c59c, c59d, c59e, c60a, c60b, c60c, c60d, c60e, c61a, c61b, c61c, c61d, c61e, c62a, c62b, c62c, c62d, c62e, c64a, c64b, c64c, c64d, c64e, c96a, c96b, c96c, c96d, c96e, c97a, c97b, c97c, c97d, c97e, c98a, c98b, c98c, c98d, c98e, c99a, c99b, c99c, c99d, c99e, c100a, c100b, c100c, c100d, c100e, c122a, c122b, c122c, c122d, c122e, c700a, c700b, c700c, c700d, c700e, c4240a, c4240b, c4240c, c4240d, c4240e, c9999a, c9999b, c9999c, c9999d, c9999e, c100000a, c100000b, c100000c, c100000d, c100000e, c1000000a, c1000000b, c1000000c, c1000000d, c1000000e]
          rw [if_pos (by omega)]
          exact ok_some ⟨mK0, rfl, rfl⟩
        · simp (disch := omega) only [if_neg c, nI_leE, nI_ltE, nI_eqE, nI_m1, c0a, c0b, c0c, c0d, c0e, c1a, c1b, c1c, c1d, c1e, c2a, c2b, c2c, c2d, c2e, c3a, c3b, c3c, c3d, c3e, c4a, c4b, c4c, c4d, c4e, c5a, c5b, c5c, c5d, c5e, c6a, c6b, c6c, c6d, c6e, c7a, c7b, c7c, c7d, c7e, c8a, c8b, c8c, c8d, c8e, c9a, c9b, c9c, c9d, c9e, c10a, c10b, c10c, c10d, c10e, c12a, c12b, c12c, c12d, c12e, c14a, c14b, c14c, c14d, c14e, c16a, c16b, c16c, c16d, c16e, c20a, c20b, c20c, c20d, c20e, c30a, c30b, c30c, c30d, c30e, c32a, c32b, c32c, c32d, c32e, c36a, c36b, c36c, c36d, c36e, c40a, c40b, c40c, c40d, c40e, c41a, c41b, c41c, c41d, c41e, c42a, c42b, c42c, c42d, c42e, c43a, c43b, c43c, c43d, c43e, c45a, c45b, c45c, c45d, c45e, c47a, c47b, c47c, c47d, c47e, c48a, c48b, c48c, c48d, c48e, c57a, c57b, c57c, c57d, c57e, c59a, c59b, c59c, c59d, c59e, c60a, c60b, c60c, c60d, c60e, c61a, c61b, c61c, c61d, c61e, c62a, c62b, c62c, c62d, c62e, c64a, c64b, c64c, c64d, c64e, c96a, c96b, c96c, c96d, c96e, c97a, c97b, c97c, c97d, c97e, c98a, c98b, c98c, c98d, c98e, c99a, c99b, c99c, c99d, c99e, c100a, c100b, c100c, c100d, c100e, c122a, c122b, c122c, c122d, c122e, c700a, c700b, c700c, c700d, c700e, c4240a, c4240b, c4240c, c4240d, c4240e, c9999a, c9999b, c9999c, c9999d, c9999e, c100000a, c100000b, c100000c, c100000d, c100000e, c1000000a, c1000000b, c1000000c, c1000000d, c1000000e]
          rw [if_neg (by omega)]
          exact ok_some ⟨mK0, rfl, rfl⟩
    · refine ⟨.inr 1, ?_, fun T hT => ?_⟩
      · unfold fX9_far
        rw [C_nF_t hR hf, bt_s, C_nF_f hR h2, bt_x]
        exact ok_some ⟨rfl, cK.rf⟩
      · have hT' := hR.c hT
        unfold fX10_far
        have hM0 : VM V (up T 142 3 0) := hT'.M.go (fun a ha => up_ne (by omega))
        rw [pf_s, M_isF_t hM0 hf, bd_s, if_neg (by decide), M_isF_f hM0 h2, bd_s, if_pos rfl]
        unfold BX10_far_21
        rw [m_fail]
        exact ok_some ⟨mKx, Or.inl ⟨rfl, rfl⟩⟩
  · refine ⟨.inr 1, ?_, fun T hT => ?_⟩
    · unfold fX9_far
      rw [C_nF_f hR h1, bt_x]
      exact ok_some ⟨rfl, cK.rf⟩
    · have hT' := hR.c hT
      unfold fX10_far
      rw [pf_s, M_isF_f (hT'.M.go (fun a ha => up_ne (by omega))) h1, bd_s, if_pos rfl]
      unfold BX10_far_21
      rw [m_fail]
      exact ok_some ⟨mKx, Or.inl ⟨rfl, rfl⟩⟩
