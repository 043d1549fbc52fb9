theorem A_trespasses (a1 a2 a3 : Int32) : Agr 2 (fX9_trespasses a1 a2 a3) (fX10_trespasses a1 a2 a3) := by
  refine look (fun S V v d hR => ?_)
  have hV := hR.vk
  have hS6 := hV.2.1
  have hF8 := hV.1
  rcases arg a1 (n := vS' V) (by omega) with ⟨s, hs, rfl⟩ | h1
  · rcases arg2 a3 (lo := 0) (hi := 1) (by decide) (by decide) with ⟨w, -, hw, rfl⟩ | h3
    · rcases arg2 a2 (lo := 0) (hi := 60) (by decide) (by decide) with ⟨n, -, hn, rfl⟩ | h2
      · refine ⟨.inl (nI (trW V (S 37) s w n)), ?_, fun T hT => ?_⟩
        · obtain ⟨S1, S2, e1, e2, c1, c2, c3, c4, c5, c6⟩ := C_ahead (n := n) hR hn
          unfold fX9_trespasses
          rw [C_nS_t hR hs, bt_s, show (1 : Int32) = nI 1 from rfl, C_nW_t hw (by decide), bt_s, show (0 : Int32) = nI 0 from rfl, C_nH_t (by omega) hn, bt_s, gm_v hR.2.1 hR.hv, e1, bv_s, e2, bv_s]
          have hp := C_against (n := n) (r := S 37) (hR.C.fr c6) c5 (fun f hf => by rw [c1 _ (by omega), (hrs_ok hR.rok hV n (by omega)).2.1 _ (by omega)]) c4 (s := s)
          simp (disch := omega) only [nI_leE, nI_ltE, nI_eqE, nI_m1, c0a, c0b, c0c, c0d, c0e, c1a, c1b, c1c, c1d, c1e, c2a, c2b, c2c, c2d, c2e, c3a, c3b, c3c, c3d, c3e, c4a, c4b, c4c, c4d, c4e, c5a, c5b, c5c, c5d, c5e, c6a, c6b, c6c, c6d, c6e, c7a, c7b, c7c, c7d, c7e, c8a, c8b, c8c, c8d, c8e, c9a, c9b, c9c, c9d, c9e, c10a, c10b, c10c, c10d, c10e, c12a, c12b, c12c, c12d, c12e, c14a, c14b, c14c, c14d, c14e, c16a, c16b, c16c, c16d, c16e, c20a, c20b, c20c, c20d, c20e, c30a, c30b, c30c, c30d, c30e, c32a, c32b, c32c, c32d, c32e, c36a, c36b, c36c, c36d, c36e, c40a, c40b, c40c, c40d, c40e, c41a, c41b, c41c, c41d, c41e, c42a, c42b, c42c, c42d, c42e, c43a, c43b, c43c, c43d, c43e, c45a, c45b, c45c, c45d, c45e, c47a, c47b, c47c, c47d, c47e, c48a, c48b, c48c, c48d, c48e, c57a, c57b, c57c, c57d, c57e, c59a, c59b, c59c, c59d, c59e, c60a, c60b, c60c, c60d, c60e, c61a, c61b, c61c, c61d, c61e, c62a, c62b, c62c, c62d, c62e, c64a, c64b, c64c, c64d, c64e, c96a, c96b, c96c, c96d, c96e, c97a, c97b, c97c, c97d, c97e, c98a, c98b, c98c, c98d, c98e, c99a, c99b, c99c, c99d, c99e, c100a, c100b, c100c, c100d, c100e, c122a, c122b, c122c, c122d, c122e, c700a, c700b, c700c, c700d, c700e, c4240a, c4240b, c4240c, c4240d, c4240e, c9999a, c9999b, c9999c, c9999d, c9999e, c100000a, c100000b, c100000c, c100000d, c100000e, c1000000a, c1000000b, c1000000c, c1000000d, c1000000e, rd131, rd132, rd133, rd134, rd135, rd136, rd131_0, rd131_1, rd131_8, hp, c3 s hs, bd_s, bv_s, bt_s, bt_x, vl_s, pf_s, ri_s, rz_0, rz_1, tri_s, trz_0, trz_1, trx_s, pz_0, pz_1, nI_add, pk_mul, up_at, la2, la5, la6, la8, la14, la62, la64, la98, la700, ra1, ra2, ra6, ra8, ra12, ra20, ra36, ra48, lm6, lm8, lm10, lm100, lm106, rm6, rm8, rm10, rm100, rm106]
          unfold trW
          by_cases c : w = 0
          · rw [if_pos c, if_pos c]; exact ok_some ⟨rfl, c6.k⟩
          · rw [if_neg c, if_neg c]; exact ok_some ⟨rfl, c6.k⟩
        · have hT' := hR.c hT
          have hM0 : VM V (up T 142 3 0) := hT'.M.go (fun a ha => up_ne (by omega))
          obtain ⟨T1, e1, ⟨y, T2⟩, e2, q1, q2, q3⟩ := M_tres hT' hs hn hw
          unfold fX10_trespasses
          rw [pf_s, M_isS_t hM0 hs, bd_s, if_neg (by decide), if_neg (nI_pos (by omega)), show (1 : Int32) = nI 1 from rfl, if_pos (nI_le hw (by decide)), show (0 : Int64) = (nI 0).toInt64 from rfl, show (60 : Int64) = (nI 60).toInt64 from rfl, M_in_t (by omega) hn (by decide), bd_s, if_neg (by decide), e1, bv_s, e2]
          refine ok_some ⟨q2, q3, ?_⟩
          show y = _
          rw [show y = _ from q1, hT.at 37 (by decide) (by decide) (by decide) (by decide) (by decide)]
      · refine ⟨.inr 2, ?_, fun T hT => ?_⟩
        · unfold fX9_trespasses
          rw [C_nS_t hR hs, bt_s, show (1 : Int32) = nI 1 from rfl, C_nW_t hw (by decide), bt_s, show (0 : Int32) = nI 0 from rfl, C_nH_f h2, bt_x]
          exact ok_some ⟨rfl, cK.rf⟩
        · have hM0 : VM V (up T 142 3 0) := (hR.c hT).M.go (fun a ha => up_ne (by omega))
          unfold fX10_trespasses
          rw [pf_s, M_isS_t hM0 hs, bd_s, if_neg (by decide), if_neg (nI_pos (by omega)), show (1 : Int32) = nI 1 from rfl, if_pos (nI_le hw (by decide)), show (0 : Int64) = (nI 0).toInt64 from rfl, show (60 : Int64) = (nI 60).toInt64 from rfl, M_in_f (by decide) h2 (by decide), bd_s, if_pos rfl, m_fail]
          exact ok_some ⟨mKx, Or.inr ⟨rfl, rfl⟩⟩
    · refine ⟨.inr 1, ?_, fun T hT => ?_⟩
      · unfold fX9_trespasses
        rw [C_nS_t hR hs, bt_s, show (1 : Int32) = nI 1 from rfl, C_nW_f (by decide) h3, bt_x]
        exact ok_some ⟨rfl, cK.rf⟩
      · have hM0 : VM V (up T 142 3 0) := (hR.c hT).M.go (fun a ha => up_ne (by omega))
        unfold fX10_trespasses BX10_trespasses_22
        rw [pf_s, M_isS_t hM0 hs, bd_s, if_neg (by decide)]
        by_cases c : a3 < 0
        · rw [if_pos c, m_fail]; exact ok_some ⟨mKx, Or.inl ⟨rfl, rfl⟩⟩
        · rw [if_neg c, if_neg, m_fail]
          · exact ok_some ⟨mKx, Or.inl ⟨rfl, rfl⟩⟩
          · intro q
            rcases h3 with h3 | h3
            · exact c h3
            · rw [Int32.lt_iff_toInt_lt] at h3; rw [Int32.le_iff_toInt_le] at q
              have : (nI 1).toInt = (1 : Int32).toInt := rfl
              omega
  · refine ⟨.inr 1, ?_, fun T hT => ?_⟩
    · unfold fX9_trespasses
      rw [C_nS_f hR h1, bt_x]
      exact ok_some ⟨rfl, cK.rf⟩
    · unfold fX10_trespasses BX10_trespasses_22
      rw [pf_s, M_isS_f ((hR.c hT).M.go (fun a ha => up_ne (by omega))) h1, bd_s, if_pos rfl, m_fail]
      exact ok_some ⟨mKx, Or.inl ⟨rfl, rfl⟩⟩
