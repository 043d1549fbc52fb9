theorem ltle {a : Int32} {lo hi : Nat} (h : a < nI lo ∨ nI hi < a) (hl : lo < 2 ^ 30) (hh : hi < 2 ^ 30) (c : ¬ a < nI lo) : ¬ a ≤ nI hi := by
  intro q
  rcases h with h | h
  · exact c h
  · rw [Int32.lt_iff_toInt_lt] at h; rw [Int32.le_iff_toInt_le] at q; omega
theorem A_load {nX : Int32} (a1 a2 a3 : Int32) : Agr nX (fX9_load a1 a2 a3) (fX10_load a1 a2 a3) := by
  rintro S ⟨V, v, d, hR⟩
  show AgrAt nX _ _ S
  have hV := hR.vk
  have hS6 := hV.2.1
  have hF8 := hV.1
  have hM0 : ∀ T, (∀ a, 141 < a → a < 186 → T a = S a) → VM V (up T 142 3 0) := fun T hT => hR.M.go (fun a ha => by rw [up_ne (by omega), hT a (by omega) (by omega)])
  rcases arg a1 (n := vS' V) (by omega) with ⟨s, hs, rfl⟩ | h1
  · rcases arg a2 (n := vF V) (by omega) with ⟨t, ht, rfl⟩ | h2
    · rcases arg2 a3 (lo := 1) (hi := 9) (by decide) (by decide) with ⟨m, m1, m9, rfl⟩ | h3
      · obtain ⟨n, h, n4, hh, ⟨K, eK, kC, k37⟩, hM⟩ := lay2 hR
        obtain ⟨e, he, ee⟩ := hR.rok.2.2.2.1 s t hs ht
        have hx : (if S 37 (14 + s * 8 + t) + nI m < 99 then S 37 (14 + s * 8 + t) + nI m else 99) = nI (if e + m < 99 then e + m else 99) := by
          rw [ee, nI_add]
          simp (disch := omega) only [nI_leE, nI_ltE, nI_eqE, nI_m1, c0a, c0b, c0c, c0d, c0e, c1a, c1b, c1c, c1d, c1e, c2a, c2b, c2c, c2d, c2e, c3a, c3b, c3c, c3d, c3e, c4a, c4b, c4c, c4d, c4e, c5a, c5b, c5c, c5d, c5e, c6a, c6b, c6c, c6d, c6e, c7a, c7b, c7c, c7d, c7e, c8a, c8b, c8c, c8d, c8e, c9a, c9b, c9c, c9d, c9e, c10a, c10b, c10c, c10d, c10e, c12a, c12b, c12c, c12d, c12e, c14a, c14b, c14c, c14d, c14e, c16a, c16b, c16c, c16d, c16e, c20a, c20b, c20c, c20d, c20e, c30a, c30b, c30c, c30d, c30e, c32a, c32b, c32c, c32d, c32e, c36a, c36b, c36c, c36d, c36e, c40a, c40b, c40c, c40d, c40e, c41a, c41b, c41c, c41d, c41e, c42a, c42b, c42c, c42d, c42e, c43a, c43b, c43c, c43d, c43e, c45a, c45b, c45c, c45d, c45e, c47a, c47b, c47c, c47d, c47e, c48a, c48b, c48c, c48d, c48e, c57a, c57b, c57c, c57d, c57e, c59a, c59b, c59c, c59d, c59e, c60a, c60b, c60c, c60d, c60e, c61a, c61b, c61c, c61d, c61e, c62a, c62b, c62c, c62d, c62e, c64a, c64b, c64c, c64d, c64e, c96a, c96b, c96c, c96d, c96e, c97a, c97b, c97c, c97d, c97e, c98a, c98b, c98c, c98d, c98e, c99a, c99b, c99c, c99d, c99e, c100a, c100b, c100c, c100d, c100e, c122a, c122b, c122c, c122d, c122e, c700a, c700b, c700c, c700d, c700e, c4240a, c4240b, c4240c, c4240d, c4240e, c9999a, c9999b, c9999c, c9999d, c9999e, c100000a, c100000b, c100000c, c100000d, c100000e, c1000000a, c1000000b, c1000000c, c1000000d, c1000000e]
          split <;> rfl
        refine act_at (C1 := up K 37 (14 + s * 8 + t) (nI (if e + m < 99 then e + m else 99))) (r := nI (if e + m < 99 then e + m else 99)) hR ?_ (kC.up (by omega)) ?_ n4 hh (fun T hT e37 => ?_)
        · unfold fX9_load
          rw [C_nS_t hR hs, bt_s, C_nF_t hR ht, bt_s]
          simp (disch := omega) only [nI_leE, nI_ltE, nI_eqE, nI_m1, c0a, c0b, c0c, c0d, c0e, c1a, c1b, c1c, c1d, c1e, c2a, c2b, c2c, c2d, c2e, c3a, c3b, c3c, c3d, c3e, c4a, c4b, c4c, c4d, c4e, c5a, c5b, c5c, c5d, c5e, c6a, c6b, c6c, c6d, c6e, c7a, c7b, c7c, c7d, c7e, c8a, c8b, c8c, c8d, c8e, c9a, c9b, c9c, c9d, c9e, c10a, c10b, c10c, c10d, c10e, c12a, c12b, c12c, c12d, c12e, c14a, c14b, c14c, c14d, c14e, c16a, c16b, c16c, c16d, c16e, c20a, c20b, c20c, c20d, c20e, c30a, c30b, c30c, c30d, c30e, c32a, c32b, c32c, c32d, c32e, c36a, c36b, c36c, c36d, c36e, c40a, c40b, c40c, c40d, c40e, c41a, c41b, c41c, c41d, c41e, c42a, c42b, c42c, c42d, c42e, c43a, c43b, c43c, c43d, c43e, c45a, c45b, c45c, c45d, c45e, c47a, c47b, c47c, c47d, c47e, c48a, c48b, c48c, c48d, c48e, c57a, c57b, c57c, c57d, c57e, c59a, c59b, c59c, c59d, c59e, c60a, c60b, c60c, c60d, c60e, c61a, c61b, c61c, c61d, c61e, c62a, c62b, c62c, c62d, c62e, c64a, c64b, c64c, c64d, c64e, c96a, c96b, c96c, c96d, c96e, c97a, c97b, c97c, c97d, c97e, c98a, c98b, c98c, c98d, c98e, c99a, c99b, c99c, c99d, c99e, c100a, c100b, c100c, c100d, c100e, c122a, c122b, c122c, c122d, c122e, c700a, c700b, c700c, c700d, c700e, c4240a, c4240b, c4240c, c4240d, c4240e, c9999a, c9999b, c9999c, c9999d, c9999e, c100000a, c100000b, c100000c, c100000d, c100000e, c1000000a, c1000000b, c1000000c, c1000000d, c1000000e, if_F, if_T, eK, bd_s, bv_s, bt_s, bt_x, vl_s, pf_s, ri_s, rz_0, rz_1, tri_s, trz_0, trz_1, trx_s, pz_0, pz_1, nI_add, pk_mul, up_at, la2, la5, la6, la8, la14, la62, la64, la98, la700, ra1, ra2, ra6, ra8, ra12, ra20, ra36, ra48, lm6, lm8, lm10, lm100, lm106, rm6, rm8, rm10, rm100, rm106, rd37, k37, hx, wr37]
        · rw [up_row, k37]
          exact ROk_e hV hR.rok (by omega) (by omega) (by split <;> omega)
        · obtain ⟨M, eM, mA, mm, m3, -, -, -, ma⟩ := hM T hT
          have hT2 : ∀ a, 141 < a → a < 186 → T a = S a := fun a b1 b2 => hT.m a ⟨b1, b2⟩
          have e2 : M 160 (8 * s + t) = S 37 (14 + s * 8 + t) := by rw [← mr_e (S := M) (q := s) (t := t) (by omega), mm, hR.rag _ (rl_a (by omega) (by omega) (by omega))]
          unfold fX10_load
          rw [pf_s, M_isS_t (hM0 T hT2) hs, bd_s, if_neg (by decide), M_isF_t (hM0 T hT2) ht, bd_s, if_neg (by decide), show (1 : Int64) = (nI 1).toInt64 from rfl, show (9 : Int64) = (nI 9).toInt64 from rfl, M_in_t m1 m9 (by decide), bd_s, if_neg (by decide), eM, bv_s]
          simp (disch := omega) only [bd_s, bv_s, bt_s, bt_x, vl_s, pf_s, ri_s, rz_0, rz_1, tri_s, trz_0, trz_1, trx_s, pz_0, pz_1, nI_add, pk_mul, up_at, la2, la5, la6, la8, la14, la62, la64, la98, la700, ra1, ra2, ra6, ra8, ra12, ra20, ra36, ra48, lm6, lm8, lm10, lm100, lm106, rm6, rm8, rm10, rm100, rm106, rd145, rd146, rd147, rd148, rd149, rd150, rd151, rd152, rd153, rd154, rd155, rd156, rd157, rd158, rd159, rd160, rd161, rd162, rd163, rd164, rd165, rd166, rd167, rd168, rd169, rd170, rd171, rd172, rd173, rd174, rd175, rd176, rd177, rd178, rd179, rd180, rd181, rd182, rd183, rd184, rd185, rd145_0, rd145_2, rd145_3, rd145_4, rd145_5, rd145_6, rd145_7, rd156_0, rd156_1, rd166_0, rd178_0, e2, hx, wr145, wr146, wr147, wr148, wr149, wr150, wr151, wr152, wr153, wr154, wr155, wr156, wr157, wr158, wr159, wr160, wr161, wr162, wr163, wr164, wr165, wr166, wr167, wr168, wr169, wr170, wr171, wr172, wr173, wr174, wr175, wr176, wr177, wr178, wr179, wr180, wr181, wr182, wr183, wr184, wr185, wr145_5, wr145_6, wr145_7, wr156_0, wr156_1, wr165_0, wr165_1, wr165_2, wr165_3, wr165_4]
          refine ok_some ⟨rfl, m3, mA.up (by omega), ?_⟩
          show rg V _ (mr (up M 160 (8 * s + t) (nI (if e + m < 99 then e + m else 99))))
          rw [up_row, k37, mr_uE (by omega), mm, show 14 + (8 * s + t) = 14 + s * 8 + t by omega]
          exact rg_upd hR.rag
      · refine refused_at hR 1 (by decide) (-1) ?_ (fun T hT => ?_)
        · unfold fX9_load BX9_load_21
          rw [C_nS_t hR hs, bt_s, C_nF_t hR ht, bt_s, show fX4_refuse 36 1 S = _ from C_refuse (k := 1) (by decide), bv_s]
          by_cases c : a3 < 1
          · rw [if_pos c]; rfl
          · rw [if_neg c, show (9 : Int32) = nI 9 from rfl, if_neg (ltle h3 (by decide) (by decide) c)]; rfl
        · unfold fX10_load
          rw [pf_s, M_isS_t (hM0 T hT) hs, bd_s, if_neg (by decide), M_isF_t (hM0 T hT) ht, bd_s, if_neg (by decide), show (1 : Int64) = (nI 1).toInt64 from rfl, show (9 : Int64) = (nI 9).toInt64 from rfl, M_in_f (by decide) h3 (by decide), bd_s, if_pos rfl, show ∀ X, fX10_refuse 1 X = _ from fun X => M_refuse (S := X) (k := 1) (by decide), bd_s, up_ne (by decide), hT 156 (by decide) (by decide)]
          rfl
    · refine thrown_at hR 1 ?_ 1 (Or.inl ⟨rfl, rfl⟩) (fun T hT => ?_)
      · unfold fX9_load
        rw [C_nS_t hR hs, bt_s, C_nF_f hR h2, bt_x]
      · have hm := hM0 T (fun a b1 b2 => hT.at a (by omega) (by omega) (by omega) (by omega) (by omega))
        unfold fX10_load BX10_load_21
        rw [pf_s, M_isS_t hm hs, bd_s, if_neg (by decide), M_isF_f hm h2, bd_s, if_pos rfl]
        rfl
  · refine thrown_at hR 1 ?_ 1 (Or.inl ⟨rfl, rfl⟩) (fun T hT => ?_)
    · unfold fX9_load
      rw [C_nS_f hR h1, bt_x]
    · have hm := hM0 T (fun a b1 b2 => hT.at a (by omega) (by omega) (by omega) (by omega) (by omega))
      unfold fX10_load BX10_load_21
      rw [pf_s, M_isS_f hm h1, bd_s, if_pos rfl]
      rfl
theorem A_change {nX : Int32} (a1 a2 a3 : Int32) : Agr nX (fX9_change a1 a2 a3) (fX10_change a1 a2 a3) := by
  rintro S ⟨V, v, d, hR⟩
  show AgrAt nX _ _ S
  have hV := hR.vk
  have hS6 := hV.2.1
  have hF8 := hV.1
  have hv := hR.hv
  have hM0 : ∀ T, (∀ a, 141 < a → a < 186 → T a = S a) → VM V (up T 142 3 0) := fun T hT => hR.M.go (fun a ha => by rw [up_ne (by omega), hT a (by omega) (by omega)])
  rcases arg a1 (n := vS' V) (by omega) with ⟨s, hs, rfl⟩ | h1
  · rcases arg a3 (n := vF V) (by omega) with ⟨t, ht, rfl⟩ | h2
    · obtain ⟨w0, w6⟩ := hV.2.2.1 s hs
      have ew := hR.C.2.2.2.2.1 s hs
      have ew2 := hR.M.2.2.2.1 s hs
      rcases arg a2 (n := vW V s) (by omega) with ⟨i, hi, rfl⟩ | h3
      · obtain ⟨n, h, n4, hh, ⟨K, eK, kC, k37⟩, hM⟩ := lay2 hR
        refine act_at (C1 := up K 37 (62 + s * 6 + i) (nI t)) (r := S 37 (62 + s * 6 + i)) hR ?_ (kC.up (by omega)) ?_ n4 hh (fun T hT e37 => ?_)
        · unfold fX9_change
          rw [C_nS_t hR hs, bt_s, C_nF_t hR ht, bt_s, if_neg (nI_pos (by omega)), gm_v hR.2.1 hv]
          simp (disch := omega) only [srv3, srv4, srv5, srv6, srv7, srv8, srv9, srv10, srv11, srv12, srv13, rdv1, rdv2, rdv3, rdv4, rdv5, rdv6, rdv7, rdv8, rdv9, rdv10, rdv12, rdv14, ew, nI_leE, nI_ltE, nI_eqE, nI_m1, c0a, c0b, c0c, c0d, c0e, c1a, c1b, c1c, c1d, c1e, c2a, c2b, c2c, c2d, c2e, c3a, c3b, c3c, c3d, c3e, c4a, c4b, c4c, c4d, c4e, c5a, c5b, c5c, c5d, c5e, c6a, c6b, c6c, c6d, c6e, c7a, c7b, c7c, c7d, c7e, c8a, c8b, c8c, c8d, c8e, c9a, c9b, c9c, c9d, c9e, c10a, c10b, c10c, c10d, c10e, c12a, c12b, c12c, c12d, c12e, c14a, c14b, c14c, c14d, c14e, c16a, c16b, c16c, c16d, c16e, c20a, c20b, c20c, c20d, c20e, c30a, c30b, c30c, c30d, c30e, c32a, c32b, c32c, c32d, c32e, c36a, c36b, c36c, c36d, c36e, c40a, c40b, c40c, c40d, c40e, c41a, c41b, c41c, c41d, c41e, c42a, c42b, c42c, c42d, c42e, c43a, c43b, c43c, c43d, c43e, c45a, c45b, c45c, c45d, c45e, c47a, c47b, c47c, c47d, c47e, c48a, c48b, c48c, c48d, c48e, c57a, c57b, c57c, c57d, c57e, c59a, c59b, c59c, c59d, c59e, c60a, c60b, c60c, c60d, c60e, c61a, c61b, c61c, c61d, c61e, c62a, c62b, c62c, c62d, c62e, c64a, c64b, c64c, c64d, c64e, c96a, c96b, c96c, c96d, c96e, c97a, c97b, c97c, c97d, c97e, c98a, c98b, c98c, c98d, c98e, c99a, c99b, c99c, c99d, c99e, c100a, c100b, c100c, c100d, c100e, c122a, c122b, c122c, c122d, c122e, c700a, c700b, c700c, c700d, c700e, c4240a, c4240b, c4240c, c4240d, c4240e, c9999a, c9999b, c9999c, c9999d, c9999e, c100000a, c100000b, c100000c, c100000d, c100000e, c1000000a, c1000000b, c1000000c, c1000000d, c1000000e, if_T, eK, bd_s, bv_s, bt_s, bt_x, vl_s, pf_s, ri_s, rz_0, rz_1, tri_s, trz_0, trz_1, trx_s, pz_0, pz_1, nI_add, pk_mul, up_at, la2, la5, la6, la8, la14, la62, la64, la98, la700, ra1, ra2, ra6, ra8, ra12, ra20, ra36, ra48, lm6, lm8, lm10, lm100, lm106, rm6, rm8, rm10, rm100, rm106, rd37, k37, wr37]
        · rw [up_row, k37]
          obtain ⟨h0, h1, h2, h3, h4, h5⟩ := hR.rok
          refine ⟨by rw [upd_ne (by omega)]; exact h0, fun q hq => by rw [upd_ne (by omega)]; exact h1 q hq, fun q hq => by rw [upd_ne (by omega)]; exact h2 q hq, fun a b ha hb => by rw [upd_ne (by omega)]; exact h3 a b ha hb, fun q j hq hj => ?_, fun t ht => by rw [upd_ne (by omega)]; exact h5 t ht⟩
          unfold upd
          split
          · exact ⟨t, ht, rfl⟩
          · exact h4 q j hq hj
        · obtain ⟨M, eM, mA, mm, m3, -, -, -, ma⟩ := hM T hT
          have hT2 : ∀ a, 141 < a → a < 186 → T a = S a := fun a b1 b2 => hT.m a ⟨b1, b2⟩
          have e2 : M 161 (6 * s + i) = S 37 (62 + s * 6 + i) := by rw [← mr_w (S := M) (q := s) (t := i) (by omega), mm, hR.rag _ (rl_w hs hi)]
          have e3 : up T 142 3 0 151 s = nI (vW V s) := by rw [up_ne (by decide), hT2 151 (by decide) (by decide)]; exact ew2
          unfold fX10_change
          rw [pf_s, M_isS_t (hM0 T hT2) hs, bd_s, if_neg (by decide), M_isF_t (hM0 T hT2) ht, bd_s, if_neg (by decide), rd151 (by omega), e3, M_inW_t w6 hi, bd_s, if_neg (by decide), eM, bv_s]
          simp (disch := omega) only [bd_s, bv_s, bt_s, bt_x, vl_s, pf_s, ri_s, rz_0, rz_1, tri_s, trz_0, trz_1, trx_s, pz_0, pz_1, nI_add, pk_mul, up_at, la2, la5, la6, la8, la14, la62, la64, la98, la700, ra1, ra2, ra6, ra8, ra12, ra20, ra36, ra48, lm6, lm8, lm10, lm100, lm106, rm6, rm8, rm10, rm100, rm106, rd145, rd146, rd147, rd148, rd149, rd150, rd151, rd152, rd153, rd154, rd155, rd156, rd157, rd158, rd159, rd160, rd161, rd162, rd163, rd164, rd165, rd166, rd167, rd168, rd169, rd170, rd171, rd172, rd173, rd174, rd175, rd176, rd177, rd178, rd179, rd180, rd181, rd182, rd183, rd184, rd185, rd145_0, rd145_2, rd145_3, rd145_4, rd145_5, rd145_6, rd145_7, rd156_0, rd156_1, rd166_0, rd178_0, e2, wr145, wr146, wr147, wr148, wr149, wr150, wr151, wr152, wr153, wr154, wr155, wr156, wr157, wr158, wr159, wr160, wr161, wr162, wr163, wr164, wr165, wr166, wr167, wr168, wr169, wr170, wr171, wr172, wr173, wr174, wr175, wr176, wr177, wr178, wr179, wr180, wr181, wr182, wr183, wr184, wr185, wr145_5, wr145_6, wr145_7, wr156_0, wr156_1, wr165_0, wr165_1, wr165_2, wr165_3, wr165_4]
          refine ok_some ⟨rfl, m3, mA.up (by omega), ?_⟩
          show rg V _ (mr (up M 161 (6 * s + i) (nI t)))
          rw [up_row, k37, mr_uW (by omega), mm, show 62 + (6 * s + i) = 62 + s * 6 + i by omega]
          exact rg_upd hR.rag
      · refine refused_at hR 1 (by decide) (-1) ?_ (fun T hT => ?_)
        · unfold fX9_change BX9_change_27
          rw [C_nS_t hR hs, bt_s, C_nF_t hR ht, bt_s, show fX4_refuse 36 1 S = _ from C_refuse (k := 1) (by decide), bv_s]
          by_cases c : a2 < 0
          · rw [if_pos c]; rfl
          · rw [if_neg c, gm_v hR.2.1 hv]
            simp (disch := omega) only [srv3, srv4, srv5, srv6, srv7, srv8, srv9, srv10, srv11, srv12, srv13, rdv1, rdv2, rdv3, rdv4, rdv5, rdv6, rdv7, rdv8, rdv9, rdv10, rdv12, rdv14, ew]
            rw [if_neg (nlt_of (by omega) h3 c)]; rfl
        · have e3 : up T 142 3 0 151 s = nI (vW V s) := by rw [up_ne (by decide), hT 151 (by decide) (by decide)]; exact ew2
          unfold fX10_change
          rw [pf_s, M_isS_t (hM0 T hT) hs, bd_s, if_neg (by decide), M_isF_t (hM0 T hT) ht, bd_s, if_neg (by decide), rd151 (by omega), e3, M_inW_f w6 h3, bd_s, if_pos rfl, show ∀ X, fX10_refuse 1 X = _ from fun X => M_refuse (S := X) (k := 1) (by decide), bd_s, up_ne (by decide), hT 156 (by decide) (by decide)]
          rfl
    · refine thrown_at hR 1 ?_ 1 (Or.inl ⟨rfl, rfl⟩) (fun T hT => ?_)
      · unfold fX9_change
        rw [C_nS_t hR hs, bt_s, C_nF_f hR h2, bt_x]
      · have hm := hM0 T (fun a b1 b2 => hT.at a (by omega) (by omega) (by omega) (by omega) (by omega))
        unfold fX10_change BX10_change_21
        rw [pf_s, M_isS_t hm hs, bd_s, if_neg (by decide), M_isF_f hm h2, bd_s, if_pos rfl]
        rfl
  · refine thrown_at hR 1 ?_ 1 (Or.inl ⟨rfl, rfl⟩) (fun T hT => ?_)
    · unfold fX9_change
      rw [C_nS_f hR h1, bt_x]
    · have hm := hM0 T (fun a b1 b2 => hT.at a (by omega) (by omega) (by omega) (by omega) (by omega))
      unfold fX10_change BX10_change_21
      rw [pf_s, M_isS_f hm h1, bd_s, if_pos rfl]
      rfl
theorem A_sell {nX : Int32} (a1 a2 : Int32) : Agr nX (fX9_sell a1 a2) (fX10_sell a1 a2) := by
  rintro S ⟨V, v, d, hR⟩
  show AgrAt nX _ _ S
  have hV := hR.vk
  have hS6 := hV.2.1
  have hF8 := hV.1
  have hM0 : ∀ T, (∀ a, 141 < a → a < 186 → T a = S a) → VM V (up T 142 3 0) := fun T hT => hR.M.go (fun a ha => by rw [up_ne (by omega), hT a (by omega) (by omega)])
  rcases arg a1 (n := vF V) (by omega) with ⟨t, ht, rfl⟩ | h1
  · have e162 : ∀ T, (∀ a, 141 < a → a < 186 → T a = S a) → up T 142 3 0 162 t = S 37 (98 + t) := fun T hT => by
      rw [up_ne (by decide), hT 162 (by decide) (by decide), ← mr_o (S := S) (t := t), hR.rag _ (rl_a (by omega) (by omega) (by omega))]
    have main : (a2 = -1 ∨ ∃ s, s < vS' V ∧ a2 = nI s) → (fX9_sell (nI t) a2 S = BX9_sell_15 (nI t) a2 S) → (∀ T, (∀ a, 141 < a → a < 186 → T a = S a) → fX10_sell (nI t) a2 T = BX10_sell_32 (nI t) a2 (up T 142 3 0)) → AgrAt nX (fX9_sell (nI t) a2) (fX10_sell (nI t) a2) S := by
      intro ha2 q1 q2
      by_cases c : S 37 (98 + t) = a2
      · refine refused_at hR 1 (by decide) 0 ?_ (fun T hT => ?_)
        · rw [q1]
          unfold BX9_sell_15
          simp (disch := omega) only [bd_s, bv_s, bt_s, bt_x, vl_s, pf_s, ri_s, rz_0, rz_1, tri_s, trz_0, trz_1, trx_s, pz_0, pz_1, nI_add, pk_mul, up_at, la2, la5, la6, la8, la14, la62, la64, la98, la700, ra1, ra2, ra6, ra8, ra12, ra20, ra36, ra48, lm6, lm8, lm10, lm100, lm106, rm6, rm8, rm10, rm100, rm106, rd37]
          rw [if_pos c, show fX4_refuse 36 1 S = _ from C_refuse (k := 1) (by decide)]
          rfl
        · rw [q2 T hT]
          unfold BX10_sell_32
          rw [rd162 (by omega), e162 T hT, if_pos c, M_refuses, bd_s, up_ne (by decide), hT 156 (by decide) (by decide)]
          rfl
      · obtain ⟨n, h, n4, hh, ⟨K, eK, kC, k37⟩, hM⟩ := lay2 hR
        refine act_at (C1 := up K 37 (98 + t) a2) (r := 1) hR ?_ (kC.up (by omega)) ?_ n4 hh (fun T hT e37 => ?_)
        · rw [q1]
          unfold BX9_sell_15
          simp (disch := omega) only [bd_s, bv_s, bt_s, bt_x, vl_s, pf_s, ri_s, rz_0, rz_1, tri_s, trz_0, trz_1, trx_s, pz_0, pz_1, nI_add, pk_mul, up_at, la2, la5, la6, la8, la14, la62, la64, la98, la700, ra1, ra2, ra6, ra8, ra12, ra20, ra36, ra48, lm6, lm8, lm10, lm100, lm106, rm6, rm8, rm10, rm100, rm106, rd37]
          rw [if_neg c, eK, bv_s]
          simp (disch := omega) only [wr37]
        · rw [up_row, k37]
          obtain ⟨h0, h1, h2, h3, h4, h5⟩ := hR.rok
          refine ⟨by rw [upd_ne (by omega)]; exact h0, fun q hq => by rw [upd_ne (by omega)]; exact h1 q hq, fun q hq => by rw [upd_ne (by omega)]; exact h2 q hq, fun a b ha hb => by rw [upd_ne (by omega)]; exact h3 a b ha hb, fun q j hq hj => ?_, fun t ht => ?_⟩
          · have := (hV.2.2.1 q hq).2
            rw [upd_ne (by omega)]; exact h4 q j hq hj
          · unfold upd
            split
            · exact ha2
            · exact h5 t ht
        · obtain ⟨M, eM, mA, mm, m3, -, -, -, ma⟩ := hM T hT
          have hT2 : ∀ a, 141 < a → a < 186 → T a = S a := fun a b1 b2 => hT.m a ⟨b1, b2⟩
          rw [q2 T hT2]
          unfold BX10_sell_32
          rw [rd162 (by omega), e162 T hT2, if_neg c, eM, bv_s, wr162 (by omega)]
          refine ok_some ⟨rfl, m3, mA.up (by omega), ?_⟩
          show rg V _ (mr (up M 162 t a2))
          rw [up_row, k37, mr_uO, mm]
          exact rg_upd hR.rag
    by_cases c2 : a2 = -1
    · refine main (Or.inl c2) ?_ (fun T hT => ?_)
      · unfold fX9_sell; rw [C_nF_t hR ht, bt_s, if_pos c2]
      · unfold fX10_sell; rw [pf_s, M_isF_t (hM0 T hT) ht, bd_s, if_neg (by decide), if_pos c2]
    · rcases arg a2 (n := vS' V) (by omega) with ⟨s, hs, rfl⟩ | h2
      · refine main (Or.inr ⟨s, hs, rfl⟩) ?_ (fun T hT => ?_)
        · unfold fX9_sell; rw [C_nF_t hR ht, bt_s, if_neg c2, C_nS_t hR hs, bt_s]
        · unfold fX10_sell; rw [pf_s, M_isF_t (hM0 T hT) ht, bd_s, if_neg (by decide), if_neg c2, M_isS_t (hM0 T hT) hs, bd_s, if_neg (by decide)]
      · refine thrown_at hR 1 ?_ 1 (Or.inl ⟨rfl, rfl⟩) (fun T hT => ?_)
        · unfold fX9_sell
          rw [C_nF_t hR ht, bt_s, if_neg c2, C_nS_f hR h2, bt_x]
        · have hm := hM0 T (fun a b1 b2 => hT.at a (by omega) (by omega) (by omega) (by omega) (by omega))
          unfold fX10_sell BX10_sell_26
          rw [pf_s, M_isF_t hm ht, bd_s, if_neg (by decide), if_neg c2, M_isS_f hm h2, bd_s, if_pos rfl]
          rfl
  · refine thrown_at hR 1 ?_ 1 (Or.inl ⟨rfl, rfl⟩) (fun T hT => ?_)
    · unfold fX9_sell
      rw [C_nF_f hR h1, bt_x]
    · have hm := hM0 T (fun a b1 b2 => hT.at a (by omega) (by omega) (by omega) (by omega) (by omega))
      unfold fX10_sell BX10_sell_26
      rw [pf_s, M_isF_f hm h1, bd_s, if_pos rfl]
      rfl
/-- calls that throw nothing -/
def Ag1 (fc fm : St → Option (Int32 × St)) : Prop := ∀ S, Rel S → ∃ r S1 S2, fc S = some (r, S1) ∧ fm S1 = some (r, S2) ∧ Rel S2
def Ag0 (fc fm : St → Option St) : Prop := ∀ S, Rel S → ∃ S1 S2, fc S = some S1 ∧ fm S1 = some S2 ∧ Rel S2
theorem A_hours (a1 : Int32) : Ag1 (fX9_hours a1) (fX10_hours a1) := by
  rintro S ⟨V, v, d, hR⟩
  have hV := hR.vk
  have hS6 := hV.2.1
  have refs : fX9_hours a1 S = BX9_hours_28 S → (fX10_hours a1 (up S 82 1 (S 82 1 + 1)) = BX10_hours_29 (up (up S 82 1 (S 82 1 + 1)) 142 3 0)) → ∃ r S1 S2, fX9_hours a1 S = some (r, S1) ∧ fX10_hours a1 S1 = some (r, S2) ∧ Rel S2 := by
    intro q1 q2
    have e1 : fX9_hours a1 S = some (-1, up S 82 1 (S 82 1 + 1)) := by
      rw [q1]; unfold BX9_hours_28
      rw [show fX4_refuse 36 1 S = _ from C_refuse (k := 1) (by decide)]; rfl
    refine ⟨_, _, up (up (up S 82 1 (S 82 1 + 1)) 142 3 0) 156 1 (S 156 1 + 1), e1, ?_, ⟨V, v, d, ?_⟩⟩
    · rw [q2]
      unfold BX10_hours_29
      rw [show ∀ X, fX10_refuse 1 X = _ from fun X => M_refuse (S := X) (k := 1) (by decide), bd_s]
      rfl
    · have := refd hR (k := 1) (by decide) (up S 82 1 (S 82 1 + 1) 186 0)
      have e2 : up (up S 82 1 (S 82 1 + 1)) 186 0 (up S 82 1 (S 82 1 + 1) 186 0) = up S 82 1 (S 82 1 + 1) := by
        funext b j
        rw [up_2]
        split
        · rename_i z; rw [z.1, z.2]
        · rfl
      rw [e2] at this
      exact this
  rcases arg2 a1 (lo := 1) (hi := 30) (by decide) (by decide) with ⟨k, k1, k3, rfl⟩ | h1
  · obtain ⟨hr, hh9, e0⟩ := hR.rok.1
    have e34 : ∀ T : St, mr T = mr S → T 142 34 = nI hr := fun T hT => by
      rw [show T 142 34 = mr T 0 from rfl, hT, ← hR.rag 0 (rl_a (by omega) (by omega) (by omega)), e0]
    by_cases c : hr + k ≤ 9999
    · obtain ⟨n, h, n4, hh, ⟨K, eK, kC, k37⟩, hM⟩ := lay2 hR
      have hRK : VC V v K := hR.C.go (fun a h1 h2 h3 => by have := hR.hv; exact kC.2.2 a (by omega) (by omega) (by omega) (by omega) (by omega) (by omega) (by omega) (by omega))
      obtain ⟨S1, e1, b1, b2, b3, b4, b5⟩ := C_begin (a2 := 37) hRK rfl (by decide) (by rw [k37]; exact hR.rok) (by decide)
      obtain ⟨S2, e2, g1, g2, g3, g4, g5, g6⟩ := C_go (n := k) b2.1 b2.2.1 b2.2.2.1 (by omega) (by omega)
      have cA2 : CAx S S2 n h := (kC.k (cFr.k b5)).k (cFr.k g6)
      generalize hS3 : cpy S2 131 0 37 0 106 = S3
      have cA3 : CAx S S3 n h := by rw [← hS3]; exact cA2.cp
      have a3 : ag (S3 37) (hrs V (S 37) k) := by
        intro i hi
        rw [← hS3, cpy_row, pk_cpy_in (by omega) (by omega), show 0 + (i - 0) = i by omega, g1]
        have := ag_hrs hV b1 b2.2.2.1 k (by omega) i hi
        rw [this, k37]
      have r3 : ROk V 10000 (S3 37) := by
        have q := hrs_ok hR.rok hV k (by omega)
        obtain ⟨⟨hq, hq2, q0⟩, q1, q2, q3, q4, q5⟩ := q.1
        refine ag_ROk hV a3.sm ⟨⟨hr + k, by omega, ?_⟩, q1, q2, q3, q4, q5⟩
        rw [q.2.2, e0, nI_add]
      have e35 : S3 37 0 = nI (hr + k) := by
        rw [a3 0 (by decide), (hrs_ok hR.rok hV k (by omega)).2.2, e0, nI_add]
      obtain ⟨M, eM, mA, mm, m3, hVM, m41, -, ma⟩ := hM S3 cA3
      obtain ⟨M2, eM2, y1, y2, y3⟩ := M_goOn hVM (by rw [mm]; exact hR.mok) (n := k) (by omega) (by omega) m41
      have agM : rg V (S3 37) (mr M2) := by
        rw [y1, mm]; exact (a3.w hV).tr (rg_hrs hV hR.rag hR.rok k (by omega))
      refine ⟨nI (hr + k), S3, M2, ?_, ?_, ⟨V, v, d, hR.ca cA3 (mA.fr y3) n4 hh agM r3⟩⟩
      · unfold fX9_hours
        have e00 : S 37 0 = nI hr := e0
        simp (disch := omega) only [nI_leE, nI_ltE, nI_eqE, nI_m1, c0a, c0b, c0c, c0d, c0e, c1a, c1b, c1c, c1d, c1e, c2a, c2b, c2c, c2d, c2e, c3a, c3b, c3c, c3d, c3e, c4a, c4b, c4c, c4d, c4e, c5a, c5b, c5c, c5d, c5e, c6a, c6b, c6c, c6d, c6e, c7a, c7b, c7c, c7d, c7e, c8a, c8b, c8c, c8d, c8e, c9a, c9b, c9c, c9d, c9e, c10a, c10b, c10c, c10d, c10e, c12a, c12b, c12c, c12d, c12e, c14a, c14b, c14c, c14d, c14e, c16a, c16b, c16c, c16d, c16e, c20a, c20b, c20c, c20d, c20e, c30a, c30b, c30c, c30d, c30e, c32a, c32b, c32c, c32d, c32e, c36a, c36b, c36c, c36d, c36e, c40a, c40b, c40c, c40d, c40e, c41a, c41b, c41c, c41d, c41e, c42a, c42b, c42c, c42d, c42e, c43a, c43b, c43c, c43d, c43e, c45a, c45b, c45c, c45d, c45e, c47a, c47b, c47c, c47d, c47e, c48a, c48b, c48c, c48d, c48e, c57a, c57b, c57c, c57d, c57e, c59a, c59b, c59c, c59d, c59e, c60a, c60b, c60c, c60d, c60e, c61a, c61b, c61c, c61d, c61e, c62a, c62b, c62c, c62d, c62e, c64a, c64b, c64c, c64d, c64e, c96a, c96b, c96c, c96d, c96e, c97a, c97b, c97c, c97d, c97e, c98a, c98b, c98c, c98d, c98e, c99a, c99b, c99c, c99d, c99e, c100a, c100b, c100c, c100d, c100e, c122a, c122b, c122c, c122d, c122e, c700a, c700b, c700c, c700d, c700e, c4240a, c4240b, c4240c, c4240d, c4240e, c9999a, c9999b, c9999c, c9999d, c9999e, c100000a, c100000b, c100000c, c100000d, c100000e, c1000000a, c1000000b, c1000000c, c1000000d, c1000000e, if_F, if_T, rd37_0, e00, bd_s, bv_s, bt_s, bt_x, vl_s, pf_s, ri_s, rz_0, rz_1, tri_s, trz_0, trz_1, trx_s, pz_0, pz_1, nI_add, pk_mul, up_at, la2, la5, la6, la8, la14, la62, la64, la98, la700, ra1, ra2, ra6, ra8, ra12, ra20, ra36, ra48, lm6, lm8, lm10, lm100, lm106, rm6, rm8, rm10, rm100, rm106, eK]
        rw [gm_v (by rw [kC.2.2 0 (by decide) (by decide) (by decide) (by decide) (by decide) (by decide) (by decide) (by decide)]; exact hR.2.1) hR.hv, e1, bv_s, e2, bv_s, show (0 : Int32) = nI 0 from rfl, show (106 : Int32) = nI 106 from rfl, ac_g (by decide) (by decide), hS3, e35]
      · unfold fX10_hours
        rw [pf_s, show (1 : Int64) = (nI 1).toInt64 from rfl, show (30 : Int64) = (nI 30).toInt64 from rfl, M_in_t k1 k3 (by decide), bd_s, if_neg (by decide), up_off (by decide), e34 S3 cA3.mr, nI_add, show (9999 : Int32) = nI 9999 from rfl, if_pos (nI_le c (by decide)), eM, bv_s, eM2, bv_s]
        show some (mr M2 0, M2) = _
        rw [← agM 0 (rl_a (by omega) (by omega) (by omega)), e35]
    · refine refs ?_ ?_
      · unfold fX9_hours
        have e00 : S 37 0 = nI hr := e0
        simp (disch := omega) only [nI_leE, nI_ltE, nI_eqE, nI_m1, c0a, c0b, c0c, c0d, c0e, c1a, c1b, c1c, c1d, c1e, c2a, c2b, c2c, c2d, c2e, c3a, c3b, c3c, c3d, c3e, c4a, c4b, c4c, c4d, c4e, c5a, c5b, c5c, c5d, c5e, c6a, c6b, c6c, c6d, c6e, c7a, c7b, c7c, c7d, c7e, c8a, c8b, c8c, c8d, c8e, c9a, c9b, c9c, c9d, c9e, c10a, c10b, c10c, c10d, c10e, c12a, c12b, c12c, c12d, c12e, c14a, c14b, c14c, c14d, c14e, c16a, c16b, c16c, c16d, c16e, c20a, c20b, c20c, c20d, c20e, c30a, c30b, c30c, c30d, c30e, c32a, c32b, c32c, c32d, c32e, c36a, c36b, c36c, c36d, c36e, c40a, c40b, c40c, c40d, c40e, c41a, c41b, c41c, c41d, c41e, c42a, c42b, c42c, c42d, c42e, c43a, c43b, c43c, c43d, c43e, c45a, c45b, c45c, c45d, c45e, c47a, c47b, c47c, c47d, c47e, c48a, c48b, c48c, c48d, c48e, c57a, c57b, c57c, c57d, c57e, c59a, c59b, c59c, c59d, c59e, c60a, c60b, c60c, c60d, c60e, c61a, c61b, c61c, c61d, c61e, c62a, c62b, c62c, c62d, c62e, c64a, c64b, c64c, c64d, c64e, c96a, c96b, c96c, c96d, c96e, c97a, c97b, c97c, c97d, c97e, c98a, c98b, c98c, c98d, c98e, c99a, c99b, c99c, c99d, c99e, c100a, c100b, c100c, c100d, c100e, c122a, c122b, c122c, c122d, c122e, c700a, c700b, c700c, c700d, c700e, c4240a, c4240b, c4240c, c4240d, c4240e, c9999a, c9999b, c9999c, c9999d, c9999e, c100000a, c100000b, c100000c, c100000d, c100000e, c1000000a, c1000000b, c1000000c, c1000000d, c1000000e, if_F, rd37_0, e00, bd_s, bv_s, bt_s, bt_x, vl_s, pf_s, ri_s, rz_0, rz_1, tri_s, trz_0, trz_1, trx_s, pz_0, pz_1, nI_add, pk_mul, up_at, la2, la5, la6, la8, la14, la62, la64, la98, la700, ra1, ra2, ra6, ra8, ra12, ra20, ra36, ra48, lm6, lm8, lm10, lm100, lm106, rm6, rm8, rm10, rm100, rm106]
      · unfold fX10_hours
        rw [pf_s, show (1 : Int64) = (nI 1).toInt64 from rfl, show (30 : Int64) = (nI 30).toInt64 from rfl, M_in_t k1 k3 (by decide), bd_s, if_neg (by decide), up_off (by decide), up_ne (by decide), e34 S rfl, nI_add, show (9999 : Int32) = nI 9999 from rfl, if_neg (nI_ge (by omega) (by omega))]
  · refine refs ?_ ?_
    · unfold fX9_hours
      by_cases c : a1 < 1
      · rw [if_pos c]
      · rw [if_neg c]
        have : 30 < a1 := by
          rcases h1 with h1 | h1
          · exact absurd h1 c
          · exact h1
        rw [if_pos this]
    · unfold fX10_hours
      rw [pf_s, show (1 : Int64) = (nI 1).toInt64 from rfl, show (30 : Int64) = (nI 30).toInt64 from rfl, M_in_f (by decide) h1 (by decide), bd_s, if_pos rfl]
