theorem wsm_lt {V : Vy} {dn : Nat → Nat → Nat} {r : Rw} {f K : Nat} (hS : vS' V ≤ 6) (hK : 10000 ≤ K) (hK2 : K ≤ 1000000) {n : Nat} (hn : n ≤ vS' V) : wsm V dn r f K n ≤ 6000000 := by
  have := wsm_le (V := V) (dn := dn) (r := r) (f := f) hK n
  have : n * K ≤ 6 * 1000000 := Nat.mul_le_mul (by omega) hK2
  omega
theorem C_meet {V : Vy} {v d : Nat} {S : St} (hR : Rl V v d S) {dn : Nat → Nat → Nat} (hdn : ∀ a b, a < vF V → b < vF V → S (v + 5) (a * 8 + b) = nI (if dn a b < 10000 then dn a b else 1000000)) {x : Int32} : fX5_meeting v 37 x S = some (if x = 0 then (if (wou V dn (S 37) (vF V)).2 = -1 then (wou V dn (S 37) (vF V)).2 else nI (wen 1000000 (wou V dn (S 37) (vF V)).1)) else (wou V dn (S 37) (vF V)).2, S) := by
  have hV := hR.vk
  have hF8 := hV.1
  have hS6 := hV.2.1
  have hv := hR.hv
  have eF := hR.C.2.2.1
  have eS := hR.C.2.2.2.1
  have key : ok (fX5_meeting v 37 x S) (fun q => q = (if x = 0 then (if (wou V dn (S 37) (vF V)).2 = -1 then (wou V dn (S 37) (vF V)).2 else nI (wen 1000000 (wou V dn (S 37) (vF V)).1)) else (wou V dn (S 37) (vF V)).2, S)) := by
    unfold fX5_meeting
    refine ok_for (σ := Int32 × Int32) (fun k f W => LX5_meeting_10 k v 37 x W.1 W.2 (nI f) S) _ (fun f W => W.1 = nI (wen 1000000 (wou V dn (S 37) f).1) ∧ W.2 = (wou V dn (S 37) f).2) (vF V) ?_ ?_ FU 0 (1000000, -1) (by omega) (by unfold FU; omega) ⟨rfl, rfl⟩
    · intro k W hW
      simp (disch := omega) only [LX5_meeting_10, KX5_meeting_10, eF, nI_leE, nI_ltE, nI_eqE, nI_m1, c0a, c0b, c0c, c0d, c0e, c1a, c1b, c1c, c1d, c1e, c2a, c2b, c2c, c2d, c2e, c3a, c3b, c3c, c3d, c3e, c4a, c4b, c4c, c4d, c4e, c5a, c5b, c5c, c5d, c5e, c6a, c6b, c6c, c6d, c6e, c7a, c7b, c7c, c7d, c7e, c8a, c8b, c8c, c8d, c8e, c9a, c9b, c9c, c9d, c9e, c10a, c10b, c10c, c10d, c10e, c12a, c12b, c12c, c12d, c12e, c14a, c14b, c14c, c14d, c14e, c16a, c16b, c16c, c16d, c16e, c20a, c20b, c20c, c20d, c20e, c30a, c30b, c30c, c30d, c30e, c32a, c32b, c32c, c32d, c32e, c36a, c36b, c36c, c36d, c36e, c40a, c40b, c40c, c40d, c40e, c41a, c41b, c41c, c41d, c41e, c42a, c42b, c42c, c42d, c42e, c43a, c43b, c43c, c43d, c43e, c45a, c45b, c45c, c45d, c45e, c47a, c47b, c47c, c47d, c47e, c48a, c48b, c48c, c48d, c48e, c57a, c57b, c57c, c57d, c57e, c59a, c59b, c59c, c59d, c59e, c60a, c60b, c60c, c60d, c60e, c61a, c61b, c61c, c61d, c61e, c62a, c62b, c62c, c62d, c62e, c64a, c64b, c64c, c64d, c64e, c96a, c96b, c96c, c96d, c96e, c97a, c97b, c97c, c97d, c97e, c98a, c98b, c98c, c98d, c98e, c99a, c99b, c99c, c99d, c99e, c100a, c100b, c100c, c100d, c100e, c122a, c122b, c122c, c122d, c122e, c700a, c700b, c700c, c700d, c700e, c4240a, c4240b, c4240c, c4240d, c4240e, c9999a, c9999b, c9999c, c9999d, c9999e, c100000a, c100000b, c100000c, c100000d, c100000e, c1000000a, c1000000b, c1000000c, c1000000d, c1000000e, if_T, ri_s]
      rw [hW.1, hW.2]
      by_cases c : x = 0
      · rw [if_pos c, if_pos c]
        by_cases c2 : (wou V dn (S 37) (vF V)).2 = -1
        · rw [if_pos c2, if_pos c2]; exact ok_some rfl
        · rw [if_neg c2, if_neg c2]; exact ok_some rfl
      · rw [if_neg c, if_neg c]; exact ok_some rfl
    · intro k f W hf hW ih
      obtain ⟨w1, w2⟩ := hW
      have hlim := wou_ok (V := V) (dn := dn) (r := S 37) hS6 f
      obtain ⟨cc1, cc2⟩ := wst_c (V := V) (dn := dn) (r := S 37) (f := f) (K := 1000000) hS6 (by decide) (s := wou V dn (S 37) f) hlim
      have hwen : wen 1000000 (wou V dn (S 37) f).1 ≤ 1000000 := by
        cases ho : (wou V dn (S 37) f).1 with
        | none => exact Nat.le_refl _
        | some m => have := hlim m ho; show m ≤ 1000000; omega
      simp (disch := omega) only [LX5_meeting_10, KX5_meeting_10, eF, nI_leE, nI_ltE, nI_eqE, nI_m1, c0a, c0b, c0c, c0d, c0e, c1a, c1b, c1c, c1d, c1e, c2a, c2b, c2c, c2d, c2e, c3a, c3b, c3c, c3d, c3e, c4a, c4b, c4c, c4d, c4e, c5a, c5b, c5c, c5d, c5e, c6a, c6b, c6c, c6d, c6e, c7a, c7b, c7c, c7d, c7e, c8a, c8b, c8c, c8d, c8e, c9a, c9b, c9c, c9d, c9e, c10a, c10b, c10c, c10d, c10e, c12a, c12b, c12c, c12d, c12e, c14a, c14b, c14c, c14d, c14e, c16a, c16b, c16c, c16d, c16e, c20a, c20b, c20c, c20d, c20e, c30a, c30b, c30c, c30d, c30e, c32a, c32b, c32c, c32d, c32e, c36a, c36b, c36c, c36d, c36e, c40a, c40b, c40c, c40d, c40e, c41a, c41b, c41c, c41d, c41e, c42a, c42b, c42c, c42d, c42e, c43a, c43b, c43c, c43d, c43e, c45a, c45b, c45c, c45d, c45e, c47a, c47b, c47c, c47d, c47e, c48a, c48b, c48c, c48d, c48e, c57a, c57b, c57c, c57d, c57e, c59a, c59b, c59c, c59d, c59e, c60a, c60b, c60c, c60d, c60e, c61a, c61b, c61c, c61d, c61e, c62a, c62b, c62c, c62d, c62e, c64a, c64b, c64c, c64d, c64e, c96a, c96b, c96c, c96d, c96e, c97a, c97b, c97c, c97d, c97e, c98a, c98b, c98c, c98d, c98e, c99a, c99b, c99c, c99d, c99e, c100a, c100b, c100c, c100d, c100e, c122a, c122b, c122c, c122d, c122e, c700a, c700b, c700c, c700d, c700e, c4240a, c4240b, c4240c, c4240d, c4240e, c9999a, c9999b, c9999c, c9999d, c9999e, c100000a, c100000b, c100000c, c100000d, c100000e, c1000000a, c1000000b, c1000000c, c1000000d, c1000000e, if_F]
      refine ok_for (σ := Int32) (fun m s y => LX5_meeting_25 (LX5_meeting_10 k) m v 37 x W.1 W.2 (nI f) y (nI s) S) _ (fun s y => y = nI (wsm V dn (S 37) f 1000000 s)) (vS' V) ?_ ?_ FU 0 0 (by omega) (by unfold FU; omega) rfl
      · intro m y hy
        subst hy
        have hl := wsm_lt (V := V) (dn := dn) (r := S 37) (f := f) (K := 1000000) hS6 (by decide) (by decide) (Nat.le_refl _)
        rw [w1]
        simp (disch := omega) only [LX5_meeting_25, KX5_meeting_25, eS, nI_leE, nI_ltE, nI_eqE, nI_m1, c0a, c0b, c0c, c0d, c0e, c1a, c1b, c1c, c1d, c1e, c2a, c2b, c2c, c2d, c2e, c3a, c3b, c3c, c3d, c3e, c4a, c4b, c4c, c4d, c4e, c5a, c5b, c5c, c5d, c5e, c6a, c6b, c6c, c6d, c6e, c7a, c7b, c7c, c7d, c7e, c8a, c8b, c8c, c8d, c8e, c9a, c9b, c9c, c9d, c9e, c10a, c10b, c10c, c10d, c10e, c12a, c12b, c12c, c12d, c12e, c14a, c14b, c14c, c14d, c14e, c16a, c16b, c16c, c16d, c16e, c20a, c20b, c20c, c20d, c20e, c30a, c30b, c30c, c30d, c30e, c32a, c32b, c32c, c32d, c32e, c36a, c36b, c36c, c36d, c36e, c40a, c40b, c40c, c40d, c40e, c41a, c41b, c41c, c41d, c41e, c42a, c42b, c42c, c42d, c42e, c43a, c43b, c43c, c43d, c43e, c45a, c45b, c45c, c45d, c45e, c47a, c47b, c47c, c47d, c47e, c48a, c48b, c48c, c48d, c48e, c57a, c57b, c57c, c57d, c57e, c59a, c59b, c59c, c59d, c59e, c60a, c60b, c60c, c60d, c60e, c61a, c61b, c61c, c61d, c61e, c62a, c62b, c62c, c62d, c62e, c64a, c64b, c64c, c64d, c64e, c96a, c96b, c96c, c96d, c96e, c97a, c97b, c97c, c97d, c97e, c98a, c98b, c98c, c98d, c98e, c99a, c99b, c99c, c99d, c99e, c100a, c100b, c100c, c100d, c100e, c122a, c122b, c122c, c122d, c122e, c700a, c700b, c700c, c700d, c700e, c4240a, c4240b, c4240c, c4240d, c4240e, c9999a, c9999b, c9999c, c9999d, c9999e, c100000a, c100000b, c100000c, c100000d, c100000e, c1000000a, c1000000b, c1000000c, c1000000d, c1000000e, if_T, BX5_meeting_78, bd_s, bv_s, bt_s, bt_x, vl_s, pf_s, ri_s, rz_0, rz_1, tri_s, trz_0, trz_1, trx_s, pz_0, pz_1, nI_add, pk_mul, up_at, la2, la5, la6, la8, la14, la62, la64, la98, la700, ra1, ra2, ra6, ra8, ra12, ra20, ra36, ra48, lm6, lm8, lm10, lm100, lm106, rm6, rm8, rm10, rm100, rm106]
        by_cases c : wen 1000000 (wou V dn (S 37) f).1 ≤ wsm V dn (S 37) f 1000000 (vS' V)
        · rw [if_pos c]
          have e : wou V dn (S 37) (f + 1) = wou V dn (S 37) f := by
            show wst V dn (S 37) f (wou V dn (S 37) f) = _
            unfold wst
            rw [if_neg (fun z => by have := cc1.mpr z; omega)]
          refine ih (nI (wen 1000000 (wou V dn (S 37) f).1), W.2) ⟨by rw [e], by rw [e]; exact w2⟩
        · rw [if_neg c]
          have z := cc1.mp (by omega)
          have e : wou V dn (S 37) (f + 1) = (some (wsm V dn (S 37) f 0 (vS' V)), nI f) := by
            show wst V dn (S 37) f (wou V dn (S 37) f) = _
            unfold wst
            rw [if_pos z]
          refine ih (nI (wsm V dn (S 37) f 1000000 (vS' V)), nI f) ⟨?_, ?_⟩
          · rw [e]
            show nI _ = nI (wsm V dn (S 37) f 0 (vS' V))
            rw [cc2 z.1]
          · rw [e]
      · intro m s y hs hy ih2
        subst hy
        obtain ⟨p, hp, ep, ep2⟩ := pl_ok hR.rok hV (by decide) hs
        have epl := C_placeOf (a1 := 37) hR.C hR.rok (by decide) rfl hs
        rw [ep] at epl
        have ed := hdn p f hp hf
        simp (disch := omega) only [LX5_meeting_25, KX5_meeting_25, eS, nI_leE, nI_ltE, nI_eqE, nI_m1, c0a, c0b, c0c, c0d, c0e, c1a, c1b, c1c, c1d, c1e, c2a, c2b, c2c, c2d, c2e, c3a, c3b, c3c, c3d, c3e, c4a, c4b, c4c, c4d, c4e, c5a, c5b, c5c, c5d, c5e, c6a, c6b, c6c, c6d, c6e, c7a, c7b, c7c, c7d, c7e, c8a, c8b, c8c, c8d, c8e, c9a, c9b, c9c, c9d, c9e, c10a, c10b, c10c, c10d, c10e, c12a, c12b, c12c, c12d, c12e, c14a, c14b, c14c, c14d, c14e, c16a, c16b, c16c, c16d, c16e, c20a, c20b, c20c, c20d, c20e, c30a, c30b, c30c, c30d, c30e, c32a, c32b, c32c, c32d, c32e, c36a, c36b, c36c, c36d, c36e, c40a, c40b, c40c, c40d, c40e, c41a, c41b, c41c, c41d, c41e, c42a, c42b, c42c, c42d, c42e, c43a, c43b, c43c, c43d, c43e, c45a, c45b, c45c, c45d, c45e, c47a, c47b, c47c, c47d, c47e, c48a, c48b, c48c, c48d, c48e, c57a, c57b, c57c, c57d, c57e, c59a, c59b, c59c, c59d, c59e, c60a, c60b, c60c, c60d, c60e, c61a, c61b, c61c, c61d, c61e, c62a, c62b, c62c, c62d, c62e, c64a, c64b, c64c, c64d, c64e, c96a, c96b, c96c, c96d, c96e, c97a, c97b, c97c, c97d, c97e, c98a, c98b, c98c, c98d, c98e, c99a, c99b, c99c, c99d, c99e, c100a, c100b, c100c, c100d, c100e, c122a, c122b, c122c, c122d, c122e, c700a, c700b, c700c, c700d, c700e, c4240a, c4240b, c4240c, c4240d, c4240e, c9999a, c9999b, c9999c, c9999d, c9999e, c100000a, c100000b, c100000c, c100000d, c100000e, c1000000a, c1000000b, c1000000c, c1000000d, c1000000e, if_F, epl, bd_s, bv_s, bt_s, bt_x, vl_s, pf_s, ri_s, rz_0, rz_1, tri_s, trz_0, trz_1, trx_s, pz_0, pz_1, nI_add, pk_mul, up_at, la2, la5, la6, la8, la14, la62, la64, la98, la700, ra1, ra2, ra6, ra8, ra12, ra20, ra36, ra48, lm6, lm8, lm10, lm100, lm106, rm6, rm8, rm10, rm100, rm106, srv3, srv4, srv5, srv6, srv7, srv8, srv9, srv10, srv11, srv12, srv13, rdv1, rdv2, rdv3, rdv4, rdv5, rdv6, rdv7, rdv8, rdv9, rdv10, rdv12, rdv14, ed]
        refine ih2 _ ?_
        show _ = nI (wsm V dn (S 37) f 1000000 s + _)
        rw [ep2]
  obtain ⟨b, e, q⟩ := key
  rw [e, q]
theorem M_meet {V : Vy} {v d : Nat} {S T : St} (hR : Rl V v d S) (hM : VM V T) (hmr : mr T = mr S) {dn : Nat → Nat → Nat} (hdn : ∀ a b, a < vF V → b < vF V → T 164 (8 * a + b) = nI (if dn a b < 10000 then dn a b else 100000)) {x : Int32} : LX10_wedding_28 FU x (-1) 100000 0 T = some (if x = 0 then (wou V dn (S 37) (vF V)).2 else if (wou V dn (S 37) (vF V)).2 = -1 then (wou V dn (S 37) (vF V)).2 else nI (wen 100000 (wou V dn (S 37) (vF V)).1), T) := by
  have hV := hR.vk
  have hF8 := hV.1
  have hS6 := hV.2.1
  have eF := hM.2.1
  have eS := hM.2.2.1
  have key : ok (LX10_wedding_28 FU x (-1) 100000 (nI 0) T) (fun q => q = (if x = 0 then (wou V dn (S 37) (vF V)).2 else if (wou V dn (S 37) (vF V)).2 = -1 then (wou V dn (S 37) (vF V)).2 else nI (wen 100000 (wou V dn (S 37) (vF V)).1), T)) := by
    refine ok_for (σ := Int32 × Int32) (fun k f W => LX10_wedding_28 k x W.2 W.1 (nI f) T) _ (fun f W => W.1 = nI (wen 100000 (wou V dn (S 37) f).1) ∧ W.2 = (wou V dn (S 37) f).2) (vF V) ?_ ?_ FU 0 (100000, -1) (by omega) (by unfold FU; omega) ⟨rfl, rfl⟩
    · intro k W hW
      simp (disch := omega) only [LX10_wedding_28, KX10_wedding_28, rd145, rd146, rd147, rd148, rd149, rd150, rd151, rd152, rd153, rd154, rd155, rd156, rd157, rd158, rd159, rd160, rd161, rd162, rd163, rd164, rd165, rd166, rd167, rd168, rd169, rd170, rd171, rd172, rd173, rd174, rd175, rd176, rd177, rd178, rd179, rd180, rd181, rd182, rd183, rd184, rd185, rd145_0, rd145_2, rd145_3, rd145_4, rd145_5, rd145_6, rd145_7, rd156_0, rd156_1, rd166_0, rd178_0, eF, nI_leE, nI_ltE, nI_eqE, nI_m1, c0a, c0b, c0c, c0d, c0e, c1a, c1b, c1c, c1d, c1e, c2a, c2b, c2c, c2d, c2e, c3a, c3b, c3c, c3d, c3e, c4a, c4b, c4c, c4d, c4e, c5a, c5b, c5c, c5d, c5e, c6a, c6b, c6c, c6d, c6e, c7a, c7b, c7c, c7d, c7e, c8a, c8b, c8c, c8d, c8e, c9a, c9b, c9c, c9d, c9e, c10a, c10b, c10c, c10d, c10e, c12a, c12b, c12c, c12d, c12e, c14a, c14b, c14c, c14d, c14e, c16a, c16b, c16c, c16d, c16e, c20a, c20b, c20c, c20d, c20e, c30a, c30b, c30c, c30d, c30e, c32a, c32b, c32c, c32d, c32e, c36a, c36b, c36c, c36d, c36e, c40a, c40b, c40c, c40d, c40e, c41a, c41b, c41c, c41d, c41e, c42a, c42b, c42c, c42d, c42e, c43a, c43b, c43c, c43d, c43e, c45a, c45b, c45c, c45d, c45e, c47a, c47b, c47c, c47d, c47e, c48a, c48b, c48c, c48d, c48e, c57a, c57b, c57c, c57d, c57e, c59a, c59b, c59c, c59d, c59e, c60a, c60b, c60c, c60d, c60e, c61a, c61b, c61c, c61d, c61e, c62a, c62b, c62c, c62d, c62e, c64a, c64b, c64c, c64d, c64e, c96a, c96b, c96c, c96d, c96e, c97a, c97b, c97c, c97d, c97e, c98a, c98b, c98c, c98d, c98e, c99a, c99b, c99c, c99d, c99e, c100a, c100b, c100c, c100d, c100e, c122a, c122b, c122c, c122d, c122e, c700a, c700b, c700c, c700d, c700e, c4240a, c4240b, c4240c, c4240d, c4240e, c9999a, c9999b, c9999c, c9999d, c9999e, c100000a, c100000b, c100000c, c100000d, c100000e, c1000000a, c1000000b, c1000000c, c1000000d, c1000000e, if_T, ri_s]
      rw [hW.1, hW.2]
      by_cases c : x = 0
      · rw [if_pos c, if_pos c]; exact ok_some rfl
      · rw [if_neg c, if_neg c]
        by_cases c2 : (wou V dn (S 37) (vF V)).2 = -1
        · rw [if_pos c2, if_pos c2]; exact ok_some rfl
        · rw [if_neg c2, if_neg c2]; exact ok_some rfl
    · intro k f W hf hW ih
      obtain ⟨w1, w2⟩ := hW
      have hlim := wou_ok (V := V) (dn := dn) (r := S 37) hS6 f
      obtain ⟨cc1, cc2⟩ := wst_c (V := V) (dn := dn) (r := S 37) (f := f) (K := 100000) hS6 (by decide) (s := wou V dn (S 37) f) hlim
      have hwen : wen 100000 (wou V dn (S 37) f).1 ≤ 100000 := by
        cases ho : (wou V dn (S 37) f).1 with
        | none => exact Nat.le_refl _
        | some m => have := hlim m ho; show m ≤ 100000; omega
      simp (disch := omega) only [LX10_wedding_28, KX10_wedding_28, rd145, rd146, rd147, rd148, rd149, rd150, rd151, rd152, rd153, rd154, rd155, rd156, rd157, rd158, rd159, rd160, rd161, rd162, rd163, rd164, rd165, rd166, rd167, rd168, rd169, rd170, rd171, rd172, rd173, rd174, rd175, rd176, rd177, rd178, rd179, rd180, rd181, rd182, rd183, rd184, rd185, rd145_0, rd145_2, rd145_3, rd145_4, rd145_5, rd145_6, rd145_7, rd156_0, rd156_1, rd166_0, rd178_0, eF, nI_leE, nI_ltE, nI_eqE, nI_m1, c0a, c0b, c0c, c0d, c0e, c1a, c1b, c1c, c1d, c1e, c2a, c2b, c2c, c2d, c2e, c3a, c3b, c3c, c3d, c3e, c4a, c4b, c4c, c4d, c4e, c5a, c5b, c5c, c5d, c5e, c6a, c6b, c6c, c6d, c6e, c7a, c7b, c7c, c7d, c7e, c8a, c8b, c8c, c8d, c8e, c9a, c9b, c9c, c9d, c9e, c10a, c10b, c10c, c10d, c10e, c12a, c12b, c12c, c12d, c12e, c14a, c14b, c14c, c14d, c14e, c16a, c16b, c16c, c16d, c16e, c20a, c20b, c20c, c20d, c20e, c30a, c30b, c30c, c30d, c30e, c32a, c32b, c32c, c32d, c32e, c36a, c36b, c36c, c36d, c36e, c40a, c40b, c40c, c40d, c40e, c41a, c41b, c41c, c41d, c41e, c42a, c42b, c42c, c42d, c42e, c43a, c43b, c43c, c43d, c43e, c45a, c45b, c45c, c45d, c45e, c47a, c47b, c47c, c47d, c47e, c48a, c48b, c48c, c48d, c48e, c57a, c57b, c57c, c57d, c57e, c59a, c59b, c59c, c59d, c59e, c60a, c60b, c60c, c60d, c60e, c61a, c61b, c61c, c61d, c61e, c62a, c62b, c62c, c62d, c62e, c64a, c64b, c64c, c64d, c64e, c96a, c96b, c96c, c96d, c96e, c97a, c97b, c97c, c97d, c97e, c98a, c98b, c98c, c98d, c98e, c99a, c99b, c99c, c99d, c99e, c100a, c100b, c100c, c100d, c100e, c122a, c122b, c122c, c122d, c122e, c700a, c700b, c700c, c700d, c700e, c4240a, c4240b, c4240c, c4240d, c4240e, c9999a, c9999b, c9999c, c9999d, c9999e, c100000a, c100000b, c100000c, c100000d, c100000e, c1000000a, c1000000b, c1000000c, c1000000d, c1000000e, if_F]
      refine ok_for (σ := Int32) (fun m s y => LX10_wedding_45 (LX10_wedding_28 k) m x W.2 W.1 (nI f) y (nI s) T) _ (fun s y => y = nI (wsm V dn (S 37) f 100000 s)) (vS' V) ?_ ?_ FU 0 0 (by omega) (by unfold FU; omega) rfl
      · intro m y hy
        subst hy
        have hl := wsm_lt (V := V) (dn := dn) (r := S 37) (f := f) (K := 100000) hS6 (by decide) (by decide) (Nat.le_refl _)
        rw [w1]
        simp (disch := omega) only [LX10_wedding_45, KX10_wedding_45, rd145, rd146, rd147, rd148, rd149, rd150, rd151, rd152, rd153, rd154, rd155, rd156, rd157, rd158, rd159, rd160, rd161, rd162, rd163, rd164, rd165, rd166, rd167, rd168, rd169, rd170, rd171, rd172, rd173, rd174, rd175, rd176, rd177, rd178, rd179, rd180, rd181, rd182, rd183, rd184, rd185, rd145_0, rd145_2, rd145_3, rd145_4, rd145_5, rd145_6, rd145_7, rd156_0, rd156_1, rd166_0, rd178_0, eS, nI_leE, nI_ltE, nI_eqE, nI_m1, c0a, c0b, c0c, c0d, c0e, c1a, c1b, c1c, c1d, c1e, c2a, c2b, c2c, c2d, c2e, c3a, c3b, c3c, c3d, c3e, c4a, c4b, c4c, c4d, c4e, c5a, c5b, c5c, c5d, c5e, c6a, c6b, c6c, c6d, c6e, c7a, c7b, c7c, c7d, c7e, c8a, c8b, c8c, c8d, c8e, c9a, c9b, c9c, c9d, c9e, c10a, c10b, c10c, c10d, c10e, c12a, c12b, c12c, c12d, c12e, c14a, c14b, c14c, c14d, c14e, c16a, c16b, c16c, c16d, c16e, c20a, c20b, c20c, c20d, c20e, c30a, c30b, c30c, c30d, c30e, c32a, c32b, c32c, c32d, c32e, c36a, c36b, c36c, c36d, c36e, c40a, c40b, c40c, c40d, c40e, c41a, c41b, c41c, c41d, c41e, c42a, c42b, c42c, c42d, c42e, c43a, c43b, c43c, c43d, c43e, c45a, c45b, c45c, c45d, c45e, c47a, c47b, c47c, c47d, c47e, c48a, c48b, c48c, c48d, c48e, c57a, c57b, c57c, c57d, c57e, c59a, c59b, c59c, c59d, c59e, c60a, c60b, c60c, c60d, c60e, c61a, c61b, c61c, c61d, c61e, c62a, c62b, c62c, c62d, c62e, c64a, c64b, c64c, c64d, c64e, c96a, c96b, c96c, c96d, c96e, c97a, c97b, c97c, c97d, c97e, c98a, c98b, c98c, c98d, c98e, c99a, c99b, c99c, c99d, c99e, c100a, c100b, c100c, c100d, c100e, c122a, c122b, c122c, c122d, c122e, c700a, c700b, c700c, c700d, c700e, c4240a, c4240b, c4240c, c4240d, c4240e, c9999a, c9999b, c9999c, c9999d, c9999e, c100000a, c100000b, c100000c, c100000d, c100000e, c1000000a, c1000000b, c1000000c, c1000000d, c1000000e, if_T, BX10_wedding_99, bd_s, bv_s, bt_s, bt_x, vl_s, pf_s, ri_s, rz_0, rz_1, tri_s, trz_0, trz_1, trx_s, pz_0, pz_1, nI_add, pk_mul, up_at, la2, la5, la6, la8, la14, la62, la64, la98, la700, ra1, ra2, ra6, ra8, ra12, ra20, ra36, ra48, lm6, lm8, lm10, lm100, lm106, rm6, rm8, rm10, rm100, rm106]
        by_cases c : wsm V dn (S 37) f 100000 (vS' V) < wen 100000 (wou V dn (S 37) f).1
        · rw [if_pos c]
          have z := cc1.mp c
          have e : wou V dn (S 37) (f + 1) = (some (wsm V dn (S 37) f 0 (vS' V)), nI f) := by
            show wst V dn (S 37) f (wou V dn (S 37) f) = _
            unfold wst
            rw [if_pos z]
          refine ih (nI (wsm V dn (S 37) f 100000 (vS' V)), nI f) ⟨?_, ?_⟩
          · rw [e]
            show nI _ = nI (wsm V dn (S 37) f 0 (vS' V))
            rw [cc2 z.1]
          · rw [e]
        · rw [if_neg c]
          have e : wou V dn (S 37) (f + 1) = wou V dn (S 37) f := by
            show wst V dn (S 37) f (wou V dn (S 37) f) = _
            unfold wst
            rw [if_neg (fun z => c (cc1.mpr z))]
          refine ih (nI (wen 100000 (wou V dn (S 37) f).1), W.2) ⟨by rw [e], by rw [e]; exact w2⟩
      · intro m s y hs hy ih2
        subst hy
        obtain ⟨p, hp, ep, ep2⟩ := pl_ok hR.rok hV (by decide) hs
        have epl := M_placeOf hM (by rw [hmr]; exact hR.mok) (by decide) hs
        rw [hmr, ← rg_pl hV hR.rag hs, ep] at epl
        have ed := hdn p f hp hf
        simp (disch := omega) only [LX10_wedding_45, KX10_wedding_45, rd145, rd146, rd147, rd148, rd149, rd150, rd151, rd152, rd153, rd154, rd155, rd156, rd157, rd158, rd159, rd160, rd161, rd162, rd163, rd164, rd165, rd166, rd167, rd168, rd169, rd170, rd171, rd172, rd173, rd174, rd175, rd176, rd177, rd178, rd179, rd180, rd181, rd182, rd183, rd184, rd185, rd145_0, rd145_2, rd145_3, rd145_4, rd145_5, rd145_6, rd145_7, rd156_0, rd156_1, rd166_0, rd178_0, eS, nI_leE, nI_ltE, nI_eqE, nI_m1, c0a, c0b, c0c, c0d, c0e, c1a, c1b, c1c, c1d, c1e, c2a, c2b, c2c, c2d, c2e, c3a, c3b, c3c, c3d, c3e, c4a, c4b, c4c, c4d, c4e, c5a, c5b, c5c, c5d, c5e, c6a, c6b, c6c, c6d, c6e, c7a, c7b, c7c, c7d, c7e, c8a, c8b, c8c, c8d, c8e, c9a, c9b, c9c, c9d, c9e, c10a, c10b, c10c, c10d, c10e, c12a, c12b, c12c, c12d, c12e, c14a, c14b, c14c, c14d, c14e, c16a, c16b, c16c, c16d, c16e, c20a, c20b, c20c, c20d, c20e, c30a, c30b, c30c, c30d, c30e, c32a, c32b, c32c, c32d, c32e, c36a, c36b, c36c, c36d, c36e, c40a, c40b, c40c, c40d, c40e, c41a, c41b, c41c, c41d, c41e, c42a, c42b, c42c, c42d, c42e, c43a, c43b, c43c, c43d, c43e, c45a, c45b, c45c, c45d, c45e, c47a, c47b, c47c, c47d, c47e, c48a, c48b, c48c, c48d, c48e, c57a, c57b, c57c, c57d, c57e, c59a, c59b, c59c, c59d, c59e, c60a, c60b, c60c, c60d, c60e, c61a, c61b, c61c, c61d, c61e, c62a, c62b, c62c, c62d, c62e, c64a, c64b, c64c, c64d, c64e, c96a, c96b, c96c, c96d, c96e, c97a, c97b, c97c, c97d, c97e, c98a, c98b, c98c, c98d, c98e, c99a, c99b, c99c, c99d, c99e, c100a, c100b, c100c, c100d, c100e, c122a, c122b, c122c, c122d, c122e, c700a, c700b, c700c, c700d, c700e, c4240a, c4240b, c4240c, c4240d, c4240e, c9999a, c9999b, c9999c, c9999d, c9999e, c100000a, c100000b, c100000c, c100000d, c100000e, c1000000a, c1000000b, c1000000c, c1000000d, c1000000e, if_F, epl, bd_s, bv_s, bt_s, bt_x, vl_s, pf_s, ri_s, rz_0, rz_1, tri_s, trz_0, trz_1, trx_s, pz_0, pz_1, nI_add, pk_mul, up_at, la2, la5, la6, la8, la14, la62, la64, la98, la700, ra1, ra2, ra6, ra8, ra12, ra20, ra36, ra48, lm6, lm8, lm10, lm100, lm106, rm6, rm8, rm10, rm100, rm106, ed]
        refine ih2 _ ?_
        show _ = nI (wsm V dn (S 37) f 100000 s + _)
        rw [ep2]
  obtain ⟨b, e, q⟩ := key
  rw [← q]; exact e
theorem wou_f {V : Vy} {dn : Nat → Nat → Nat} {r : Rw} : ∀ f, f < 2 ^ 31 → (wou V dn r f).2 ≠ -1 → ∃ m, (wou V dn r f).1 = some m := by
  intro f
  induction f with
  | zero => intro _ h; exact absurd rfl h
  | succ f ih =>
    intro hf h
    have h2 : (wst V dn r f (wou V dn r f)).2 ≠ -1 := h
    show ∃ m, (wst V dn r f (wou V dn r f)).1 = some m
    unfold wst at h2 ⊢
    split
    · exact ⟨_, rfl⟩
    · rename_i c
      rw [if_neg c] at h2
      exact ih (by omega) h2
theorem A_wedding {nX : Int32} (a1 : Int32) : Agr nX (fX9_wedding a1) (fX10_wedding a1) := by
  refine look (fun S V v d hR => ?_)
  have hV := hR.vk
  have hF8 := hV.1
  obtain ⟨dn, hdn, -⟩ := hR.X.2.2.2.2
  rcases arg2 a1 (lo := 0) (hi := 1) (by decide) (by decide) with ⟨w, -, hw, rfl⟩ | h1
  · have ref : ∀ T, cK S T → fX10_wedding (nI w) T = some (if nI w = 0 then (wou V dn (S 37) (vF V)).2 else if (wou V dn (S 37) (vF V)).2 = -1 then (wou V dn (S 37) (vF V)).2 else nI (wen 100000 (wou V dn (S 37) (vF V)).1), up T 142 3 0) := by
      intro T hT
      have hM0 : VM V (up T 142 3 0) := (hR.c hT).M.go (fun a ha => up_ne (by omega))
      unfold fX10_wedding
      rw [pf_s, if_neg (nI_pos (by omega)), if_pos (by rw [show (1 : Int32) = nI 1 from rfl]; exact nI_le hw (by decide))]
      exact M_meet hR hM0 (by rw [mr_up (by omega) (by omega), hT.mr]) (fun a b ha hb => by rw [up_ne (by decide), hT.at 164 (by decide) (by decide) (by decide) (by decide) (by decide)]; exact (hdn a b ha hb).2)
    have cls : ∀ x, BX9_wedding_30 v x S = some (.inl (if x = 0 then (if (wou V dn (S 37) (vF V)).2 = -1 then (wou V dn (S 37) (vF V)).2 else nI (wen 1000000 (wou V dn (S 37) (vF V)).1)) else (wou V dn (S 37) (vF V)).2), S) := fun x => by
      unfold BX9_wedding_30
      rw [C_meet hR (fun a b ha hb => (hdn a b ha hb).1)]; rfl
    have needs : fX9_needWhat (nI w) 1 S = some (.inl 0, S) := C_nW_t (m := 1) hw (by decide)
    by_cases c : w = 0
    · subst c
      refine ⟨.inl (wou V dn (S 37) (vF V)).2, ?_, fun T hT => ?_⟩
      · unfold fX9_wedding
        rw [needs, bt_s, gm_v hR.2.1 hR.hv, if_pos (by rfl), cls]
        exact ok_some ⟨rfl, cK.rf⟩
      · rw [ref T hT]
        exact ok_some ⟨mK0, rfl, rfl⟩
    · have : w = 1 := by omega
      subst this
      refine ⟨.inl (if (wou V dn (S 37) (vF V)).2 = -1 then (wou V dn (S 37) (vF V)).2 else nI (wen 1000000 (wou V dn (S 37) (vF V)).1)), ?_, fun T hT => ?_⟩
      · unfold fX9_wedding
        rw [needs, bt_s, gm_v hR.2.1 hR.hv, if_neg (by decide), cls]
        exact ok_some ⟨rfl, cK.rf⟩
      · rw [ref T hT]
        rw [if_neg (show ¬ nI 1 = 0 by decide)]
        refine ok_some ⟨mK0, rfl, ?_⟩
        show (if (wou V dn (S 37) (vF V)).2 = -1 then (wou V dn (S 37) (vF V)).2 else nI (wen 100000 (wou V dn (S 37) (vF V)).1)) = _
        by_cases c2 : (wou V dn (S 37) (vF V)).2 = -1
        · rw [if_pos c2, if_pos c2]
        · rw [if_neg c2, if_neg c2]
          obtain ⟨m, hm⟩ := wou_f (V := V) (dn := dn) (r := S 37) (vF V) (by omega) c2
          rw [hm]; rfl
  · refine ⟨.inr 1, ?_, fun T hT => ?_⟩
    · unfold fX9_wedding
      rw [show fX9_needWhat a1 1 S = some (.inr 1, S) from C_nW_f (m := 1) (by decide) h1, bt_x]
      exact ok_some ⟨rfl, cK.rf⟩
    · unfold fX10_wedding BX10_wedding_14
      rw [pf_s, m_fail]
      by_cases c : a1 < 0
      · rw [if_pos c]; exact ok_some ⟨mKx, Or.inl ⟨rfl, rfl⟩⟩
      · rw [if_neg c, show (1 : Int32) = nI 1 from rfl, if_neg (ltle h1 (by decide) (by decide) c)]
        exact ok_some ⟨mKx, Or.inl ⟨rfl, rfl⟩⟩
