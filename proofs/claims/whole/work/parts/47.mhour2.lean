/-! the reference's hour -/
theorem M_tune105 {S : St} {s : Nat} (hs : s < 6) {x : Int32} : BX10_tuneOf_105 (nI s) x S = some (if bit (mr S (2 + s)) x then x else -1, S) := by
  unfold BX10_tuneOf_105
  simp (disch := omega) only [bd_s, bv_s, bt_s, bt_x, vl_s, pf_s, ri_s, rz_0, rz_1, tri_s, trz_0, trz_1, trx_s, pz_0, pz_1, nI_add, pk_mul, up_at, la2, la5, la6, la8, la14, la62, la64, la98, la700, ra1, ra2, ra6, ra8, ra12, ra20, ra36, ra48, lm6, lm8, lm10, lm100, lm106, rm6, rm8, rm10, rm100, rm106, rd145, rd146, rd147, rd148, rd149, rd150, rd151, rd152, rd153, rd154, rd155, rd156, rd157, rd158, rd159, rd160, rd161, rd162, rd163, rd164, rd165, rd166, rd167, rd168, rd169, rd170, rd171, rd172, rd173, rd174, rd175, rd176, rd177, rd178, rd179, rd180, rd181, rd182, rd183, rd184, rd185, rd145_0, rd145_2, rd145_3, rd145_4, rd145_5, rd145_6, rd145_7, rd156_0, rd156_1, rd166_0, rd178_0, M_isOf, mr_k]
  cases bit (S 158 s) x <;> rfl
theorem M_tuneOf {V : Vy} {hm : Nat} {S : St} (hM : VM V S) (hr : ROk V hm (mr S)) (hm9 : hm ≤ 20000) {s : Nat} (hs : s < vS' V) : ok (fX10_tuneOf (nI s) S) (fun q => q.1 = tuI V (mr S) s ∧ ∀ a, a ≠ 165 → a ≠ 166 → q.2 a = S a) := by
  have hV := hM.1
  have hS6 := hV.2.1
  have hF0 := hV.2.2.2.1 (by omega)
  have hF8 := hV.1
  obtain ⟨k, hk, ek⟩ := hr.2.1 s hs
  have hk8 : k < 256 := Nat.lt_of_lt_of_le hk (Nat.pow_le_pow_right (by decide) hF8 : 2 ^ vF V ≤ 2 ^ 8)
  have hG := hM.2.2.2.2.2.2.2.1
  have hF := hM.2.1
  have ep := M_placeOf hM hr hm9 hs
  have ek' : S 158 s = nI k := by rw [← mr_k (S := S) (q := s) (by omega)]; exact ek
  unfold fX10_tuneOf
  simp (disch := omega) only [bd_s, bv_s, bt_s, bt_x, vl_s, pf_s, ri_s, rz_0, rz_1, tri_s, trz_0, trz_1, trx_s, pz_0, pz_1, nI_add, pk_mul, up_at, la2, la5, la6, la8, la14, la62, la64, la98, la700, ra1, ra2, ra6, ra8, ra12, ra20, ra36, ra48, lm6, lm8, lm10, lm100, lm106, rm6, rm8, rm10, rm100, rm106, rd145, rd146, rd147, rd148, rd149, rd150, rd151, rd152, rd153, rd154, rd155, rd156, rd157, rd158, rd159, rd160, rd161, rd162, rd163, rd164, rd165, rd166, rd167, rd168, rd169, rd170, rd171, rd172, rd173, rd174, rd175, rd176, rd177, rd178, rd179, rd180, rd181, rd182, rd183, rd184, rd185, rd145_0, rd145_2, rd145_3, rd145_4, rd145_5, rd145_6, rd145_7, rd156_0, rd156_1, rd166_0, rd178_0, ep]
  cases hg : vG V with
  | none =>
    rw [hg] at hG
    have hG2 : S 145 3 = 0 := hG
    rw [hG2, if_pos (by decide), M_tune105 (by omega)]
    refine ok_some ⟨?_, fun _ _ _ => rfl⟩
    unfold tuI tuA
    rw [hg]
  | some g =>
    rw [hg] at hG
    obtain ⟨n, n0, n7, hG2, hg5, hRM⟩ := hG
    generalize hT : up (up (up (up (up S 165 0 (S 142 34)) 165 1 (nI s)) 165 2 (pl V (mr S) s)) 165 3 (nI (pop k))) 165 4 (S 159 s) = T
    have hT1 : ∀ a, a ≠ 165 → T a = S a := fun a ha => by subst hT; simp only [up_ne ha]
    obtain ⟨T2, e2, hT2⟩ := hRM T (fun j _ => by rw [hT1 _ (by omega)])
    have hT3 : ∀ a, a ≠ 165 → a ≠ 166 → T2 a = S a := fun a h1 h2 => by rw [hT2 a h2, hT1 a h1]
    have hvals : g (T 165) = g (row5 (mr S 0) (nI s) (pl V (mr S) s) (popI (mr S (2 + s))) (mr S (8 + s))) := by
      apply hg5
      intro i hi
      rw [ek, ← hT, mr_p (by omega)]
      unfold popI
      rw [nI_clamp (by omega)]
      simp only [up_row]
      exact row5_upd i hi
    have hTd : T 145 3 = nI n := by rw [hT1 145 (by decide)]; exact hG2
    have hTe : T2 145 0 = nI (vF V) := by rw [hT3 145 (by decide) (by decide)]; exact hF
    have hmr : mr T2 = mr S := by
      funext j; unfold mr
      rw [hT3 142 (by decide) (by decide), hT3 158 (by decide) (by decide), hT3 159 (by decide) (by decide), hT3 160 (by decide) (by decide), hT3 161 (by decide) (by decide), hT3 162 (by decide) (by decide)]
    rw [hG2]
    simp (disch := omega) only [nI_leE, nI_ltE, nI_eqE, nI_m1, c0a, c0b, c0c, c0d, c0e, c1a, c1b, c1c, c1d, c1e, c2a, c2b, c2c, c2d, c2e, c3a, c3b, c3c, c3d, c3e, c4a, c4b, c4c, c4d, c4e, c5a, c5b, c5c, c5d, c5e, c6a, c6b, c6c, c6d, c6e, c7a, c7b, c7c, c7d, c7e, c8a, c8b, c8c, c8d, c8e, c9a, c9b, c9c, c9d, c9e, c10a, c10b, c10c, c10d, c10e, c12a, c12b, c12c, c12d, c12e, c14a, c14b, c14c, c14d, c14e, c16a, c16b, c16c, c16d, c16e, c20a, c20b, c20c, c20d, c20e, c30a, c30b, c30c, c30d, c30e, c32a, c32b, c32c, c32d, c32e, c36a, c36b, c36c, c36d, c36e, c40a, c40b, c40c, c40d, c40e, c41a, c41b, c41c, c41d, c41e, c42a, c42b, c42c, c42d, c42e, c43a, c43b, c43c, c43d, c43e, c45a, c45b, c45c, c45d, c45e, c47a, c47b, c47c, c47d, c47e, c48a, c48b, c48c, c48d, c48e, c57a, c57b, c57c, c57d, c57e, c59a, c59b, c59c, c59d, c59e, c60a, c60b, c60c, c60d, c60e, c61a, c61b, c61c, c61d, c61e, c62a, c62b, c62c, c62d, c62e, c64a, c64b, c64c, c64d, c64e, c96a, c96b, c96c, c96d, c96e, c97a, c97b, c97c, c97d, c97e, c98a, c98b, c98c, c98d, c98e, c99a, c99b, c99c, c99d, c99e, c100a, c100b, c100c, c100d, c100e, c122a, c122b, c122c, c122d, c122e, c700a, c700b, c700c, c700d, c700e, c4240a, c4240b, c4240c, c4240d, c4240e, c9999a, c9999b, c9999c, c9999d, c9999e, c100000a, c100000b, c100000c, c100000d, c100000e, c1000000a, c1000000b, c1000000c, c1000000d, c1000000e, if_F, wr145, wr146, wr147, wr148, wr149, wr150, wr151, wr152, wr153, wr154, wr155, wr156, wr157, wr158, wr159, wr160, wr161, wr162, wr163, wr164, wr165, wr166, wr167, wr168, wr169, wr170, wr171, wr172, wr173, wr174, wr175, wr176, wr177, wr178, wr179, wr180, wr181, wr182, wr183, wr184, wr185, wr145_5, wr145_6, wr145_7, wr156_0, wr156_1, wr165_0, wr165_1, wr165_2, wr165_3, wr165_4, rd145, rd146, rd147, rd148, rd149, rd150, rd151, rd152, rd153, rd154, rd155, rd156, rd157, rd158, rd159, rd160, rd161, rd162, rd163, rd164, rd165, rd166, rd167, rd168, rd169, rd170, rd171, rd172, rd173, rd174, rd175, rd176, rd177, rd178, rd179, rd180, rd181, rd182, rd183, rd184, rd185, rd145_0, rd145_2, rd145_3, rd145_4, rd145_5, rd145_6, rd145_7, rd156_0, rd156_1, rd166_0, rd178_0, up_ne, ek', M_bits, bd_s, bv_s, bt_s, bt_x, vl_s, pf_s, ri_s, rz_0, rz_1, tri_s, trz_0, trz_1, trx_s, pz_0, pz_1, nI_add, pk_mul, up_at, la2, la5, la6, la8, la14, la62, la64, la98, la700, ra1, ra2, ra6, ra8, ra12, ra20, ra36, ra48, lm6, lm8, lm10, lm100, lm106, rm6, rm8, rm10, rm100, rm106, hT, hTd, hG2, e2, hTe, BX10_tuneOf_104, M_tune105, hmr]
    unfold rm'
    rw [if_neg (nI_ne0 hF0 (by omega))]
    have e : tuA V (mr S) s = fmod (g (T 165)) (vF V) := by unfold tuA; rw [hg, hvals]
    have z : ∀ x : Int32, (0 ≤ x) = ¬ (x < 0) := fun x => propext (by rw [Int32.le_iff_toInt_le, Int32.lt_iff_toInt_lt]; omega)
    simp only [z]
    by_cases c : g (T 165) - g (T 165) / nI (vF V) * nI (vF V) < 0
    · rw [if_neg (fun q => q c)]
      refine ok_some ⟨?_, hT3⟩
      unfold tuI
      rw [e]; unfold fmod; rw [if_pos c]
    · rw [if_pos c]
      refine ok_some ⟨?_, hT3⟩
      unfold tuI
      rw [e]; unfold fmod; rw [if_neg c]
theorem M_isTr {V : Vy} {hm : Nat} {S : St} (hM : VM V S) (hr : ROk V hm (mr S)) (hm9 : hm ≤ 20000) {s t : Nat} (hs : s < vS' V) (ht : t < vF V) : fX10_isTrespass (nI s) (nI t) S = some (if tre V (mr S) s t then 1 else 0, S) := by
  have hV := hM.1
  have hS6 := hV.2.1
  have hF8 := hV.1
  have ep := M_placeOf hM hr hm9 hs
  unfold fX10_isTrespass tre
  simp (disch := omega) only [bd_s, bv_s, bt_s, bt_x, vl_s, pf_s, ri_s, rz_0, rz_1, tri_s, trz_0, trz_1, trx_s, pz_0, pz_1, nI_add, pk_mul, up_at, la2, la5, la6, la8, la14, la62, la64, la98, la700, ra1, ra2, ra6, ra8, ra12, ra20, ra36, ra48, lm6, lm8, lm10, lm100, lm106, rm6, rm8, rm10, rm100, rm106, rd145, rd146, rd147, rd148, rd149, rd150, rd151, rd152, rd153, rd154, rd155, rd156, rd157, rd158, rd159, rd160, rd161, rd162, rd163, rd164, rd165, rd166, rd167, rd168, rd169, rd170, rd171, rd172, rd173, rd174, rd175, rd176, rd177, rd178, rd179, rd180, rd181, rd182, rd183, rd184, rd185, rd145_0, rd145_2, rd145_3, rd145_4, rd145_5, rd145_6, rd145_7, rd156_0, rd156_1, rd166_0, rd178_0, ep]
  rw [mr_e (by omega), mr_o]
  by_cases c1 : nI t = pl V (mr S) s
  · simp [c1, rz_0]
  · by_cases c2 : S 160 (8 * s + t) = 0
    · by_cases c3 : S 162 t = -1
      · simp [c1, c2, c3, rz_0]
      · by_cases c4 : S 162 t = nI s
        · simp [c1, c2, c4, rz_0]
        · simp [c1, c2, c3, c4, rz_1]
    · simp [c1, c2, rz_0]
theorem M_fineOf {V : Vy} {hm : Nat} {S : St} (hM : VM V S) (hr : ROk V hm (mr S)) (hm9 : hm ≤ 20000) {s t n : Nat} (hs : s < vS' V) (ht : t < vF V) : ok (fX10_fineOf (nI s) (nI t) (nI n) S) (fun q => q.1 = fin V (mr S) s t n ∧ ∀ a, a ≠ 165 → a ≠ 166 → q.2 a = S a) := by
  have hV := hM.1
  have hS6 := hV.2.1
  have hF8 := hV.1
  obtain ⟨f, hf, ef, ef2⟩ := pl_ok hr hV hm9 hs
  have ep := M_placeOf hM hr hm9 hs
  rw [ef] at ep
  have hD := hM.2.2.2.2.2.1 f t hf ht
  obtain ⟨hA, hTn⟩ := hM.2.2.2.2.2.2.1 t ht
  have hH := hM.2.2.2.2.2.2.2.2
  obtain ⟨d, hd, ed⟩ := hV.2.2.2.2.1 f t hf ht
  have key : ∀ x : Int32, x = vD V f t → ok (BX10_fineOf_40 (nI s) (nI t) (nI n) x S) (fun q => q.1 = fin V (mr S) s t n ∧ ∀ a, a ≠ 165 → a ≠ 166 → q.2 a = S a) := by
    intro x hx
    unfold BX10_fineOf_40 fin
    rw [ef2]
    cases hg : vH V with
    | none =>
      rw [hg] at hH
      have hG2 : S 145 4 = 0 := hH
      simp (disch := omega) only [bd_s, bv_s, bt_s, bt_x, vl_s, pf_s, ri_s, rz_0, rz_1, tri_s, trz_0, trz_1, trx_s, pz_0, pz_1, nI_add, pk_mul, up_at, la2, la5, la6, la8, la14, la62, la64, la98, la700, ra1, ra2, ra6, ra8, ra12, ra20, ra36, ra48, lm6, lm8, lm10, lm100, lm106, rm6, rm8, rm10, rm100, rm106, rd145, rd146, rd147, rd148, rd149, rd150, rd151, rd152, rd153, rd154, rd155, rd156, rd157, rd158, rd159, rd160, rd161, rd162, rd163, rd164, rd165, rd166, rd167, rd168, rd169, rd170, rd171, rd172, rd173, rd174, rd175, rd176, rd177, rd178, rd179, rd180, rd181, rd182, rd183, rd184, rd185, rd145_0, rd145_2, rd145_3, rd145_4, rd145_5, rd145_6, rd145_7, rd156_0, rd156_1, rd166_0, rd178_0, hG2, if_T]
      rw [if_pos trivial]
      refine ok_some ⟨?_, fun _ _ _ => rfl⟩
      show _ = clp (vD V f t)
      unfold clp
      rw [hx, ed]
      simp (disch := omega) only [nI_leE, nI_ltE, nI_eqE, nI_m1, c0a, c0b, c0c, c0d, c0e, c1a, c1b, c1c, c1d, c1e, c2a, c2b, c2c, c2d, c2e, c3a, c3b, c3c, c3d, c3e, c4a, c4b, c4c, c4d, c4e, c5a, c5b, c5c, c5d, c5e, c6a, c6b, c6c, c6d, c6e, c7a, c7b, c7c, c7d, c7e, c8a, c8b, c8c, c8d, c8e, c9a, c9b, c9c, c9d, c9e, c10a, c10b, c10c, c10d, c10e, c12a, c12b, c12c, c12d, c12e, c14a, c14b, c14c, c14d, c14e, c16a, c16b, c16c, c16d, c16e, c20a, c20b, c20c, c20d, c20e, c30a, c30b, c30c, c30d, c30e, c32a, c32b, c32c, c32d, c32e, c36a, c36b, c36c, c36d, c36e, c40a, c40b, c40c, c40d, c40e, c41a, c41b, c41c, c41d, c41e, c42a, c42b, c42c, c42d, c42e, c43a, c43b, c43c, c43d, c43e, c45a, c45b, c45c, c45d, c45e, c47a, c47b, c47c, c47d, c47e, c48a, c48b, c48c, c48d, c48e, c57a, c57b, c57c, c57d, c57e, c59a, c59b, c59c, c59d, c59e, c60a, c60b, c60c, c60d, c60e, c61a, c61b, c61c, c61d, c61e, c62a, c62b, c62c, c62d, c62e, c64a, c64b, c64c, c64d, c64e, c96a, c96b, c96c, c96d, c96e, c97a, c97b, c97c, c97d, c97e, c98a, c98b, c98c, c98d, c98e, c99a, c99b, c99c, c99d, c99e, c100a, c100b, c100c, c100d, c100e, c122a, c122b, c122c, c122d, c122e, c700a, c700b, c700c, c700d, c700e, c4240a, c4240b, c4240c, c4240d, c4240e, c9999a, c9999b, c9999c, c9999d, c9999e, c100000a, c100000b, c100000c, c100000d, c100000e, c1000000a, c1000000b, c1000000c, c1000000d, c1000000e]
      by_cases c : d < 99
      · simp only [if_pos c]
        by_cases c0 : 0 < d
        · rw [if_pos]; simp (disch := omega) only [nI_leE, nI_ltE, nI_eqE, nI_m1, c0a, c0b, c0c, c0d, c0e, c1a, c1b, c1c, c1d, c1e, c2a, c2b, c2c, c2d, c2e, c3a, c3b, c3c, c3d, c3e, c4a, c4b, c4c, c4d, c4e, c5a, c5b, c5c, c5d, c5e, c6a, c6b, c6c, c6d, c6e, c7a, c7b, c7c, c7d, c7e, c8a, c8b, c8c, c8d, c8e, c9a, c9b, c9c, c9d, c9e, c10a, c10b, c10c, c10d, c10e, c12a, c12b, c12c, c12d, c12e, c14a, c14b, c14c, c14d, c14e, c16a, c16b, c16c, c16d, c16e, c20a, c20b, c20c, c20d, c20e, c30a, c30b, c30c, c30d, c30e, c32a, c32b, c32c, c32d, c32e, c36a, c36b, c36c, c36d, c36e, c40a, c40b, c40c, c40d, c40e, c41a, c41b, c41c, c41d, c41e, c42a, c42b, c42c, c42d, c42e, c43a, c43b, c43c, c43d, c43e, c45a, c45b, c45c, c45d, c45e, c47a, c47b, c47c, c47d, c47e, c48a, c48b, c48c, c48d, c48e, c57a, c57b, c57c, c57d, c57e, c59a, c59b, c59c, c59d, c59e, c60a, c60b, c60c, c60d, c60e, c61a, c61b, c61c, c61d, c61e, c62a, c62b, c62c, c62d, c62e, c64a, c64b, c64c, c64d, c64e, c96a, c96b, c96c, c96d, c96e, c97a, c97b, c97c, c97d, c97e, c98a, c98b, c98c, c98d, c98e, c99a, c99b, c99c, c99d, c99e, c100a, c100b, c100c, c100d, c100e, c122a, c122b, c122c, c122d, c122e, c700a, c700b, c700c, c700d, c700e, c4240a, c4240b, c4240c, c4240d, c4240e, c9999a, c9999b, c9999c, c9999d, c9999e, c100000a, c100000b, c100000c, c100000d, c100000e, c1000000a, c1000000b, c1000000c, c1000000d, c1000000e]; exact c0
        · rw [if_neg]
          · have : d = 0 := by omega
            subst this; rfl
          · simp (disch := omega) only [nI_leE, nI_ltE, nI_eqE, nI_m1, c0a, c0b, c0c, c0d, c0e, c1a, c1b, c1c, c1d, c1e, c2a, c2b, c2c, c2d, c2e, c3a, c3b, c3c, c3d, c3e, c4a, c4b, c4c, c4d, c4e, c5a, c5b, c5c, c5d, c5e, c6a, c6b, c6c, c6d, c6e, c7a, c7b, c7c, c7d, c7e, c8a, c8b, c8c, c8d, c8e, c9a, c9b, c9c, c9d, c9e, c10a, c10b, c10c, c10d, c10e, c12a, c12b, c12c, c12d, c12e, c14a, c14b, c14c, c14d, c14e, c16a, c16b, c16c, c16d, c16e, c20a, c20b, c20c, c20d, c20e, c30a, c30b, c30c, c30d, c30e, c32a, c32b, c32c, c32d, c32e, c36a, c36b, c36c, c36d, c36e, c40a, c40b, c40c, c40d, c40e, c41a, c41b, c41c, c41d, c41e, c42a, c42b, c42c, c42d, c42e, c43a, c43b, c43c, c43d, c43e, c45a, c45b, c45c, c45d, c45e, c47a, c47b, c47c, c47d, c47e, c48a, c48b, c48c, c48d, c48e, c57a, c57b, c57c, c57d, c57e, c59a, c59b, c59c, c59d, c59e, c60a, c60b, c60c, c60d, c60e, c61a, c61b, c61c, c61d, c61e, c62a, c62b, c62c, c62d, c62e, c64a, c64b, c64c, c64d, c64e, c96a, c96b, c96c, c96d, c96e, c97a, c97b, c97c, c97d, c97e, c98a, c98b, c98c, c98d, c98e, c99a, c99b, c99c, c99d, c99e, c100a, c100b, c100c, c100d, c100e, c122a, c122b, c122c, c122d, c122e, c700a, c700b, c700c, c700d, c700e, c4240a, c4240b, c4240c, c4240d, c4240e, c9999a, c9999b, c9999c, c9999d, c9999e, c100000a, c100000b, c100000c, c100000d, c100000e, c1000000a, c1000000b, c1000000c, c1000000d, c1000000e]; exact c0
      · simp only [if_neg c]
        rfl
    | some g =>
      rw [hg] at hH
      obtain ⟨m, n0, n7, hG2, hg5, hRM⟩ := hH
      generalize hT : up (up (up (up (up S 165 0 x) 165 1 (S 146 t)) 165 2 (S 147 t)) 165 3 (nI n)) 165 4 (S 159 s) = T
      have hT1 : ∀ a, a ≠ 165 → T a = S a := fun a ha => by subst hT; simp only [up_ne ha]
      obtain ⟨T2, e2, hT2⟩ := hRM T (fun j _ => by rw [hT1 _ (by omega)])
      have hT3 : ∀ a, a ≠ 165 → a ≠ 166 → T2 a = S a := fun a h1 h2 => by rw [hT2 a h2, hT1 a h1]
      have hvals : g (T 165) = g (row5 (vD V f t) (vA V t) (vT V t) (nI n) (mr S (8 + s))) := by
        apply hg5
        intro i hi
        rw [← hx, ← hA, ← hTn, ← hT, mr_p (by omega)]
        simp only [up_row]
        exact row5_upd i hi
      have hTd : T 145 4 = nI m := by rw [hT1 145 (by decide)]; exact hG2
      simp (disch := omega) only [bd_s, bv_s, bt_s, bt_x, vl_s, pf_s, ri_s, rz_0, rz_1, tri_s, trz_0, trz_1, trx_s, pz_0, pz_1, nI_add, pk_mul, up_at, la2, la5, la6, la8, la14, la62, la64, la98, la700, ra1, ra2, ra6, ra8, ra12, ra20, ra36, ra48, lm6, lm8, lm10, lm100, lm106, rm6, rm8, rm10, rm100, rm106, rd145, rd146, rd147, rd148, rd149, rd150, rd151, rd152, rd153, rd154, rd155, rd156, rd157, rd158, rd159, rd160, rd161, rd162, rd163, rd164, rd165, rd166, rd167, rd168, rd169, rd170, rd171, rd172, rd173, rd174, rd175, rd176, rd177, rd178, rd179, rd180, rd181, rd182, rd183, rd184, rd185, rd145_0, rd145_2, rd145_3, rd145_4, rd145_5, rd145_6, rd145_7, rd156_0, rd156_1, rd166_0, rd178_0, hG2, nI_leE, nI_ltE, nI_eqE, nI_m1, c0a, c0b, c0c, c0d, c0e, c1a, c1b, c1c, c1d, c1e, c2a, c2b, c2c, c2d, c2e, c3a, c3b, c3c, c3d, c3e, c4a, c4b, c4c, c4d, c4e, c5a, c5b, c5c, c5d, c5e, c6a, c6b, c6c, c6d, c6e, c7a, c7b, c7c, c7d, c7e, c8a, c8b, c8c, c8d, c8e, c9a, c9b, c9c, c9d, c9e, c10a, c10b, c10c, c10d, c10e, c12a, c12b, c12c, c12d, c12e, c14a, c14b, c14c, c14d, c14e, c16a, c16b, c16c, c16d, c16e, c20a, c20b, c20c, c20d, c20e, c30a, c30b, c30c, c30d, c30e, c32a, c32b, c32c, c32d, c32e, c36a, c36b, c36c, c36d, c36e, c40a, c40b, c40c, c40d, c40e, c41a, c41b, c41c, c41d, c41e, c42a, c42b, c42c, c42d, c42e, c43a, c43b, c43c, c43d, c43e, c45a, c45b, c45c, c45d, c45e, c47a, c47b, c47c, c47d, c47e, c48a, c48b, c48c, c48d, c48e, c57a, c57b, c57c, c57d, c57e, c59a, c59b, c59c, c59d, c59e, c60a, c60b, c60c, c60d, c60e, c61a, c61b, c61c, c61d, c61e, c62a, c62b, c62c, c62d, c62e, c64a, c64b, c64c, c64d, c64e, c96a, c96b, c96c, c96d, c96e, c97a, c97b, c97c, c97d, c97e, c98a, c98b, c98c, c98d, c98e, c99a, c99b, c99c, c99d, c99e, c100a, c100b, c100c, c100d, c100e, c122a, c122b, c122c, c122d, c122e, c700a, c700b, c700c, c700d, c700e, c4240a, c4240b, c4240c, c4240d, c4240e, c9999a, c9999b, c9999c, c9999d, c9999e, c100000a, c100000b, c100000c, c100000d, c100000e, c1000000a, c1000000b, c1000000c, c1000000d, c1000000e, if_F, wr145, wr146, wr147, wr148, wr149, wr150, wr151, wr152, wr153, wr154, wr155, wr156, wr157, wr158, wr159, wr160, wr161, wr162, wr163, wr164, wr165, wr166, wr167, wr168, wr169, wr170, wr171, wr172, wr173, wr174, wr175, wr176, wr177, wr178, wr179, wr180, wr181, wr182, wr183, wr184, wr185, wr145_5, wr145_6, wr145_7, wr156_0, wr156_1, wr165_0, wr165_1, wr165_2, wr165_3, wr165_4, up_ne, hT, hTd, e2]
      exact ok_some ⟨by rw [← hvals]; rfl, hT3⟩
  unfold fX10_fineOf
  simp (disch := omega) only [bd_s, bv_s, bt_s, bt_x, vl_s, pf_s, ri_s, rz_0, rz_1, tri_s, trz_0, trz_1, trx_s, pz_0, pz_1, nI_add, pk_mul, up_at, la2, la5, la6, la8, la14, la62, la64, la98, la700, ra1, ra2, ra6, ra8, ra12, ra20, ra36, ra48, lm6, lm8, lm10, lm100, lm106, rm6, rm8, rm10, rm100, rm106, ep, rd145, rd146, rd147, rd148, rd149, rd150, rd151, rd152, rd153, rd154, rd155, rd156, rd157, rd158, rd159, rd160, rd161, rd162, rd163, rd164, rd165, rd166, rd167, rd168, rd169, rd170, rd171, rd172, rd173, rd174, rd175, rd176, rd177, rd178, rd179, rd180, rd181, rd182, rd183, rd184, rd185, rd145_0, rd145_2, rd145_3, rd145_4, rd145_5, rd145_6, rd145_7, rd156_0, rd156_1, rd166_0, rd178_0]
  by_cases c : S 164 (8 * f + t) < 100000
  · rw [if_pos c] at hD ⊢
    exact key _ hD
  · rw [if_neg c] at hD ⊢
    exact key _ hD
theorem M_kept {x : Int32} {S : St} : fX10_kept x S = some (lo9 (hi9 x), S) := rfl
theorem kept_lo {x : Int32} (h : x.toInt ≤ 9999) : lo9 (hi9 x) = lo9 x := by
  unfold hi9
  have z : (9999 : Int32).toInt = 9999 := rfl
  split
  · rfl
  · rename_i q
    rw [Int32.lt_iff_toInt_lt] at q
    congr 1
    exact Int32.toInt_inj.mp (by omega)
theorem kept_hi {x : Int32} (h : -9999 ≤ x.toInt) : lo9 (hi9 x) = hi9 x := by
  have := (hi9_ok h).1
  unfold lo9
  have z : (-9999 : Int32).toInt = -9999 := rfl
  split
  · rfl
  · rename_i q
    rw [Int32.lt_iff_toInt_lt] at q
    exact Int32.toInt_inj.mp (by omega)
/-- what the reference's hour may touch -/
def mFr (S S' : St) : Prop := (∀ a, (a < 142 ∨ 168 < a ∨ (142 < a ∧ a < 158) ∨ a = 163 ∨ a = 164) → S' a = S a) ∧ ∀ j, j ≠ 34 → j ≠ 35 → S' 142 j = S 142 j
theorem mFr.rf {S : St} : mFr S S := ⟨fun _ _ => rfl, fun _ _ _ => rfl⟩
theorem mFr.tr {S T U : St} (h : mFr S T) (g : mFr T U) : mFr S U := ⟨fun a ha => (g.1 a ha).trans (h.1 a ha), fun j h1 h2 => (g.2 j h1 h2).trans (h.2 j h1 h2)⟩
theorem mFr.up {S T : St} (h : mFr S T) {a i : Nat} {x : Int32} (ha : (158 ≤ a ∧ a ≤ 168 ∧ a ≠ 163 ∧ a ≠ 164) ∨ (a = 142 ∧ (i = 34 ∨ i = 35))) : mFr S (up T a i x) := by
  refine ⟨fun b hb => ?_, fun j h1 h2 => ?_⟩
  · rw [up_ne (by omega)]; exact h.1 b hb
  · rw [up_2, if_neg (by omega)]; exact h.2 j h1 h2
theorem VM.fr {V : Vy} {S S' : St} (h : VM V S) (hf : mFr S S') : VM V S' := h.go (fun a ha => hf.1 a (by omega))
theorem mFr.of {S T : St} (h : ∀ a, a ≠ 165 → a ≠ 166 → T a = S a) : mFr S T := ⟨fun a ha => h a (by omega) (by omega), fun j _ _ => by rw [h 142 (by decide) (by decide)]⟩
theorem mr_of {S T : St} (h : ∀ a, a ≠ 165 → a ≠ 166 → T a = S a) : mr T = mr S := by
  funext j; unfold mr
  rw [h 142 (by decide) (by decide), h 158 (by decide) (by decide), h 159 (by decide) (by decide), h 160 (by decide) (by decide), h 161 (by decide) (by decide), h 162 (by decide) (by decide)]
theorem M_hear {V : Vy} {S : St} (hM : VM V S) {t hs : Nat} {p : Nat → Bool} (ht : t < vF V) (hh : ∀ q, q < vS' V → bit (nI hs) (nI q) = p q) : ok (BX10_sing_174 (nI t) (nI hs) S) (fun S' => (∀ j, mr S' j = if 2 ≤ j ∧ j < 2 + vS' V ∧ p (j - 2) = true then mr S j ||| pw (nI t) else mr S j) ∧ ∀ a, a ≠ 158 → S' a = S a) := by
  have hV := hM.1
  have hS6 := hV.2.1
  have hF8 := hV.1
  have h2 := hM.2.2.1
  unfold BX10_sing_174
  refine ok_for (fun n i T => LX10_sing_177 n (nI t) (nI hs) (nI i) T) _ (fun i T => (∀ j, mr T j = if 2 ≤ j ∧ j < 2 + i ∧ p (j - 2) = true then mr S j ||| pw (nI t) else mr S j) ∧ ∀ a, a ≠ 158 → T a = S a) (vS' V) ?_ ?_ FU 0 S (by omega) (by unfold FU; omega) ⟨fun j => by rw [if_neg (by omega)], fun _ _ => rfl⟩
  · intro n T hI
    have e2 : T 145 2 = nI (vS' V) := by rw [hI.2 145 (by decide)]; exact h2
    simp (disch := omega) only [LX10_sing_177, KX10_sing_177, rd145, rd146, rd147, rd148, rd149, rd150, rd151, rd152, rd153, rd154, rd155, rd156, rd157, rd158, rd159, rd160, rd161, rd162, rd163, rd164, rd165, rd166, rd167, rd168, rd169, rd170, rd171, rd172, rd173, rd174, rd175, rd176, rd177, rd178, rd179, rd180, rd181, rd182, rd183, rd184, rd185, rd145_0, rd145_2, rd145_3, rd145_4, rd145_5, rd145_6, rd145_7, rd156_0, rd156_1, rd166_0, rd178_0, e2, nI_leE, nI_ltE, nI_eqE, nI_m1, c0a, c0b, c0c, c0d, c0e, c1a, c1b, c1c, c1d, c1e, c2a, c2b, c2c, c2d, c2e, c3a, c3b, c3c, c3d, c3e, c4a, c4b, c4c, c4d, c4e, c5a, c5b, c5c, c5d, c5e, c6a, c6b, c6c, c6d, c6e, c7a, c7b, c7c, c7d, c7e, c8a, c8b, c8c, c8d, c8e, c9a, c9b, c9c, c9d, c9e, c10a, c10b, c10c, c10d, c10e, c12a, c12b, c12c, c12d, c12e, c14a, c14b, c14c, c14d, c14e, c16a, c16b, c16c, c16d, c16e, c20a, c20b, c20c, c20d, c20e, c30a, c30b, c30c, c30d, c30e, c32a, c32b, c32c, c32d, c32e, c36a, c36b, c36c, c36d, c36e, c40a, c40b, c40c, c40d, c40e, c41a, c41b, c41c, c41d, c41e, c42a, c42b, c42c, c42d, c42e, c43a, c43b, c43c, c43d, c43e, c45a, c45b, c45c, c45d, c45e, c47a, c47b, c47c, c47d, c47e, c48a, c48b, c48c, c48d, c48e, c57a, c57b, c57c, c57d, c57e, c59a, c59b, c59c, c59d, c59e, c60a, c60b, c60c, c60d, c60e, c61a, c61b, c61c, c61d, c61e, c62a, c62b, c62c, c62d, c62e, c64a, c64b, c64c, c64d, c64e, c96a, c96b, c96c, c96d, c96e, c97a, c97b, c97c, c97d, c97e, c98a, c98b, c98c, c98d, c98e, c99a, c99b, c99c, c99d, c99e, c100a, c100b, c100c, c100d, c100e, c122a, c122b, c122c, c122d, c122e, c700a, c700b, c700c, c700d, c700e, c4240a, c4240b, c4240c, c4240d, c4240e, c9999a, c9999b, c9999c, c9999d, c9999e, c100000a, c100000b, c100000c, c100000d, c100000e, c1000000a, c1000000b, c1000000c, c1000000d, c1000000e, if_T]
    exact ok_some hI
  · intro n i T hi hI ih
    obtain ⟨i1, i3⟩ := hI
    have e2 : T 145 2 = nI (vS' V) := by rw [i3 145 (by decide)]; exact h2
    have hb := hh i hi
    simp (disch := omega) only [LX10_sing_177, KX10_sing_177, rd145, rd146, rd147, rd148, rd149, rd150, rd151, rd152, rd153, rd154, rd155, rd156, rd157, rd158, rd159, rd160, rd161, rd162, rd163, rd164, rd165, rd166, rd167, rd168, rd169, rd170, rd171, rd172, rd173, rd174, rd175, rd176, rd177, rd178, rd179, rd180, rd181, rd182, rd183, rd184, rd185, rd145_0, rd145_2, rd145_3, rd145_4, rd145_5, rd145_6, rd145_7, rd156_0, rd156_1, rd166_0, rd178_0, e2, nI_leE, nI_ltE, nI_eqE, nI_m1, c0a, c0b, c0c, c0d, c0e, c1a, c1b, c1c, c1d, c1e, c2a, c2b, c2c, c2d, c2e, c3a, c3b, c3c, c3d, c3e, c4a, c4b, c4c, c4d, c4e, c5a, c5b, c5c, c5d, c5e, c6a, c6b, c6c, c6d, c6e, c7a, c7b, c7c, c7d, c7e, c8a, c8b, c8c, c8d, c8e, c9a, c9b, c9c, c9d, c9e, c10a, c10b, c10c, c10d, c10e, c12a, c12b, c12c, c12d, c12e, c14a, c14b, c14c, c14d, c14e, c16a, c16b, c16c, c16d, c16e, c20a, c20b, c20c, c20d, c20e, c30a, c30b, c30c, c30d, c30e, c32a, c32b, c32c, c32d, c32e, c36a, c36b, c36c, c36d, c36e, c40a, c40b, c40c, c40d, c40e, c41a, c41b, c41c, c41d, c41e, c42a, c42b, c42c, c42d, c42e, c43a, c43b, c43c, c43d, c43e, c45a, c45b, c45c, c45d, c45e, c47a, c47b, c47c, c47d, c47e, c48a, c48b, c48c, c48d, c48e, c57a, c57b, c57c, c57d, c57e, c59a, c59b, c59c, c59d, c59e, c60a, c60b, c60c, c60d, c60e, c61a, c61b, c61c, c61d, c61e, c62a, c62b, c62c, c62d, c62e, c64a, c64b, c64c, c64d, c64e, c96a, c96b, c96c, c96d, c96e, c97a, c97b, c97c, c97d, c97e, c98a, c98b, c98c, c98d, c98e, c99a, c99b, c99c, c99d, c99e, c100a, c100b, c100c, c100d, c100e, c122a, c122b, c122c, c122d, c122e, c700a, c700b, c700c, c700d, c700e, c4240a, c4240b, c4240c, c4240d, c4240e, c9999a, c9999b, c9999c, c9999d, c9999e, c100000a, c100000b, c100000c, c100000d, c100000e, c1000000a, c1000000b, c1000000c, c1000000d, c1000000e, if_F, M_isOf, hb, bd_s, bv_s, bt_s, bt_x, vl_s, pf_s, ri_s, rz_0, rz_1, tri_s, trz_0, trz_1, trx_s, pz_0, pz_1, nI_add, pk_mul, up_at, la2, la5, la6, la8, la14, la62, la64, la98, la700, ra1, ra2, ra6, ra8, ra12, ra20, ra36, ra48, lm6, lm8, lm10, lm100, lm106, rm6, rm8, rm10, rm100, rm106, BX10_sing_212, wr145, wr146, wr147, wr148, wr149, wr150, wr151, wr152, wr153, wr154, wr155, wr156, wr157, wr158, wr159, wr160, wr161, wr162, wr163, wr164, wr165, wr166, wr167, wr168, wr169, wr170, wr171, wr172, wr173, wr174, wr175, wr176, wr177, wr178, wr179, wr180, wr181, wr182, wr183, wr184, wr185, wr145_5, wr145_6, wr145_7, wr156_0, wr156_1, wr165_0, wr165_1, wr165_2, wr165_3, wr165_4]
    have e158 : T 158 i = mr S (2 + i) := by rw [← mr_k (S := T) (q := i) (by omega), i1, if_neg (by omega)]
    have step : ∀ x : Int32, x = (if p i = true then mr S (2 + i) ||| pw (nI t) else mr S (2 + i)) → ok (LX10_sing_177 n (nI t) (nI hs) (nI (i + 1)) (up T 158 i x)) (fun S' => (∀ j, mr S' j = if 2 ≤ j ∧ j < 2 + vS' V ∧ p (j - 2) = true then mr S j ||| pw (nI t) else mr S j) ∧ ∀ a, a ≠ 158 → S' a = S a) := by
      intro x hx
      refine ih _ ⟨fun j => ?_, fun b hb => by rw [up_ne hb]; exact i3 b hb⟩
      rw [mr_uk (by omega)]
      by_cases q : j = 2 + i
      · subst q
        rw [upd_at, hx]
        have : (2 ≤ 2 + i ∧ 2 + i < 2 + (i + 1) ∧ p (2 + i - 2) = true) ↔ p i = true := by rw [Nat.add_sub_cancel_left]; exact ⟨fun z => z.2.2, fun z => ⟨by omega, by omega, z⟩⟩
        simp only [this]
      · rw [upd_ne q, i1 j]
        have : (2 ≤ j ∧ j < 2 + i ∧ p (j - 2) = true) ↔ (2 ≤ j ∧ j < 2 + (i + 1) ∧ p (j - 2) = true) := ⟨fun z => ⟨z.1, by omega, z.2.2⟩, fun z => ⟨z.1, by omega, z.2.2⟩⟩
        simp only [this]
    cases hp : p i with
    | true =>
      simp only [if_true]
      rw [if_neg (by decide), e158]
      exact step _ (by rw [hp]; rfl)
    | false =>
      simp only [Bool.false_eq_true, if_false]
      rw [if_pos trivial, e158]
      exact step _ (by rw [hp]; simp)
/-! singing, with one who may be silent -/
def tuZ (V : Vy) (z : Int32) (r : Rw) (s : Nat) : Int32 := if nI s = z then -1 else tuI V r s
def snZ (V : Vy) (z : Int32) (r : Rw) (s : Nat) : Rw := if nI s = z then r else sn V r s
def snsZ (V : Vy) (z : Int32) (r : Rw) : Nat → Rw
  | 0 => r
  | s + 1 => snZ V z (snsZ V z r s) s
def hr1Z (V : Vy) (z : Int32) (r : Rw) : Rw := upd (snsZ V z r (vS' V)) 0 (snsZ V z r (vS' V) 0 + 1)
def hrsZ (V : Vy) (z : Int32) (r : Rw) : Nat → Rw
  | 0 => r
  | n + 1 => hr1Z V z (hrsZ V z r n)
theorem snZ_m {V : Vy} {r : Rw} {s : Nat} (h : s < 2 ^ 31) : snZ V (-1) r s = sn V r s := by unfold snZ; rw [if_neg (nI_ne_m1 h)]
theorem snsZ_m {V : Vy} {r : Rw} : ∀ s, s < 2 ^ 31 → snsZ V (-1) r s = sns V r s := by
  intro s
  induction s with
  | zero => intro _; rfl
  | succ s ih => intro h; show snZ V (-1) (snsZ V (-1) r s) s = sn V (sns V r s) s; rw [ih (by omega), snZ_m (by omega)]
theorem hr1Z_m {V : Vy} {r : Rw} (h : vS' V ≤ 6) : hr1Z V (-1) r = hr1 V r := by unfold hr1Z hr1; rw [snsZ_m _ (by omega)]
theorem hrsZ_m {V : Vy} {r : Rw} (h : vS' V ≤ 6) : ∀ n, hrsZ V (-1) r n = hrs V r n := by
  intro n
  induction n with
  | zero => rfl
  | succ n ih => show hr1Z V (-1) (hrsZ V (-1) r n) = hr1 V (hrs V r n); rw [ih, hr1Z_m h]
def trO (V : Vy) (r : Rw) (s : Nat) (x : Int32) : Int32 := if x = -1 then -1 else if tre V r s x.toNatClampNeg then x else -1
theorem M_sing {V : Vy} {hm : Nat} {S : St} (hM : VM V S) (hr : ROk V hm (mr S)) (hm9 : hm ≤ 20000) {s : Nat} (hs : s < vS' V) {z : Int32} (hz : S 142 41 = z) : ok (fX10_sing (nI s) S) (fun S' => mr S' = snZ V z (mr S) s ∧ S' 167 = upd (S 167) s (tuZ V z (mr S) s) ∧ S' 168 = upd (S 168) s (trO V (mr S) s (tuZ V z (mr S) s)) ∧ mFr S S') := by
  have hV := hM.1
  have hS6 := hV.2.1
  have hF8 := hV.1
  have quiet : ∀ T : St, (∀ a, a ≠ 165 → a ≠ 166 → T a = S a) → ok (BX10_sing_17 (nI s) (-1) T) (fun S' => mr S' = mr S ∧ S' 167 = upd (S 167) s (-1) ∧ S' 168 = upd (S 168) s (-1) ∧ mFr S S') := by
    intro T hT
    unfold BX10_sing_17
    simp (disch := omega) only [wr145, wr146, wr147, wr148, wr149, wr150, wr151, wr152, wr153, wr154, wr155, wr156, wr157, wr158, wr159, wr160, wr161, wr162, wr163, wr164, wr165, wr166, wr167, wr168, wr169, wr170, wr171, wr172, wr173, wr174, wr175, wr176, wr177, wr178, wr179, wr180, wr181, wr182, wr183, wr184, wr185, wr145_5, wr145_6, wr145_7, wr156_0, wr156_1, wr165_0, wr165_1, wr165_2, wr165_3, wr165_4, if_T]
    refine ok_some ⟨?_, ?_, ?_, ((mFr.of hT).up (Or.inl ⟨by omega, by omega, by omega, by omega⟩)).up (Or.inl ⟨by omega, by omega, by omega, by omega⟩)⟩
    · rw [mr_up (by omega) (by omega), mr_up (by omega) (by omega), mr_of hT]
    · rw [up_ne (by decide), up_row, hT 167 (by decide) (by decide)]
    · rw [up_row, up_ne (by decide), hT 168 (by decide) (by decide)]
  unfold fX10_sing
  rw [hz]
  by_cases c : nI s = z
  · rw [if_pos c]
    unfold snZ tuZ trO
    rw [if_pos c, if_pos c, if_pos rfl]
    exact quiet S (fun _ _ _ => rfl)
  · rw [if_neg c]
    unfold snZ tuZ trO
    rw [if_neg c, if_neg c]
    obtain ⟨⟨x2, S1⟩, e1, q1, q2⟩ := M_tuneOf hM hr hm9 hs
    have q1' : x2 = tuI V (mr S) s := q1
    have q2' : ∀ a, a ≠ 165 → a ≠ 166 → S1 a = S a := q2
    rw [e1, bd_s]
    rcases tuI_ok hr hV hm9 hs with hn | ⟨t, ht, ee, ee2, hbt⟩
    · rw [q1', hn, if_pos rfl]
      unfold sn
      rw [if_pos hn]
      exact quiet S1 q2'
    · have hxn : ¬ nI t = -1 := nI_ne_m1 (by omega)
      rw [q1', ee, if_neg hxn, nI_clamp (by omega)]
      unfold sn
      rw [ee2, if_neg (by rw [ee]; exact hxn)]
      unfold BX10_sing_17
      simp (disch := omega) only [wr145, wr146, wr147, wr148, wr149, wr150, wr151, wr152, wr153, wr154, wr155, wr156, wr157, wr158, wr159, wr160, wr161, wr162, wr163, wr164, wr165, wr166, wr167, wr168, wr169, wr170, wr171, wr172, wr173, wr174, wr175, wr176, wr177, wr178, wr179, wr180, wr181, wr182, wr183, wr184, wr185, wr145_5, wr145_6, wr145_7, wr156_0, wr156_1, wr165_0, wr165_1, wr165_2, wr165_3, wr165_4, if_neg hxn]
      generalize hT : up (up S1 167 s (nI t)) 168 s (-1) = T
      have fT : mFr S T := by rw [← hT]; exact ((mFr.of q2').up (Or.inl ⟨by omega, by omega, by omega, by omega⟩)).up (Or.inl ⟨by omega, by omega, by omega, by omega⟩)
      have mT : mr T = mr S := by rw [← hT, mr_up (by omega) (by omega), mr_up (by omega) (by omega), mr_of q2']
      have T167 : T 167 = upd (S 167) s (nI t) := by rw [← hT, up_ne (by decide), up_row, q2' 167 (by decide) (by decide)]
      have T168 : T 168 = upd (S 168) s (-1) := by rw [← hT, up_row, up_ne (by decide), q2' 168 (by decide) (by decide)]
      have hMT : VM V T := hM.fr fT
      have hrT : ROk V hm (mr T) := by rw [mT]; exact hr
      obtain ⟨f, hf, ef, ef2⟩ := pl_ok hr hV hm9 hs
      have ep := M_placeOf hMT hrT hm9 hs
      rw [mT, ef] at ep
      have eh := M_hearers hMT hrT hm9 (a := f) (but := nI s) hf
      rw [mT] at eh
      have et := M_isTr hMT hrT hm9 hs ht
      rw [mT] at et
      generalize hhb : hbits (hears V (mr S) f (nI s)) (vS' V) = hb at eh
      have hb8 : hb < 256 := by rw [← hhb]; exact Nat.lt_of_lt_of_le (hb_lt _) (Nat.pow_le_pow_right (by decide) (by omega : vS' V ≤ 8))
      have hbb : ∀ q, q < vS' V → bit (nI hb) (nI q) = hears V (mr S) f (nI s) q := fun q hq => by
        rw [bit_N hb hb8 q (by omega), ← hhb, hb_test]
        simp [hq]
      have hpop : pop hb = hearN V (mr S) f (nI s) := by rw [← hhb, hb_pop _ (by omega)]; rfl
      simp (disch := omega) only [ep, eh, et, bd_s, bv_s, bt_s, bt_x, vl_s, pf_s, ri_s, rz_0, rz_1, tri_s, trz_0, trz_1, trx_s, pz_0, pz_1, nI_add, pk_mul, up_at, la2, la5, la6, la8, la14, la62, la64, la98, la700, ra1, ra2, ra6, ra8, ra12, ra20, ra36, ra48, lm6, lm8, lm10, lm100, lm106, rm6, rm8, rm10, rm100, rm106]
      unfold snT
      rw [ef2, ef]
      -- the last loop, from a row r' with the same places
      have last : ∀ (T' : St) (r' : Rw) (x168 : Int32), mr T' = r' → VM V T' → mFr S T' → T' 167 = upd (S 167) s (nI t) → T' 168 = upd (S 168) s x168 → (∀ i, i = 0 ∨ 62 ≤ i → r' i = mr S i) → ok (BX10_sing_174 (nI t) (nI hb) T') (fun S' => mr S' = spr V r' f (nI s) (nI t) ∧ S' 167 = upd (S 167) s (nI t) ∧ S' 168 = upd (S 168) s x168 ∧ mFr S S') := by
        intro T' r' x168 e hM' hf' h167 h168 hco
        obtain ⟨U, eU, u1, u2⟩ := M_hear hM' (t := t) (hs := hb) (p := hears V (mr S) f (nI s)) ht hbb
        refine ⟨U, eU, ?_, by rw [u2 167 (by decide)]; exact h167, by rw [u2 168 (by decide)]; exact h168, hf'.tr ⟨fun a ha => u2 a (by omega), fun j _ _ => by rw [u2 142 (by decide)]⟩⟩
        funext j
        rw [u1 j, e]
        unfold spr
        rw [hears_congr hco]
      cases htr : tre V (mr S) s t with
      | false =>
        simp only [Bool.false_eq_true, if_false]
        rw [if_pos trivial]
        simp (disch := omega) only [nI_leE, nI_ltE, nI_eqE, nI_m1, c0a, c0b, c0c, c0d, c0e, c1a, c1b, c1c, c1d, c1e, c2a, c2b, c2c, c2d, c2e, c3a, c3b, c3c, c3d, c3e, c4a, c4b, c4c, c4d, c4e, c5a, c5b, c5c, c5d, c5e, c6a, c6b, c6c, c6d, c6e, c7a, c7b, c7c, c7d, c7e, c8a, c8b, c8c, c8d, c8e, c9a, c9b, c9c, c9d, c9e, c10a, c10b, c10c, c10d, c10e, c12a, c12b, c12c, c12d, c12e, c14a, c14b, c14c, c14d, c14e, c16a, c16b, c16c, c16d, c16e, c20a, c20b, c20c, c20d, c20e, c30a, c30b, c30c, c30d, c30e, c32a, c32b, c32c, c32d, c32e, c36a, c36b, c36c, c36d, c36e, c40a, c40b, c40c, c40d, c40e, c41a, c41b, c41c, c41d, c41e, c42a, c42b, c42c, c42d, c42e, c43a, c43b, c43c, c43d, c43e, c45a, c45b, c45c, c45d, c45e, c47a, c47b, c47c, c47d, c47e, c48a, c48b, c48c, c48d, c48e, c57a, c57b, c57c, c57d, c57e, c59a, c59b, c59c, c59d, c59e, c60a, c60b, c60c, c60d, c60e, c61a, c61b, c61c, c61d, c61e, c62a, c62b, c62c, c62d, c62e, c64a, c64b, c64c, c64d, c64e, c96a, c96b, c96c, c96d, c96e, c97a, c97b, c97c, c97d, c97e, c98a, c98b, c98c, c98d, c98e, c99a, c99b, c99c, c99d, c99e, c100a, c100b, c100c, c100d, c100e, c122a, c122b, c122c, c122d, c122e, c700a, c700b, c700c, c700d, c700e, c4240a, c4240b, c4240c, c4240d, c4240e, c9999a, c9999b, c9999c, c9999d, c9999e, c100000a, c100000b, c100000c, c100000d, c100000e, c1000000a, c1000000b, c1000000c, c1000000d, c1000000e]
        have e160 : T 160 (8 * s + t) = mr S (14 + s * 8 + t) := by rw [← mT, mr_e (by omega)]
        by_cases c1 : t = f
        · subst c1
          simp only [if_true]
          exact last T _ _ mT hMT fT T167 T168 (fun _ _ => rfl)
        · have hne : ¬ nI t = nI f := by rw [nI_eq (by omega) (by omega)]; exact c1
          simp only [if_neg c1, if_neg hne]
          simp (disch := omega) only [rd145, rd146, rd147, rd148, rd149, rd150, rd151, rd152, rd153, rd154, rd155, rd156, rd157, rd158, rd159, rd160, rd161, rd162, rd163, rd164, rd165, rd166, rd167, rd168, rd169, rd170, rd171, rd172, rd173, rd174, rd175, rd176, rd177, rd178, rd179, rd180, rd181, rd182, rd183, rd184, rd185, rd145_0, rd145_2, rd145_3, rd145_4, rd145_5, rd145_6, rd145_7, rd156_0, rd156_1, rd166_0, rd178_0, e160]
          by_cases d : mr S (14 + s * 8 + t) ≤ 0
          · simp only [if_pos d]
            exact last T _ _ mT hMT fT T167 T168 (fun _ _ => rfl)
          · simp only [if_neg d]
            simp (disch := omega) only [wr145, wr146, wr147, wr148, wr149, wr150, wr151, wr152, wr153, wr154, wr155, wr156, wr157, wr158, wr159, wr160, wr161, wr162, wr163, wr164, wr165, wr166, wr167, wr168, wr169, wr170, wr171, wr172, wr173, wr174, wr175, wr176, wr177, wr178, wr179, wr180, wr181, wr182, wr183, wr184, wr185, wr145_5, wr145_6, wr145_7, wr156_0, wr156_1, wr165_0, wr165_1, wr165_2, wr165_3, wr165_4]
            refine last _ _ _ ?_ (hMT.go (fun a ha => up_ne (by omega))) (fT.up (Or.inl ⟨by omega, by omega, by omega, by omega⟩)) (by rw [up_ne (by decide)]; exact T167) (by rw [up_ne (by decide)]; exact T168) (fun i hi => upd_ne (by omega))
            rw [mr_uE (by omega), mT, show 14 + (8 * s + t) = 14 + s * 8 + t by omega]
      | true =>
        simp only [if_true]
        rw [if_neg (by decide)]
        have ho : ∃ o, o < vS' V ∧ mr S (98 + t) = nI o ∧ ownN (mr S) t = o := by
          rcases own_ok hr hV ht with ⟨e, -⟩ | h
          · unfold tre at htr; simp [e] at htr
          · exact h
        obtain ⟨o, ho1, ho2, ho3⟩ := ho
        obtain ⟨⟨x17, S2⟩, e2, p1, p2⟩ := M_fineOf hMT hrT hm9 (n := hearN V (mr S) f (nI s)) hs ht
        have p1' : x17 = fin V (mr S) s t (hearN V (mr S) f (nI s)) := by rw [show x17 = _ from p1, mT]
        have p2' : ∀ a, a ≠ 165 → a ≠ 166 → S2 a = T a := p2
        have m2 : mr S2 = mr S := by rw [mr_of p2', mT]
        obtain ⟨fn, hfn, efn⟩ := fin_ok V (mr S) s t (hearN V (mr S) f (nI s))
        have x17n : x17 = nI fn := by rw [p1', efn]
        have t17 := nI_toInt (n := fn) (by omega)
        have e159 : S2 159 s = mr S (8 + s) := by rw [← m2, mr_p (by omega)]
        have e162 : S2 162 t = nI o := by rw [← ho2, ← m2, mr_o]
        obtain ⟨b1, b2⟩ := hr.2.2.1 s hs
        have k1 : lo9 (hi9 (mr S (8 + s) - x17)) = lo9 (mr S (8 + s) - x17) := kept_lo (by rw [x17n, i_sub (by omega) (by omega)]; omega)
        have bo : -9999 ≤ (upd (mr S) (8 + s) (lo9 (mr S (8 + s) - x17)) (8 + o)).toInt ∧ (upd (mr S) (8 + s) (lo9 (mr S (8 + s) - x17)) (8 + o)).toInt ≤ 9999 := by
          unfold upd
          split
          · exact lo9_ok (by rw [x17n, i_sub (by omega) (by omega)]; omega)
          · exact hr.2.2.1 o ho1
        have e159b : up S2 159 s (lo9 (mr S (8 + s) - x17)) 159 o = upd (mr S) (8 + s) (lo9 (mr S (8 + s) - x17)) (8 + o) := by
          rw [← mr_p (S := up S2 159 s (lo9 (mr S (8 + s) - x17))) (q := o) (by omega), mr_uP (by omega), m2]
        have k2 : lo9 (hi9 (upd (mr S) (8 + s) (lo9 (mr S (8 + s) - x17)) (8 + o) + x17)) = hi9 (upd (mr S) (8 + s) (lo9 (mr S (8 + s) - x17)) (8 + o) + x17) := kept_hi (by rw [x17n] at bo ⊢; rw [i_add (by omega) (by omega)]; omega)
        simp (disch := omega) only [M_bits, hpop, e2, bd_s, bv_s, bt_s, bt_x, vl_s, pf_s, ri_s, rz_0, rz_1, tri_s, trz_0, trz_1, trx_s, pz_0, pz_1, nI_add, pk_mul, up_at, la2, la5, la6, la8, la14, la62, la64, la98, la700, ra1, ra2, ra6, ra8, ra12, ra20, ra36, ra48, lm6, lm8, lm10, lm100, lm106, rm6, rm8, rm10, rm100, rm106, rd145, rd146, rd147, rd148, rd149, rd150, rd151, rd152, rd153, rd154, rd155, rd156, rd157, rd158, rd159, rd160, rd161, rd162, rd163, rd164, rd165, rd166, rd167, rd168, rd169, rd170, rd171, rd172, rd173, rd174, rd175, rd176, rd177, rd178, rd179, rd180, rd181, rd182, rd183, rd184, rd185, rd145_0, rd145_2, rd145_3, rd145_4, rd145_5, rd145_6, rd145_7, rd156_0, rd156_1, rd166_0, rd178_0, e159, M_kept, k1, wr145, wr146, wr147, wr148, wr149, wr150, wr151, wr152, wr153, wr154, wr155, wr156, wr157, wr158, wr159, wr160, wr161, wr162, wr163, wr164, wr165, wr166, wr167, wr168, wr169, wr170, wr171, wr172, wr173, wr174, wr175, wr176, wr177, wr178, wr179, wr180, wr181, wr182, wr183, wr184, wr185, wr145_5, wr145_6, wr145_7, wr156_0, wr156_1, wr165_0, wr165_1, wr165_2, wr165_3, wr165_4, up_ne, e162, e159b, k2]
        rw [ho3]
        refine last _ _ _ ?_ ?_ ?_ ?_ ?_ (fun i hi => pay_off (by omega) (by omega) (by omega))
        · rw [mr_up1, mr_up (by omega) (by omega), mr_uP (by omega), mr_uP (by omega), m2, ← p1']
          unfold pay
          have e35 : S2 142 35 = mr S 1 := by rw [← m2, mr_1]
          rw [e35]
        · exact hMT.go (fun a ha => by rw [up_ne (by omega), up_ne (by omega), up_ne (by omega), up_ne (by omega)]; exact p2' a (by omega) (by omega))
        · exact ((((fT.tr (mFr.of p2')).up (Or.inl ⟨by omega, by omega, by omega, by omega⟩)).up (Or.inl ⟨by omega, by omega, by omega, by omega⟩)).up (Or.inl ⟨by omega, by omega, by omega, by omega⟩)).up (Or.inr ⟨rfl, Or.inr rfl⟩)
        · simp (disch := omega) only [up_ne]
          rw [p2' 167 (by decide) (by decide)]; exact T167
        · simp (disch := omega) only [up_ne, up_row]
          rw [p2' 168 (by decide) (by decide), T168]
          funext j; unfold upd; split <;> rfl
