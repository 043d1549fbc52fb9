/-! the nearest couple -/
def nst (L : Nat → Nat → Nat) (f g : Nat) (s : Int32 × Int32) : Int32 × Int32 := if nI (L f g) ≤ s.1 then s else (nI (L f g), nI (f * 10 + g))
def nin (L : Nat → Nat → Nat) (f : Nat) : Nat → Int32 × Int32 → Int32 × Int32
  | 0, s => s
  | k + 1, s => nst L f (f + 1 + k) (nin L f k s)
def nou (L : Nat → Nat → Nat) (F : Nat) : Nat → Int32 × Int32
  | 0 => (-1, -1)
  | f + 1 => nin L f (F - (f + 1)) (nou L F f)
/-- what two tunes have in common, by the class's notes -/
def cmn (V : Vy) (v : Nat) (S : St) (a b : Nat) : Nat := lcR (fun i j => decide (S (v + 3) (a * 6 + i) = S (v + 3) (b * 6 + j))) (vT V a).toNatClampNeg (vT V b).toNatClampNeg
theorem A_nearest : Ag1 fX9_nearest fX10_nearest := by
  rintro S ⟨V, v, d, hR⟩
  have hV := hR.vk
  have hF8 := hV.1
  have hv := hR.hv
  generalize hL : cmn V v S = L
  have cc : ∀ (T : St) (a b : Nat), (∀ c, c ≠ 141 → T c = S c) → a < vF V → b < vF V → ∃ T1, fX5_inCommon v (nI a) (nI b) T = some (nI (L a b), T1) ∧ ∀ c, c ≠ 141 → T1 c = S c := by
    intro T a b hT ha hb
    obtain ⟨na, n6, en, ei⟩ := hR.X.2.1 a ha
    obtain ⟨nb, m6, em, ej⟩ := hR.X.2.1 b hb
    obtain ⟨⟨x, T1⟩, e1, p1, p2⟩ := C_common (S := T) (hR.C.go (fun a h1 h2 h3 => hT a (by omega))) ha hb en em n6 m6
    have p2' : ∀ c, c ≠ 141 → T1 c = T c := p2
    refine ⟨T1, ?_, fun c hc => (p2' c hc).trans (hT c hc)⟩
    rw [e1, show x = _ from p1, hT (v + 3) (by omega), ← hL]
    unfold cmn
    rw [en, em, nI_clamp (by omega), nI_clamp (by omega)]
  have mmx : ∀ (T : St) (a b : Nat), (∀ c, c ≠ 141 → c ≠ 170 → (c ≠ 142 → T c = S c)) → a < vF V → b < vF V → ∃ T1, fX10_commonOf (nI a) (nI b) T = some (nI (L a b), T1) ∧ ∀ c, c ≠ 170 → T1 c = T c := by
    intro T a b hT ha hb
    obtain ⟨na, n6, en, ei⟩ := hR.X.2.1 a ha
    obtain ⟨nb, m6, em, ej⟩ := hR.X.2.1 b hb
    have e148 : T 148 = S 148 := hT 148 (by decide) (by decide) (by decide)
    obtain ⟨⟨x, T1⟩, e1, p1, p2⟩ := M_common (S := T) (P := fun i j => decide (S (v + 3) (a * 6 + i) = S (v + 3) (b * 6 + j))) (hR.M.go (fun a ha => hT a (by omega) (by omega) (by omega))) ha hb en em n6 m6 (fun i j hi hj => by rw [e148, ei i hi, ej j hj])
    refine ⟨T1, ?_, p2⟩
    rw [e1, show x = _ from p1, ← hL]
    unfold cmn
    rw [en, em, nI_clamp (by omega), nI_clamp (by omega)]
  have hc : ok (fX9_nearest S) (fun q => q.1 = (nou L (vF V) (vF V)).2 ∧ ∀ c, c ≠ 141 → q.2 c = S c) := by
    unfold fX9_nearest
    rw [gm_v hR.2.1 hv]
    refine ok_bd (P := fun q => q.1 = (nou L (vF V) (vF V)).2 ∧ ∀ c, c ≠ 141 → q.2 c = S c) ?_ (fun r T h => ok_some h)
    unfold fX5_nearestCouple
    refine ok_for (σ := (Int32 × Int32) × St) (fun k f W => LX5_nearestCouple_7 k v W.1.1 W.1.2 (nI f) W.2) _ (fun f W => W.1 = nou L (vF V) f ∧ ∀ c, c ≠ 141 → W.2 c = S c) (vF V) ?_ ?_ FU 0 ((-1, -1), S) (by omega) (by unfold FU; omega) ⟨rfl, fun _ _ => rfl⟩
    · intro k W hW
      have eF : W.2 v 0 = nI (vF V) := by rw [hW.2 v (by omega)]; exact hR.C.2.2.1
      simp (disch := omega) only [LX5_nearestCouple_7, KX5_nearestCouple_7, eF, nI_leE, nI_ltE, nI_eqE, nI_m1, c0a, c0b, c0c, c0d, c0e, c1a, c1b, c1c, c1d, c1e, c2a, c2b, c2c, c2d, c2e, c3a, c3b, c3c, c3d, c3e, c4a, c4b, c4c, c4d, c4e, c5a, c5b, c5c, c5d, c5e, c6a, c6b, c6c, c6d, c6e, c7a, c7b, c7c, c7d, c7e, c8a, c8b, c8c, c8d, c8e, c9a, c9b, c9c, c9d, c9e, c10a, c10b, c10c, c10d, c10e, c12a, c12b, c12c, c12d, c12e, c14a, c14b, c14c, c14d, c14e, c16a, c16b, c16c, c16d, c16e, c20a, c20b, c20c, c20d, c20e, c30a, c30b, c30c, c30d, c30e, c32a, c32b, c32c, c32d, c32e, c36a, c36b, c36c, c36d, c36e, c40a, c40b, c40c, c40d, c40e, c41a, c41b, c41c, c41d, c41e, c42a, c42b, c42c, c42d, c42e, c43a, c43b, c43c, c43d, c43e, c45a, c45b, c45c, c45d, c45e, c47a, c47b, c47c, c47d, c47e, c48a, c48b, c48c, c48d, c48e, c57a, c57b, c57c, c57d, c57e, c59a, c59b, c59c, c59d, c59e, c60a, c60b, c60c, c60d, c60e, c61a, c61b, c61c, c61d, c61e, c62a, c62b, c62c, c62d, c62e, c64a, c64b, c64c, c64d, c64e, c96a, c96b, c96c, c96d, c96e, c97a, c97b, c97c, c97d, c97e, c98a, c98b, c98c, c98d, c98e, c99a, c99b, c99c, c99d, c99e, c100a, c100b, c100c, c100d, c100e, c122a, c122b, c122c, c122d, c122e, c700a, c700b, c700c, c700d, c700e, c4240a, c4240b, c4240c, c4240d, c4240e, c9999a, c9999b, c9999c, c9999d, c9999e, c100000a, c100000b, c100000c, c100000d, c100000e, c1000000a, c1000000b, c1000000c, c1000000d, c1000000e, if_T, ri_s]
      exact ok_some ⟨by show W.1.2 = _; rw [hW.1], hW.2⟩
    · intro k f W hf hW ih
      have eF : W.2 v 0 = nI (vF V) := by rw [hW.2 v (by omega)]; exact hR.C.2.2.1
      simp (disch := omega) only [LX5_nearestCouple_7, KX5_nearestCouple_7, eF, nI_leE, nI_ltE, nI_eqE, nI_m1, c0a, c0b, c0c, c0d, c0e, c1a, c1b, c1c, c1d, c1e, c2a, c2b, c2c, c2d, c2e, c3a, c3b, c3c, c3d, c3e, c4a, c4b, c4c, c4d, c4e, c5a, c5b, c5c, c5d, c5e, c6a, c6b, c6c, c6d, c6e, c7a, c7b, c7c, c7d, c7e, c8a, c8b, c8c, c8d, c8e, c9a, c9b, c9c, c9d, c9e, c10a, c10b, c10c, c10d, c10e, c12a, c12b, c12c, c12d, c12e, c14a, c14b, c14c, c14d, c14e, c16a, c16b, c16c, c16d, c16e, c20a, c20b, c20c, c20d, c20e, c30a, c30b, c30c, c30d, c30e, c32a, c32b, c32c, c32d, c32e, c36a, c36b, c36c, c36d, c36e, c40a, c40b, c40c, c40d, c40e, c41a, c41b, c41c, c41d, c41e, c42a, c42b, c42c, c42d, c42e, c43a, c43b, c43c, c43d, c43e, c45a, c45b, c45c, c45d, c45e, c47a, c47b, c47c, c47d, c47e, c48a, c48b, c48c, c48d, c48e, c57a, c57b, c57c, c57d, c57e, c59a, c59b, c59c, c59d, c59e, c60a, c60b, c60c, c60d, c60e, c61a, c61b, c61c, c61d, c61e, c62a, c62b, c62c, c62d, c62e, c64a, c64b, c64c, c64d, c64e, c96a, c96b, c96c, c96d, c96e, c97a, c97b, c97c, c97d, c97e, c98a, c98b, c98c, c98d, c98e, c99a, c99b, c99c, c99d, c99e, c100a, c100b, c100c, c100d, c100e, c122a, c122b, c122c, c122d, c122e, c700a, c700b, c700c, c700d, c700e, c4240a, c4240b, c4240c, c4240d, c4240e, c9999a, c9999b, c9999c, c9999d, c9999e, c100000a, c100000b, c100000c, c100000d, c100000e, c1000000a, c1000000b, c1000000c, c1000000d, c1000000e, if_F, bd_s, bv_s, bt_s, bt_x, vl_s, pf_s, ri_s, rz_0, rz_1, tri_s, trz_0, trz_1, trx_s, pz_0, pz_1, nI_add, pk_mul, up_at, la2, la5, la6, la8, la14, la62, la64, la98, la700, ra1, ra2, ra6, ra8, ra12, ra20, ra36, ra48, lm6, lm8, lm10, lm100, lm106, rm6, rm8, rm10, rm100, rm106]
      have start : ∀ X, ok (LX5_nearestCouple_22 (LX5_nearestCouple_7 k) FU v W.1.1 W.1.2 (nI f) (nI (f + 1 + 0)) W.2) X → ok (LX5_nearestCouple_22 (LX5_nearestCouple_7 k) FU v W.1.1 W.1.2 (nI f) (nI (f + 1)) W.2) X := fun X h => h
      apply start
      refine ok_for (σ := (Int32 × Int32) × St) (fun m g U => LX5_nearestCouple_22 (LX5_nearestCouple_7 k) m v U.1.1 U.1.2 (nI f) (nI (f + 1 + g)) U.2) _ (fun g U => U.1 = nin L f g (nou L (vF V) f) ∧ ∀ c, c ≠ 141 → U.2 c = S c) (vF V - (f + 1)) ?_ ?_ FU 0 W (by omega) (by unfold FU; omega) ⟨hW.1, hW.2⟩
      · intro m U hU
        have eF : U.2 v 0 = nI (vF V) := by rw [hU.2 v (by omega)]; exact hR.C.2.2.1
        simp (disch := omega) only [LX5_nearestCouple_22, KX5_nearestCouple_22, eF, nI_leE, nI_ltE, nI_eqE, nI_m1, c0a, c0b, c0c, c0d, c0e, c1a, c1b, c1c, c1d, c1e, c2a, c2b, c2c, c2d, c2e, c3a, c3b, c3c, c3d, c3e, c4a, c4b, c4c, c4d, c4e, c5a, c5b, c5c, c5d, c5e, c6a, c6b, c6c, c6d, c6e, c7a, c7b, c7c, c7d, c7e, c8a, c8b, c8c, c8d, c8e, c9a, c9b, c9c, c9d, c9e, c10a, c10b, c10c, c10d, c10e, c12a, c12b, c12c, c12d, c12e, c14a, c14b, c14c, c14d, c14e, c16a, c16b, c16c, c16d, c16e, c20a, c20b, c20c, c20d, c20e, c30a, c30b, c30c, c30d, c30e, c32a, c32b, c32c, c32d, c32e, c36a, c36b, c36c, c36d, c36e, c40a, c40b, c40c, c40d, c40e, c41a, c41b, c41c, c41d, c41e, c42a, c42b, c42c, c42d, c42e, c43a, c43b, c43c, c43d, c43e, c45a, c45b, c45c, c45d, c45e, c47a, c47b, c47c, c47d, c47e, c48a, c48b, c48c, c48d, c48e, c57a, c57b, c57c, c57d, c57e, c59a, c59b, c59c, c59d, c59e, c60a, c60b, c60c, c60d, c60e, c61a, c61b, c61c, c61d, c61e, c62a, c62b, c62c, c62d, c62e, c64a, c64b, c64c, c64d, c64e, c96a, c96b, c96c, c96d, c96e, c97a, c97b, c97c, c97d, c97e, c98a, c98b, c98c, c98d, c98e, c99a, c99b, c99c, c99d, c99e, c100a, c100b, c100c, c100d, c100e, c122a, c122b, c122c, c122d, c122e, c700a, c700b, c700c, c700d, c700e, c4240a, c4240b, c4240c, c4240d, c4240e, c9999a, c9999b, c9999c, c9999d, c9999e, c100000a, c100000b, c100000c, c100000d, c100000e, c1000000a, c1000000b, c1000000c, c1000000d, c1000000e, if_T, bd_s, bv_s, bt_s, bt_x, vl_s, pf_s, ri_s, rz_0, rz_1, tri_s, trz_0, trz_1, trx_s, pz_0, pz_1, nI_add, pk_mul, up_at, la2, la5, la6, la8, la14, la62, la64, la98, la700, ra1, ra2, ra6, ra8, ra12, ra20, ra36, ra48, lm6, lm8, lm10, lm100, lm106, rm6, rm8, rm10, rm100, rm106]
        exact ih U ⟨hU.1, hU.2⟩
      · intro m g U hg hU ih2
        have eF : U.2 v 0 = nI (vF V) := by rw [hU.2 v (by omega)]; exact hR.C.2.2.1
        obtain ⟨T1, e1, h1⟩ := cc U.2 f (f + 1 + g) hU.2 (by omega) (by omega)
        simp (disch := omega) only [LX5_nearestCouple_22, KX5_nearestCouple_22, eF, nI_leE, nI_ltE, nI_eqE, nI_m1, c0a, c0b, c0c, c0d, c0e, c1a, c1b, c1c, c1d, c1e, c2a, c2b, c2c, c2d, c2e, c3a, c3b, c3c, c3d, c3e, c4a, c4b, c4c, c4d, c4e, c5a, c5b, c5c, c5d, c5e, c6a, c6b, c6c, c6d, c6e, c7a, c7b, c7c, c7d, c7e, c8a, c8b, c8c, c8d, c8e, c9a, c9b, c9c, c9d, c9e, c10a, c10b, c10c, c10d, c10e, c12a, c12b, c12c, c12d, c12e, c14a, c14b, c14c, c14d, c14e, c16a, c16b, c16c, c16d, c16e, c20a, c20b, c20c, c20d, c20e, c30a, c30b, c30c, c30d, c30e, c32a, c32b, c32c, c32d, c32e, c36a, c36b, c36c, c36d, c36e, c40a, c40b, c40c, c40d, c40e, c41a, c41b, c41c, c41d, c41e, c42a, c42b, c42c, c42d, c42e, c43a, c43b, c43c, c43d, c43e, c45a, c45b, c45c, c45d, c45e, c47a, c47b, c47c, c47d, c47e, c48a, c48b, c48c, c48d, c48e, c57a, c57b, c57c, c57d, c57e, c59a, c59b, c59c, c59d, c59e, c60a, c60b, c60c, c60d, c60e, c61a, c61b, c61c, c61d, c61e, c62a, c62b, c62c, c62d, c62e, c64a, c64b, c64c, c64d, c64e, c96a, c96b, c96c, c96d, c96e, c97a, c97b, c97c, c97d, c97e, c98a, c98b, c98c, c98d, c98e, c99a, c99b, c99c, c99d, c99e, c100a, c100b, c100c, c100d, c100e, c122a, c122b, c122c, c122d, c122e, c700a, c700b, c700c, c700d, c700e, c4240a, c4240b, c4240c, c4240d, c4240e, c9999a, c9999b, c9999c, c9999d, c9999e, c100000a, c100000b, c100000c, c100000d, c100000e, c1000000a, c1000000b, c1000000c, c1000000d, c1000000e, if_F, bd_s, bv_s, bt_s, bt_x, vl_s, pf_s, ri_s, rz_0, rz_1, tri_s, trz_0, trz_1, trx_s, pz_0, pz_1, nI_add, pk_mul, up_at, la2, la5, la6, la8, la14, la62, la64, la98, la700, ra1, ra2, ra6, ra8, ra12, ra20, ra36, ra48, lm6, lm8, lm10, lm100, lm106, rm6, rm8, rm10, rm100, rm106, e1, BX5_nearestCouple_60]
        by_cases c : nI (L f (f + 1 + g)) ≤ U.1.1
        · rw [if_pos c]
          refine ih2 (U.1, T1) ⟨?_, h1⟩
          show U.1 = nst L f (f + 1 + g) (nin L f g (nou L (vF V) f))
          rw [← hU.1]; unfold nst; rw [if_pos c]
        · rw [if_neg c]
          refine ih2 ((nI (L f (f + 1 + g)), nI (f * 10 + (f + 1 + g))), T1) ⟨?_, h1⟩
          show _ = nst L f (f + 1 + g) (nin L f g (nou L (vF V) f))
          rw [← hU.1]; unfold nst; rw [if_neg c]
  obtain ⟨⟨x, S1⟩, e1, p1, p2⟩ := hc
  have p2' : ∀ c, c ≠ 141 → S1 c = S c := p2
  have hm : ok (fX10_nearest S1) (fun q => q.1 = (nou L (vF V) (vF V)).2 ∧ ∀ c, c ≠ 170 → q.2 c = up S1 142 3 0 c) := by
    unfold fX10_nearest
    rw [pf_s]
    generalize hT0 : up S1 142 3 0 = T0
    have t0 : ∀ c, c ≠ 141 → c ≠ 142 → T0 c = S c := fun c h1 h2 => by rw [← hT0, up_ne h2, p2' c h1]
    refine ok_for (σ := (Int32 × Int32) × St) (fun k f W => LX10_nearest_11 k W.1.2 W.1.1 (nI f) W.2) _ (fun f W => W.1 = nou L (vF V) f ∧ ∀ c, c ≠ 170 → W.2 c = T0 c) (vF V) ?_ ?_ FU 0 ((-1, -1), T0) (by omega) (by unfold FU; omega) ⟨rfl, fun _ _ => rfl⟩
    · intro k W hW
      have eF : W.2 145 0 = nI (vF V) := by rw [hW.2 145 (by decide), t0 145 (by decide) (by decide)]; exact hR.M.2.1
      simp (disch := omega) only [LX10_nearest_11, KX10_nearest_11, rd145, rd146, rd147, rd148, rd149, rd150, rd151, rd152, rd153, rd154, rd155, rd156, rd157, rd158, rd159, rd160, rd161, rd162, rd163, rd164, rd165, rd166, rd167, rd168, rd169, rd170, rd171, rd172, rd173, rd174, rd175, rd176, rd177, rd178, rd179, rd180, rd181, rd182, rd183, rd184, rd185, rd145_0, rd145_2, rd145_3, rd145_4, rd145_5, rd145_6, rd145_7, rd156_0, rd156_1, rd166_0, rd178_0, eF, nI_leE, nI_ltE, nI_eqE, nI_m1, c0a, c0b, c0c, c0d, c0e, c1a, c1b, c1c, c1d, c1e, c2a, c2b, c2c, c2d, c2e, c3a, c3b, c3c, c3d, c3e, c4a, c4b, c4c, c4d, c4e, c5a, c5b, c5c, c5d, c5e, c6a, c6b, c6c, c6d, c6e, c7a, c7b, c7c, c7d, c7e, c8a, c8b, c8c, c8d, c8e, c9a, c9b, c9c, c9d, c9e, c10a, c10b, c10c, c10d, c10e, c12a, c12b, c12c, c12d, c12e, c14a, c14b, c14c, c14d, c14e, c16a, c16b, c16c, c16d, c16e, c20a, c20b, c20c, c20d, c20e, c30a, c30b, c30c, c30d, c30e, c32a, c32b, c32c, c32d, c32e, c36a, c36b, c36c, c36d, c36e, c40a, c40b, c40c, c40d, c40e, c41a, c41b, c41c, c41d, c41e, c42a, c42b, c42c, c42d, c42e, c43a, c43b, c43c, c43d, c43e, c45a, c45b, c45c, c45d, c45e, c47a, c47b, c47c, c47d, c47e, c48a, c48b, c48c, c48d, c48e, c57a, c57b, c57c, c57d, c57e, c59a, c59b, c59c, c59d, c59e, c60a, c60b, c60c, c60d, c60e, c61a, c61b, c61c, c61d, c61e, c62a, c62b, c62c, c62d, c62e, c64a, c64b, c64c, c64d, c64e, c96a, c96b, c96c, c96d, c96e, c97a, c97b, c97c, c97d, c97e, c98a, c98b, c98c, c98d, c98e, c99a, c99b, c99c, c99d, c99e, c100a, c100b, c100c, c100d, c100e, c122a, c122b, c122c, c122d, c122e, c700a, c700b, c700c, c700d, c700e, c4240a, c4240b, c4240c, c4240d, c4240e, c9999a, c9999b, c9999c, c9999d, c9999e, c100000a, c100000b, c100000c, c100000d, c100000e, c1000000a, c1000000b, c1000000c, c1000000d, c1000000e, if_T, ri_s]
      exact ok_some ⟨by show W.1.2 = _; rw [hW.1], hW.2⟩
    · intro k f W hf hW ih
      have eF : W.2 145 0 = nI (vF V) := by rw [hW.2 145 (by decide), t0 145 (by decide) (by decide)]; exact hR.M.2.1
      simp (disch := omega) only [LX10_nearest_11, KX10_nearest_11, rd145, rd146, rd147, rd148, rd149, rd150, rd151, rd152, rd153, rd154, rd155, rd156, rd157, rd158, rd159, rd160, rd161, rd162, rd163, rd164, rd165, rd166, rd167, rd168, rd169, rd170, rd171, rd172, rd173, rd174, rd175, rd176, rd177, rd178, rd179, rd180, rd181, rd182, rd183, rd184, rd185, rd145_0, rd145_2, rd145_3, rd145_4, rd145_5, rd145_6, rd145_7, rd156_0, rd156_1, rd166_0, rd178_0, eF, nI_leE, nI_ltE, nI_eqE, nI_m1, c0a, c0b, c0c, c0d, c0e, c1a, c1b, c1c, c1d, c1e, c2a, c2b, c2c, c2d, c2e, c3a, c3b, c3c, c3d, c3e, c4a, c4b, c4c, c4d, c4e, c5a, c5b, c5c, c5d, c5e, c6a, c6b, c6c, c6d, c6e, c7a, c7b, c7c, c7d, c7e, c8a, c8b, c8c, c8d, c8e, c9a, c9b, c9c, c9d, c9e, c10a, c10b, c10c, c10d, c10e, c12a, c12b, c12c, c12d, c12e, c14a, c14b, c14c, c14d, c14e, c16a, c16b, c16c, c16d, c16e, c20a, c20b, c20c, c20d, c20e, c30a, c30b, c30c, c30d, c30e, c32a, c32b, c32c, c32d, c32e, c36a, c36b, c36c, c36d, c36e, c40a, c40b, c40c, c40d, c40e, c41a, c41b, c41c, c41d, c41e, c42a, c42b, c42c, c42d, c42e, c43a, c43b, c43c, c43d, c43e, c45a, c45b, c45c, c45d, c45e, c47a, c47b, c47c, c47d, c47e, c48a, c48b, c48c, c48d, c48e, c57a, c57b, c57c, c57d, c57e, c59a, c59b, c59c, c59d, c59e, c60a, c60b, c60c, c60d, c60e, c61a, c61b, c61c, c61d, c61e, c62a, c62b, c62c, c62d, c62e, c64a, c64b, c64c, c64d, c64e, c96a, c96b, c96c, c96d, c96e, c97a, c97b, c97c, c97d, c97e, c98a, c98b, c98c, c98d, c98e, c99a, c99b, c99c, c99d, c99e, c100a, c100b, c100c, c100d, c100e, c122a, c122b, c122c, c122d, c122e, c700a, c700b, c700c, c700d, c700e, c4240a, c4240b, c4240c, c4240d, c4240e, c9999a, c9999b, c9999c, c9999d, c9999e, c100000a, c100000b, c100000c, c100000d, c100000e, c1000000a, c1000000b, c1000000c, c1000000d, c1000000e, if_F, bd_s, bv_s, bt_s, bt_x, vl_s, pf_s, ri_s, rz_0, rz_1, tri_s, trz_0, trz_1, trx_s, pz_0, pz_1, nI_add, pk_mul, up_at, la2, la5, la6, la8, la14, la62, la64, la98, la700, ra1, ra2, ra6, ra8, ra12, ra20, ra36, ra48, lm6, lm8, lm10, lm100, lm106, rm6, rm8, rm10, rm100, rm106]
      have start : ∀ X, ok (LX10_nearest_26 (LX10_nearest_11 k) FU W.1.2 W.1.1 (nI f) (nI (f + 1 + 0)) W.2) X → ok (LX10_nearest_26 (LX10_nearest_11 k) FU W.1.2 W.1.1 (nI f) (nI (f + 1)) W.2) X := fun X h => h
      apply start
      refine ok_for (σ := (Int32 × Int32) × St) (fun m g U => LX10_nearest_26 (LX10_nearest_11 k) m U.1.2 U.1.1 (nI f) (nI (f + 1 + g)) U.2) _ (fun g U => U.1 = nin L f g (nou L (vF V) f) ∧ ∀ c, c ≠ 170 → U.2 c = T0 c) (vF V - (f + 1)) ?_ ?_ FU 0 W (by omega) (by unfold FU; omega) ⟨hW.1, hW.2⟩
      · intro m U hU
        have eF : U.2 145 0 = nI (vF V) := by rw [hU.2 145 (by decide), t0 145 (by decide) (by decide)]; exact hR.M.2.1
        simp (disch := omega) only [LX10_nearest_26, KX10_nearest_26, rd145, rd146, rd147, rd148, rd149, rd150, rd151, rd152, rd153, rd154, rd155, rd156, rd157, rd158, rd159, rd160, rd161, rd162, rd163, rd164, rd165, rd166, rd167, rd168, rd169, rd170, rd171, rd172, rd173, rd174, rd175, rd176, rd177, rd178, rd179, rd180, rd181, rd182, rd183, rd184, rd185, rd145_0, rd145_2, rd145_3, rd145_4, rd145_5, rd145_6, rd145_7, rd156_0, rd156_1, rd166_0, rd178_0, eF, nI_leE, nI_ltE, nI_eqE, nI_m1, c0a, c0b, c0c, c0d, c0e, c1a, c1b, c1c, c1d, c1e, c2a, c2b, c2c, c2d, c2e, c3a, c3b, c3c, c3d, c3e, c4a, c4b, c4c, c4d, c4e, c5a, c5b, c5c, c5d, c5e, c6a, c6b, c6c, c6d, c6e, c7a, c7b, c7c, c7d, c7e, c8a, c8b, c8c, c8d, c8e, c9a, c9b, c9c, c9d, c9e, c10a, c10b, c10c, c10d, c10e, c12a, c12b, c12c, c12d, c12e, c14a, c14b, c14c, c14d, c14e, c16a, c16b, c16c, c16d, c16e, c20a, c20b, c20c, c20d, c20e, c30a, c30b, c30c, c30d, c30e, c32a, c32b, c32c, c32d, c32e, c36a, c36b, c36c, c36d, c36e, c40a, c40b, c40c, c40d, c40e, c41a, c41b, c41c, c41d, c41e, c42a, c42b, c42c, c42d, c42e, c43a, c43b, c43c, c43d, c43e, c45a, c45b, c45c, c45d, c45e, c47a, c47b, c47c, c47d, c47e, c48a, c48b, c48c, c48d, c48e, c57a, c57b, c57c, c57d, c57e, c59a, c59b, c59c, c59d, c59e, c60a, c60b, c60c, c60d, c60e, c61a, c61b, c61c, c61d, c61e, c62a, c62b, c62c, c62d, c62e, c64a, c64b, c64c, c64d, c64e, c96a, c96b, c96c, c96d, c96e, c97a, c97b, c97c, c97d, c97e, c98a, c98b, c98c, c98d, c98e, c99a, c99b, c99c, c99d, c99e, c100a, c100b, c100c, c100d, c100e, c122a, c122b, c122c, c122d, c122e, c700a, c700b, c700c, c700d, c700e, c4240a, c4240b, c4240c, c4240d, c4240e, c9999a, c9999b, c9999c, c9999d, c9999e, c100000a, c100000b, c100000c, c100000d, c100000e, c1000000a, c1000000b, c1000000c, c1000000d, c1000000e, if_T, bd_s, bv_s, bt_s, bt_x, vl_s, pf_s, ri_s, rz_0, rz_1, tri_s, trz_0, trz_1, trx_s, pz_0, pz_1, nI_add, pk_mul, up_at, la2, la5, la6, la8, la14, la62, la64, la98, la700, ra1, ra2, ra6, ra8, ra12, ra20, ra36, ra48, lm6, lm8, lm10, lm100, lm106, rm6, rm8, rm10, rm100, rm106]
        exact ih U ⟨hU.1, hU.2⟩
      · intro m g U hg hU ih2
        have eF : U.2 145 0 = nI (vF V) := by rw [hU.2 145 (by decide), t0 145 (by decide) (by decide)]; exact hR.M.2.1
        obtain ⟨T1, e1, h1⟩ := mmx U.2 f (f + 1 + g) (fun c h1 h2 h3 => by rw [hU.2 c h2, t0 c h1 h3]) (by omega) (by omega)
        have h1' : ∀ c, c ≠ 170 → T1 c = T0 c := fun c hc => (h1 c hc).trans (hU.2 c hc)
        obtain ⟨T2, e2, h2⟩ := mmx T1 f (f + 1 + g) (fun c h1 h2 h3 => by rw [h1' c h2, t0 c h1 h3]) (by omega) (by omega)
        have h2' : ∀ c, c ≠ 170 → T2 c = T0 c := fun c hc => (h2 c hc).trans (h1' c hc)
        have nlt : (U.1.1 < nI (L f (f + 1 + g))) = ¬ (nI (L f (f + 1 + g)) ≤ U.1.1) := propext (by rw [Int32.lt_iff_toInt_lt, Int32.le_iff_toInt_le]; omega)
        simp (disch := omega) only [LX10_nearest_26, KX10_nearest_26, rd145, rd146, rd147, rd148, rd149, rd150, rd151, rd152, rd153, rd154, rd155, rd156, rd157, rd158, rd159, rd160, rd161, rd162, rd163, rd164, rd165, rd166, rd167, rd168, rd169, rd170, rd171, rd172, rd173, rd174, rd175, rd176, rd177, rd178, rd179, rd180, rd181, rd182, rd183, rd184, rd185, rd145_0, rd145_2, rd145_3, rd145_4, rd145_5, rd145_6, rd145_7, rd156_0, rd156_1, rd166_0, rd178_0, eF, nI_leE, nI_ltE, nI_eqE, nI_m1, c0a, c0b, c0c, c0d, c0e, c1a, c1b, c1c, c1d, c1e, c2a, c2b, c2c, c2d, c2e, c3a, c3b, c3c, c3d, c3e, c4a, c4b, c4c, c4d, c4e, c5a, c5b, c5c, c5d, c5e, c6a, c6b, c6c, c6d, c6e, c7a, c7b, c7c, c7d, c7e, c8a, c8b, c8c, c8d, c8e, c9a, c9b, c9c, c9d, c9e, c10a, c10b, c10c, c10d, c10e, c12a, c12b, c12c, c12d, c12e, c14a, c14b, c14c, c14d, c14e, c16a, c16b, c16c, c16d, c16e, c20a, c20b, c20c, c20d, c20e, c30a, c30b, c30c, c30d, c30e, c32a, c32b, c32c, c32d, c32e, c36a, c36b, c36c, c36d, c36e, c40a, c40b, c40c, c40d, c40e, c41a, c41b, c41c, c41d, c41e, c42a, c42b, c42c, c42d, c42e, c43a, c43b, c43c, c43d, c43e, c45a, c45b, c45c, c45d, c45e, c47a, c47b, c47c, c47d, c47e, c48a, c48b, c48c, c48d, c48e, c57a, c57b, c57c, c57d, c57e, c59a, c59b, c59c, c59d, c59e, c60a, c60b, c60c, c60d, c60e, c61a, c61b, c61c, c61d, c61e, c62a, c62b, c62c, c62d, c62e, c64a, c64b, c64c, c64d, c64e, c96a, c96b, c96c, c96d, c96e, c97a, c97b, c97c, c97d, c97e, c98a, c98b, c98c, c98d, c98e, c99a, c99b, c99c, c99d, c99e, c100a, c100b, c100c, c100d, c100e, c122a, c122b, c122c, c122d, c122e, c700a, c700b, c700c, c700d, c700e, c4240a, c4240b, c4240c, c4240d, c4240e, c9999a, c9999b, c9999c, c9999d, c9999e, c100000a, c100000b, c100000c, c100000d, c100000e, c1000000a, c1000000b, c1000000c, c1000000d, c1000000e, if_F, bd_s, bv_s, bt_s, bt_x, vl_s, pf_s, ri_s, rz_0, rz_1, tri_s, trz_0, trz_1, trx_s, pz_0, pz_1, nI_add, pk_mul, up_at, la2, la5, la6, la8, la14, la62, la64, la98, la700, ra1, ra2, ra6, ra8, ra12, ra20, ra36, ra48, lm6, lm8, lm10, lm100, lm106, rm6, rm8, rm10, rm100, rm106, e1, e2, BX10_nearest_67, nlt]
        by_cases c : nI (L f (f + 1 + g)) ≤ U.1.1
        · rw [if_neg (fun z => z c)]
          refine ih2 (U.1, T1) ⟨?_, h1'⟩
          show U.1 = nst L f (f + 1 + g) (nin L f g (nou L (vF V) f))
          rw [← hU.1]; unfold nst; rw [if_pos c]
        · rw [if_pos c, Nat.mul_comm]
          refine ih2 ((nI (L f (f + 1 + g)), nI (f * 10 + (f + 1 + g))), T2) ⟨?_, h2'⟩
          show _ = nst L f (f + 1 + g) (nin L f g (nou L (vF V) f))
          rw [← hU.1]; unfold nst; rw [if_neg c]
  obtain ⟨⟨y, S2⟩, e2, q1, q2⟩ := hm
  have q2' : ∀ c, c ≠ 170 → S2 c = up S1 142 3 0 c := q2
  refine ⟨x, S1, S2, e1, by rw [e2, show y = _ from q1, show x = _ from p1], ⟨V, v, d, (hR.c (fun c h1 h2 h3 h4 h5 => p2' c (by omega))).m (mK0.tr ⟨by rw [mr_cell (S := up S1 142 3 0) (fun a ha => q2' a (by omega))]; exact ag.rf, fun c hc => q2' c (by omega), fun j hj => by rw [q2' 142 (by decide)]⟩)⟩⟩
/-! where all meet -/
/-- the steps of all to a field; whether there are ways -/
def wsm (V : Vy) (dn : Nat → Nat → Nat) (r : Rw) (f : Nat) (K : Nat) : Nat → Nat
  | 0 => 0
  | s + 1 => wsm V dn r f K s + (if dn (plN V r s) f < 10000 then dn (plN V r s) f else K)
def wfn (V : Vy) (dn : Nat → Nat → Nat) (r : Rw) (f : Nat) : Bool := allB (fun s => decide (dn (plN V r s) f < 10000)) (vS' V)
theorem wsm_ge {V : Vy} {dn : Nat → Nat → Nat} {r : Rw} {f K : Nat} : ∀ n, allB (fun s => decide (dn (plN V r s) f < 10000)) n = false → K ≤ wsm V dn r f K n := by
  intro n
  induction n with
  | zero => intro h; cases h
  | succ n ih =>
    intro h
    show K ≤ wsm V dn r f K n + _
    have h2 : (allB (fun s => decide (dn (plN V r s) f < 10000)) n && decide (dn (plN V r n) f < 10000)) = false := h
    by_cases c : dn (plN V r n) f < 10000
    · rw [if_pos c]
      have : allB (fun s => decide (dn (plN V r s) f < 10000)) n = false := by
        rw [decide_eq_true c] at h2; simpa using h2
      have := ih this
      omega
    · rw [if_neg c]; omega
theorem wsm_eq {V : Vy} {dn : Nat → Nat → Nat} {r : Rw} {f K K' : Nat} : ∀ n, allB (fun s => decide (dn (plN V r s) f < 10000)) n = true → wsm V dn r f K n = wsm V dn r f K' n ∧ wsm V dn r f K n ≤ n * 10000 := by
  intro n
  induction n with
  | zero => intro _; exact ⟨rfl, Nat.zero_le _⟩
  | succ n ih =>
    intro h
    have h2 : (allB (fun s => decide (dn (plN V r s) f < 10000)) n && decide (dn (plN V r n) f < 10000)) = true := h
    have h3 := (Bool.and_eq_true _ _).mp h2
    have c : dn (plN V r n) f < 10000 := by simpa using h3.2
    obtain ⟨i1, i2⟩ := ih h3.1
    show wsm V dn r f K n + _ = wsm V dn r f K' n + _ ∧ wsm V dn r f K n + _ ≤ _
    rw [if_pos c, if_pos c]
    omega
theorem wsm_le {V : Vy} {dn : Nat → Nat → Nat} {r : Rw} {f K : Nat} (hK : 10000 ≤ K) : ∀ n, wsm V dn r f K n ≤ n * K := by
  intro n
  induction n with
  | zero => exact Nat.zero_le _
  | succ n ih =>
    show wsm V dn r f K n + _ ≤ (n + 1) * K
    rw [Nat.succ_mul]
    split <;> omega
/-- the best so far: how far, and where -/
def wst (V : Vy) (dn : Nat → Nat → Nat) (r : Rw) (f : Nat) (s : Option Nat × Int32) : Option Nat × Int32 :=
  if wfn V dn r f = true ∧ (∀ m, s.1 = some m → wsm V dn r f 0 (vS' V) < m) then (some (wsm V dn r f 0 (vS' V)), nI f) else s
def wou (V : Vy) (dn : Nat → Nat → Nat) (r : Rw) : Nat → Option Nat × Int32
  | 0 => (none, -1)
  | f + 1 => wst V dn r f (wou V dn r f)
def wen (K : Nat) (o : Option Nat) : Nat := match o with
  | none => K
  | some m => m
theorem wou_ok {V : Vy} {dn : Nat → Nat → Nat} {r : Rw} (hS : vS' V ≤ 6) : ∀ f, ∀ m, (wou V dn r f).1 = some m → m ≤ 60000 := by
  intro f
  induction f with
  | zero => intro m h; cases h
  | succ f ih =>
    intro m h
    have h2 : (wst V dn r f (wou V dn r f)).1 = some m := h
    unfold wst at h2
    split at h2
    · rename_i c
      have := (wsm_eq (K := 0) (K' := 0) (vS' V) c.1).2
      injection h2 with h2
      omega
    · exact ih m h2
/-- the comparison in both encodings -/
theorem wst_c {V : Vy} {dn : Nat → Nat → Nat} {r : Rw} {f K : Nat} (hS : vS' V ≤ 6) (hK : 100000 ≤ K) {s : Option Nat × Int32} (hs : ∀ m, s.1 = some m → m ≤ 60000) : (wsm V dn r f K (vS' V) < wen K s.1 ↔ (wfn V dn r f = true ∧ ∀ m, s.1 = some m → wsm V dn r f 0 (vS' V) < m)) ∧ (wfn V dn r f = true → wsm V dn r f K (vS' V) = wsm V dn r f 0 (vS' V)) := by
  refine ⟨⟨fun h => ?_, fun h => ?_⟩, fun h => (wsm_eq (vS' V) h).1⟩
  · cases hw : wfn V dn r f with
    | false =>
      have := wsm_ge (K := K) (vS' V) hw
      exfalso
      cases ho : s.1 with
      | none => rw [ho] at h; have h' : _ < K := h; omega
      | some m => rw [ho] at h; have := hs m ho; have h' : _ < m := h; omega
    | true =>
      have e := (wsm_eq (K := K) (K' := 0) (vS' V) hw).1
      refine ⟨rfl, fun m hm => ?_⟩
      rw [hm] at h
      have h' : _ < m := h
      omega
  · obtain ⟨h1, h2⟩ := h
    have e := (wsm_eq (K := K) (K' := 0) (vS' V) h1)
    cases ho : s.1 with
    | none => show _ < K; omega
    | some m => show _ < m; have := h2 m ho; omega
