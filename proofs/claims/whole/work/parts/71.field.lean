/-! who is in a field; whose tune is a third lower -/
theorem C_who {V : Vy} {v d : Nat} {S : St} (hR : Rl V v d S) {f : Nat} (hf : f < vF V) : fX9_whoIsIn (nI f) S = some (nI (hbits (fun s => decide (plN V (S 37) s = f)) (vS' V)), S) := by
  have hV := hR.vk
  have hS6 := hV.2.1
  have hF8 := hV.1
  have hv := hR.hv
  have h0 := hR.2.1
  have hS := hR.C.2.2.2.1
  have : ok (fX9_whoIsIn (nI f) S) (fun q => q = (nI (hbits (fun s => decide (plN V (S 37) s = f)) (vS' V)), S)) := by
    unfold fX9_whoIsIn
    refine ok_for (σ := Int32) (fun n i x => LX9_whoIsIn_4 n (nI f) x (nI i) S) _ (fun i x => x = nI (hbits (fun s => decide (plN V (S 37) s = f)) i)) (vS' V) ?_ ?_ FU 0 0 (by omega) (by unfold FU; omega) rfl
    · intro n x hI
      subst hI
      simp (disch := omega) only [LX9_whoIsIn_4, KX9_whoIsIn_4, gm_v h0 hv, hS, nI_leE, nI_ltE, nI_eqE, nI_m1, c0a, c0b, c0c, c0d, c0e, c1a, c1b, c1c, c1d, c1e, c2a, c2b, c2c, c2d, c2e, c3a, c3b, c3c, c3d, c3e, c4a, c4b, c4c, c4d, c4e, c5a, c5b, c5c, c5d, c5e, c6a, c6b, c6c, c6d, c6e, c7a, c7b, c7c, c7d, c7e, c8a, c8b, c8c, c8d, c8e, c9a, c9b, c9c, c9d, c9e, c10a, c10b, c10c, c10d, c10e, c12a, c12b, c12c, c12d, c12e, c14a, c14b, c14c, c14d, c14e, c16a, c16b, c16c, c16d, c16e, c20a, c20b, c20c, c20d, c20e, c30a, c30b, c30c, c30d, c30e, c32a, c32b, c32c, c32d, c32e, c36a, c36b, c36c, c36d, c36e, c40a, c40b, c40c, c40d, c40e, c41a, c41b, c41c, c41d, c41e, c42a, c42b, c42c, c42d, c42e, c43a, c43b, c43c, c43d, c43e, c45a, c45b, c45c, c45d, c45e, c47a, c47b, c47c, c47d, c47e, c48a, c48b, c48c, c48d, c48e, c57a, c57b, c57c, c57d, c57e, c59a, c59b, c59c, c59d, c59e, c60a, c60b, c60c, c60d, c60e, c61a, c61b, c61c, c61d, c61e, c62a, c62b, c62c, c62d, c62e, c64a, c64b, c64c, c64d, c64e, c96a, c96b, c96c, c96d, c96e, c97a, c97b, c97c, c97d, c97e, c98a, c98b, c98c, c98d, c98e, c99a, c99b, c99c, c99d, c99e, c100a, c100b, c100c, c100d, c100e, c122a, c122b, c122c, c122d, c122e, c700a, c700b, c700c, c700d, c700e, c4240a, c4240b, c4240c, c4240d, c4240e, c9999a, c9999b, c9999c, c9999d, c9999e, c100000a, c100000b, c100000c, c100000d, c100000e, c1000000a, c1000000b, c1000000c, c1000000d, c1000000e, if_T, ri_s]
      exact ok_some rfl
    · intro n i x hi hI ih
      subst hI
      obtain ⟨p, hp, ep, ep2⟩ := pl_ok hR.rok hV (by decide) hi
      have epl := C_placeOf (a1 := 37) hR.C hR.rok (by decide) rfl hi
      rw [ep] at epl
      simp (disch := omega) only [LX9_whoIsIn_4, KX9_whoIsIn_4, gm_v h0 hv, hS, nI_leE, nI_ltE, nI_eqE, nI_m1, c0a, c0b, c0c, c0d, c0e, c1a, c1b, c1c, c1d, c1e, c2a, c2b, c2c, c2d, c2e, c3a, c3b, c3c, c3d, c3e, c4a, c4b, c4c, c4d, c4e, c5a, c5b, c5c, c5d, c5e, c6a, c6b, c6c, c6d, c6e, c7a, c7b, c7c, c7d, c7e, c8a, c8b, c8c, c8d, c8e, c9a, c9b, c9c, c9d, c9e, c10a, c10b, c10c, c10d, c10e, c12a, c12b, c12c, c12d, c12e, c14a, c14b, c14c, c14d, c14e, c16a, c16b, c16c, c16d, c16e, c20a, c20b, c20c, c20d, c20e, c30a, c30b, c30c, c30d, c30e, c32a, c32b, c32c, c32d, c32e, c36a, c36b, c36c, c36d, c36e, c40a, c40b, c40c, c40d, c40e, c41a, c41b, c41c, c41d, c41e, c42a, c42b, c42c, c42d, c42e, c43a, c43b, c43c, c43d, c43e, c45a, c45b, c45c, c45d, c45e, c47a, c47b, c47c, c47d, c47e, c48a, c48b, c48c, c48d, c48e, c57a, c57b, c57c, c57d, c57e, c59a, c59b, c59c, c59d, c59e, c60a, c60b, c60c, c60d, c60e, c61a, c61b, c61c, c61d, c61e, c62a, c62b, c62c, c62d, c62e, c64a, c64b, c64c, c64d, c64e, c96a, c96b, c96c, c96d, c96e, c97a, c97b, c97c, c97d, c97e, c98a, c98b, c98c, c98d, c98e, c99a, c99b, c99c, c99d, c99e, c100a, c100b, c100c, c100d, c100e, c122a, c122b, c122c, c122d, c122e, c700a, c700b, c700c, c700d, c700e, c4240a, c4240b, c4240c, c4240d, c4240e, c9999a, c9999b, c9999c, c9999d, c9999e, c100000a, c100000b, c100000c, c100000d, c100000e, c1000000a, c1000000b, c1000000c, c1000000d, c1000000e, if_F, bd_s, bv_s, bt_s, bt_x, vl_s, pf_s, ri_s, rz_0, rz_1, tri_s, trz_0, trz_1, trx_s, pz_0, pz_1, nI_add, pk_mul, up_at, la2, la5, la6, la8, la14, la62, la64, la98, la700, ra1, ra2, ra6, ra8, ra12, ra20, ra36, ra48, lm6, lm8, lm10, lm100, lm106, rm6, rm8, rm10, rm100, rm106, epl, BX9_whoIsIn_40]
      by_cases c : p = f
      · rw [if_pos c]
        exact ih _ (hb_t (by omega) (by simp [ep2, c]))
      · rw [if_neg c]
        exact ih _ (hb_f (by simp [ep2, c]))
  obtain ⟨b, e, q⟩ := this
  rw [e, q]
/-- a third lower, told by both sides' notes -/
def thB (V : Vy) (nt : Nat → Nat → Int32) (f t : Nat) : Bool := decide (vT V t = vT V f) && allB (fun i => decide (nt t i = (nt f i + 8) - (nt f i + 8) / 10 * 10)) (vT V f).toNatClampNeg
theorem rm_10 {β : Type} {x : Int32} {k : Int32 → Option β} : rm' x 10 k = k (x - x / 10 * 10) := by unfold rm'; rw [if_neg (by decide)]
theorem C_third {V : Vy} {v : Nat} {S : St} (hC : VC V v S) {f t nf : Nat} (hf : f < vF V) (ht : t < vF V) (ef : vT V f = nI nf) (n6 : nf ≤ 6) : fX5_isThirdLower v (nI t) (nI f) S = some (b2i (thB V (fun t i => S (v + 3) (t * 6 + i)) f t), S) := by
  have hV := hC.1
  have hF8 := hV.1
  have hv := hC.2.1
  have e1 := (hC.2.2.2.2.2.2.2.1 f hf).2
  have e2 := (hC.2.2.2.2.2.2.2.1 t ht).2
  unfold fX5_isThirdLower
  simp (disch := omega) only [srv3, srv4, srv5, srv6, srv7, srv8, srv9, srv10, srv11, srv12, srv13, rdv1, rdv2, rdv3, rdv4, rdv5, rdv6, rdv7, rdv8, rdv9, rdv10, rdv12, rdv14, e1, e2]
  by_cases c : vT V t = vT V f
  · rw [if_pos c]
    have : ok (LX5_isThirdLower_22 FU v (nI t) (nI f) (vT V f) 0 S) (fun q => q = (b2i (thB V (fun t i => S (v + 3) (t * 6 + i)) f t), S)) := by
      rw [ef]
      refine ok_for (σ := Unit) (fun n i _ => LX5_isThirdLower_22 n v (nI t) (nI f) (nI nf) (nI i) S) _ (fun i _ => allB (fun i => decide (S (v + 3) (t * 6 + i) = (S (v + 3) (f * 6 + i) + 8) - (S (v + 3) (f * 6 + i) + 8) / 10 * 10)) i = true) nf ?_ ?_ FU 0 () (by omega) (by unfold FU; omega) rfl
      · intro n _ hI
        simp (disch := omega) only [LX5_isThirdLower_22, KX5_isThirdLower_22, nI_leE, nI_ltE, nI_eqE, nI_m1, c0a, c0b, c0c, c0d, c0e, c1a, c1b, c1c, c1d, c1e, c2a, c2b, c2c, c2d, c2e, c3a, c3b, c3c, c3d, c3e, c4a, c4b, c4c, c4d, c4e, c5a, c5b, c5c, c5d, c5e, c6a, c6b, c6c, c6d, c6e, c7a, c7b, c7c, c7d, c7e, c8a, c8b, c8c, c8d, c8e, c9a, c9b, c9c, c9d, c9e, c10a, c10b, c10c, c10d, c10e, c12a, c12b, c12c, c12d, c12e, c14a, c14b, c14c, c14d, c14e, c16a, c16b, c16c, c16d, c16e, c20a, c20b, c20c, c20d, c20e, c30a, c30b, c30c, c30d, c30e, c32a, c32b, c32c, c32d, c32e, c36a, c36b, c36c, c36d, c36e, c40a, c40b, c40c, c40d, c40e, c41a, c41b, c41c, c41d, c41e, c42a, c42b, c42c, c42d, c42e, c43a, c43b, c43c, c43d, c43e, c45a, c45b, c45c, c45d, c45e, c47a, c47b, c47c, c47d, c47e, c48a, c48b, c48c, c48d, c48e, c57a, c57b, c57c, c57d, c57e, c59a, c59b, c59c, c59d, c59e, c60a, c60b, c60c, c60d, c60e, c61a, c61b, c61c, c61d, c61e, c62a, c62b, c62c, c62d, c62e, c64a, c64b, c64c, c64d, c64e, c96a, c96b, c96c, c96d, c96e, c97a, c97b, c97c, c97d, c97e, c98a, c98b, c98c, c98d, c98e, c99a, c99b, c99c, c99d, c99e, c100a, c100b, c100c, c100d, c100e, c122a, c122b, c122c, c122d, c122e, c700a, c700b, c700c, c700d, c700e, c4240a, c4240b, c4240c, c4240d, c4240e, c9999a, c9999b, c9999c, c9999d, c9999e, c100000a, c100000b, c100000c, c100000d, c100000e, c1000000a, c1000000b, c1000000c, c1000000d, c1000000e, if_T, rz_1]
        refine ok_some ?_
        unfold thB
        rw [ef, nI_clamp (by omega), hI, c]
        simp [ef, b2i]
      · intro n i _ hi hI ih
        simp (disch := omega) only [LX5_isThirdLower_22, KX5_isThirdLower_22, nI_leE, nI_ltE, nI_eqE, nI_m1, c0a, c0b, c0c, c0d, c0e, c1a, c1b, c1c, c1d, c1e, c2a, c2b, c2c, c2d, c2e, c3a, c3b, c3c, c3d, c3e, c4a, c4b, c4c, c4d, c4e, c5a, c5b, c5c, c5d, c5e, c6a, c6b, c6c, c6d, c6e, c7a, c7b, c7c, c7d, c7e, c8a, c8b, c8c, c8d, c8e, c9a, c9b, c9c, c9d, c9e, c10a, c10b, c10c, c10d, c10e, c12a, c12b, c12c, c12d, c12e, c14a, c14b, c14c, c14d, c14e, c16a, c16b, c16c, c16d, c16e, c20a, c20b, c20c, c20d, c20e, c30a, c30b, c30c, c30d, c30e, c32a, c32b, c32c, c32d, c32e, c36a, c36b, c36c, c36d, c36e, c40a, c40b, c40c, c40d, c40e, c41a, c41b, c41c, c41d, c41e, c42a, c42b, c42c, c42d, c42e, c43a, c43b, c43c, c43d, c43e, c45a, c45b, c45c, c45d, c45e, c47a, c47b, c47c, c47d, c47e, c48a, c48b, c48c, c48d, c48e, c57a, c57b, c57c, c57d, c57e, c59a, c59b, c59c, c59d, c59e, c60a, c60b, c60c, c60d, c60e, c61a, c61b, c61c, c61d, c61e, c62a, c62b, c62c, c62d, c62e, c64a, c64b, c64c, c64d, c64e, c96a, c96b, c96c, c96d, c96e, c97a, c97b, c97c, c97d, c97e, c98a, c98b, c98c, c98d, c98e, c99a, c99b, c99c, c99d, c99e, c100a, c100b, c100c, c100d, c100e, c122a, c122b, c122c, c122d, c122e, c700a, c700b, c700c, c700d, c700e, c4240a, c4240b, c4240c, c4240d, c4240e, c9999a, c9999b, c9999c, c9999d, c9999e, c100000a, c100000b, c100000c, c100000d, c100000e, c1000000a, c1000000b, c1000000c, c1000000d, c1000000e, if_F, srv3, srv4, srv5, srv6, srv7, srv8, srv9, srv10, srv11, srv12, srv13, bd_s, bv_s, bt_s, bt_x, vl_s, pf_s, ri_s, rz_0, rz_1, tri_s, trz_0, trz_1, trx_s, pz_0, pz_1, nI_add, pk_mul, up_at, la2, la5, la6, la8, la14, la62, la64, la98, la700, ra1, ra2, ra6, ra8, ra12, ra20, ra36, ra48, lm6, lm8, lm10, lm100, lm106, rm6, rm8, rm10, rm100, rm106, rdv1, rdv2, rdv3, rdv4, rdv5, rdv6, rdv7, rdv8, rdv9, rdv10, rdv12, rdv14, rm_10]
        by_cases d : S (v + 3) (t * 6 + i) = (S (v + 3) (f * 6 + i) + 8) - (S (v + 3) (f * 6 + i) + 8) / 10 * 10
        · rw [if_pos d]
          refine ih () ?_
          show (allB _ i && decide (S (v + 3) (t * 6 + i) = (S (v + 3) (f * 6 + i) + 8) - (S (v + 3) (f * 6 + i) + 8) / 10 * 10)) = true
          rw [hI, decide_eq_true d]; rfl
        · rw [if_neg d]
          refine ok_some ?_
          unfold thB
          rw [ef, nI_clamp (by omega), allB_f (i := i) (by exact decide_eq_false d) _ hi]
          simp [b2i]
    obtain ⟨b, e, q⟩ := this
    rw [e, q]
  · rw [if_neg c]
    unfold thB
    simp [c, b2i, rz_0]
theorem C_thirds {V : Vy} {v : Nat} {S : St} (hC : VC V v S) {f nf : Nat} (hf : f < vF V) (ef : vT V f = nI nf) (n6 : nf ≤ 6) : fX5_thirds v (nI f) S = some (nI (hbits (thB V (fun t i => S (v + 3) (t * 6 + i)) f) (vF V)), S) := by
  have hV := hC.1
  have hF8 := hV.1
  have hF := hC.2.2.1
  have : ok (fX5_thirds v (nI f) S) (fun q => q = (nI (hbits (thB V (fun t i => S (v + 3) (t * 6 + i)) f) (vF V)), S)) := by
    unfold fX5_thirds
    refine ok_for (σ := Int32) (fun n i x => LX5_thirds_5 n v (nI f) x (nI i) S) _ (fun i x => x = nI (hbits (thB V (fun t i => S (v + 3) (t * 6 + i)) f) i)) (vF V) ?_ ?_ FU 0 0 (by omega) (by unfold FU; omega) rfl
    · intro n x hI
      subst hI
      simp (disch := omega) only [LX5_thirds_5, KX5_thirds_5, hF, nI_leE, nI_ltE, nI_eqE, nI_m1, c0a, c0b, c0c, c0d, c0e, c1a, c1b, c1c, c1d, c1e, c2a, c2b, c2c, c2d, c2e, c3a, c3b, c3c, c3d, c3e, c4a, c4b, c4c, c4d, c4e, c5a, c5b, c5c, c5d, c5e, c6a, c6b, c6c, c6d, c6e, c7a, c7b, c7c, c7d, c7e, c8a, c8b, c8c, c8d, c8e, c9a, c9b, c9c, c9d, c9e, c10a, c10b, c10c, c10d, c10e, c12a, c12b, c12c, c12d, c12e, c14a, c14b, c14c, c14d, c14e, c16a, c16b, c16c, c16d, c16e, c20a, c20b, c20c, c20d, c20e, c30a, c30b, c30c, c30d, c30e, c32a, c32b, c32c, c32d, c32e, c36a, c36b, c36c, c36d, c36e, c40a, c40b, c40c, c40d, c40e, c41a, c41b, c41c, c41d, c41e, c42a, c42b, c42c, c42d, c42e, c43a, c43b, c43c, c43d, c43e, c45a, c45b, c45c, c45d, c45e, c47a, c47b, c47c, c47d, c47e, c48a, c48b, c48c, c48d, c48e, c57a, c57b, c57c, c57d, c57e, c59a, c59b, c59c, c59d, c59e, c60a, c60b, c60c, c60d, c60e, c61a, c61b, c61c, c61d, c61e, c62a, c62b, c62c, c62d, c62e, c64a, c64b, c64c, c64d, c64e, c96a, c96b, c96c, c96d, c96e, c97a, c97b, c97c, c97d, c97e, c98a, c98b, c98c, c98d, c98e, c99a, c99b, c99c, c99d, c99e, c100a, c100b, c100c, c100d, c100e, c122a, c122b, c122c, c122d, c122e, c700a, c700b, c700c, c700d, c700e, c4240a, c4240b, c4240c, c4240d, c4240e, c9999a, c9999b, c9999c, c9999d, c9999e, c100000a, c100000b, c100000c, c100000d, c100000e, c1000000a, c1000000b, c1000000c, c1000000d, c1000000e, if_T, ri_s]
      exact ok_some rfl
    · intro n i x hi hI ih
      subst hI
      simp (disch := omega) only [LX5_thirds_5, KX5_thirds_5, hF, nI_leE, nI_ltE, nI_eqE, nI_m1, c0a, c0b, c0c, c0d, c0e, c1a, c1b, c1c, c1d, c1e, c2a, c2b, c2c, c2d, c2e, c3a, c3b, c3c, c3d, c3e, c4a, c4b, c4c, c4d, c4e, c5a, c5b, c5c, c5d, c5e, c6a, c6b, c6c, c6d, c6e, c7a, c7b, c7c, c7d, c7e, c8a, c8b, c8c, c8d, c8e, c9a, c9b, c9c, c9d, c9e, c10a, c10b, c10c, c10d, c10e, c12a, c12b, c12c, c12d, c12e, c14a, c14b, c14c, c14d, c14e, c16a, c16b, c16c, c16d, c16e, c20a, c20b, c20c, c20d, c20e, c30a, c30b, c30c, c30d, c30e, c32a, c32b, c32c, c32d, c32e, c36a, c36b, c36c, c36d, c36e, c40a, c40b, c40c, c40d, c40e, c41a, c41b, c41c, c41d, c41e, c42a, c42b, c42c, c42d, c42e, c43a, c43b, c43c, c43d, c43e, c45a, c45b, c45c, c45d, c45e, c47a, c47b, c47c, c47d, c47e, c48a, c48b, c48c, c48d, c48e, c57a, c57b, c57c, c57d, c57e, c59a, c59b, c59c, c59d, c59e, c60a, c60b, c60c, c60d, c60e, c61a, c61b, c61c, c61d, c61e, c62a, c62b, c62c, c62d, c62e, c64a, c64b, c64c, c64d, c64e, c96a, c96b, c96c, c96d, c96e, c97a, c97b, c97c, c97d, c97e, c98a, c98b, c98c, c98d, c98e, c99a, c99b, c99c, c99d, c99e, c100a, c100b, c100c, c100d, c100e, c122a, c122b, c122c, c122d, c122e, c700a, c700b, c700c, c700d, c700e, c4240a, c4240b, c4240c, c4240d, c4240e, c9999a, c9999b, c9999c, c9999d, c9999e, c100000a, c100000b, c100000c, c100000d, c100000e, c1000000a, c1000000b, c1000000c, c1000000d, c1000000e, if_F, C_third hC hf hi ef n6, bd_s, bv_s, bt_s, bt_x, vl_s, pf_s, ri_s, rz_0, rz_1, tri_s, trz_0, trz_1, trx_s, pz_0, pz_1, nI_add, pk_mul, up_at, la2, la5, la6, la8, la14, la62, la64, la98, la700, ra1, ra2, ra6, ra8, ra12, ra20, ra36, ra48, lm6, lm8, lm10, lm100, lm106, rm6, rm8, rm10, rm100, rm106, BX5_thirds_31]
      cases hb : thB V (fun t i => S (v + 3) (t * 6 + i)) f i with
      | false =>
        rw [if_pos (by rfl)]
        exact ih _ (hb_f hb)
      | true =>
        rw [if_neg (by decide)]
        exact ih _ (hb_t (by omega) hb)
  obtain ⟨b, e, q⟩ := this
  rw [e, q]
theorem M_thirds {V : Vy} {S : St} (hM : VM V S) (hX : ∀ t, t < vF V → ∃ n, n ≤ 6 ∧ vT V t = nI n) {f : Nat} (hf : f < vF V) : fX10_thirds (nI f) S = some (nI (hbits (thB V (fun t i => S 148 (6 * t + i)) f) (vF V)), S) := by
  have hV := hM.1
  have hF8 := hV.1
  have hF := hM.2.1
  obtain ⟨nf, n6, ef⟩ := hX f hf
  have e1 := (hM.2.2.2.2.2.2.1 f hf).2
  rw [ef] at e1
  have : ok (fX10_thirds (nI f) S) (fun q => q = (nI (hbits (thB V (fun t i => S 148 (6 * t + i)) f) (vF V)), S)) := by
    unfold fX10_thirds
    refine ok_for (σ := Int32) (fun n i x => LX10_thirds_4 n (nI f) x (nI i) S) _ (fun i x => x = nI (hbits (thB V (fun t i => S 148 (6 * t + i)) f) i)) (vF V) ?_ ?_ FU 0 0 (by omega) (by unfold FU; omega) rfl
    · intro n x hI
      subst hI
      simp (disch := omega) only [LX10_thirds_4, KX10_thirds_4, rd145, rd146, rd147, rd148, rd149, rd150, rd151, rd152, rd153, rd154, rd155, rd156, rd157, rd158, rd159, rd160, rd161, rd162, rd163, rd164, rd165, rd166, rd167, rd168, rd169, rd170, rd171, rd172, rd173, rd174, rd175, rd176, rd177, rd178, rd179, rd180, rd181, rd182, rd183, rd184, rd185, rd145_0, rd145_2, rd145_3, rd145_4, rd145_5, rd145_6, rd145_7, rd156_0, rd156_1, rd166_0, rd178_0, hF, nI_leE, nI_ltE, nI_eqE, nI_m1, c0a, c0b, c0c, c0d, c0e, c1a, c1b, c1c, c1d, c1e, c2a, c2b, c2c, c2d, c2e, c3a, c3b, c3c, c3d, c3e, c4a, c4b, c4c, c4d, c4e, c5a, c5b, c5c, c5d, c5e, c6a, c6b, c6c, c6d, c6e, c7a, c7b, c7c, c7d, c7e, c8a, c8b, c8c, c8d, c8e, c9a, c9b, c9c, c9d, c9e, c10a, c10b, c10c, c10d, c10e, c12a, c12b, c12c, c12d, c12e, c14a, c14b, c14c, c14d, c14e, c16a, c16b, c16c, c16d, c16e, c20a, c20b, c20c, c20d, c20e, c30a, c30b, c30c, c30d, c30e, c32a, c32b, c32c, c32d, c32e, c36a, c36b, c36c, c36d, c36e, c40a, c40b, c40c, c40d, c40e, c41a, c41b, c41c, c41d, c41e, c42a, c42b, c42c, c42d, c42e, c43a, c43b, c43c, c43d, c43e, c45a, c45b, c45c, c45d, c45e, c47a, c47b, c47c, c47d, c47e, c48a, c48b, c48c, c48d, c48e, c57a, c57b, c57c, c57d, c57e, c59a, c59b, c59c, c59d, c59e, c60a, c60b, c60c, c60d, c60e, c61a, c61b, c61c, c61d, c61e, c62a, c62b, c62c, c62d, c62e, c64a, c64b, c64c, c64d, c64e, c96a, c96b, c96c, c96d, c96e, c97a, c97b, c97c, c97d, c97e, c98a, c98b, c98c, c98d, c98e, c99a, c99b, c99c, c99d, c99e, c100a, c100b, c100c, c100d, c100e, c122a, c122b, c122c, c122d, c122e, c700a, c700b, c700c, c700d, c700e, c4240a, c4240b, c4240c, c4240d, c4240e, c9999a, c9999b, c9999c, c9999d, c9999e, c100000a, c100000b, c100000c, c100000d, c100000e, c1000000a, c1000000b, c1000000c, c1000000d, c1000000e, if_T, ri_s]
      exact ok_some rfl
    · intro n t x ht hI ih
      subst hI
      have e2 := (hM.2.2.2.2.2.2.1 t ht).2
      simp (disch := omega) only [LX10_thirds_4, KX10_thirds_4, rd145, rd146, rd147, rd148, rd149, rd150, rd151, rd152, rd153, rd154, rd155, rd156, rd157, rd158, rd159, rd160, rd161, rd162, rd163, rd164, rd165, rd166, rd167, rd168, rd169, rd170, rd171, rd172, rd173, rd174, rd175, rd176, rd177, rd178, rd179, rd180, rd181, rd182, rd183, rd184, rd185, rd145_0, rd145_2, rd145_3, rd145_4, rd145_5, rd145_6, rd145_7, rd156_0, rd156_1, rd166_0, rd178_0, hF, nI_leE, nI_ltE, nI_eqE, nI_m1, c0a, c0b, c0c, c0d, c0e, c1a, c1b, c1c, c1d, c1e, c2a, c2b, c2c, c2d, c2e, c3a, c3b, c3c, c3d, c3e, c4a, c4b, c4c, c4d, c4e, c5a, c5b, c5c, c5d, c5e, c6a, c6b, c6c, c6d, c6e, c7a, c7b, c7c, c7d, c7e, c8a, c8b, c8c, c8d, c8e, c9a, c9b, c9c, c9d, c9e, c10a, c10b, c10c, c10d, c10e, c12a, c12b, c12c, c12d, c12e, c14a, c14b, c14c, c14d, c14e, c16a, c16b, c16c, c16d, c16e, c20a, c20b, c20c, c20d, c20e, c30a, c30b, c30c, c30d, c30e, c32a, c32b, c32c, c32d, c32e, c36a, c36b, c36c, c36d, c36e, c40a, c40b, c40c, c40d, c40e, c41a, c41b, c41c, c41d, c41e, c42a, c42b, c42c, c42d, c42e, c43a, c43b, c43c, c43d, c43e, c45a, c45b, c45c, c45d, c45e, c47a, c47b, c47c, c47d, c47e, c48a, c48b, c48c, c48d, c48e, c57a, c57b, c57c, c57d, c57e, c59a, c59b, c59c, c59d, c59e, c60a, c60b, c60c, c60d, c60e, c61a, c61b, c61c, c61d, c61e, c62a, c62b, c62c, c62d, c62e, c64a, c64b, c64c, c64d, c64e, c96a, c96b, c96c, c96d, c96e, c97a, c97b, c97c, c97d, c97e, c98a, c98b, c98c, c98d, c98e, c99a, c99b, c99c, c99d, c99e, c100a, c100b, c100c, c100d, c100e, c122a, c122b, c122c, c122d, c122e, c700a, c700b, c700c, c700d, c700e, c4240a, c4240b, c4240c, c4240d, c4240e, c9999a, c9999b, c9999c, c9999d, c9999e, c100000a, c100000b, c100000c, c100000d, c100000e, c1000000a, c1000000b, c1000000c, c1000000d, c1000000e, if_F, e1, e2]
      have out : ∀ b : Bool, thB V (fun t i => S 148 (6 * t + i)) f t = b → ok (BX10_thirds_101 (LX10_thirds_4 n) (nI f) (nI (hbits (thB V (fun t i => S 148 (6 * t + i)) f) t)) (nI t) (b2i b) S) (fun q => q = (nI (hbits (thB V (fun t i => S 148 (6 * t + i)) f) (vF V)), S)) := by
        intro b hb
        unfold BX10_thirds_101 BX10_thirds_114
        cases b with
        | false =>
          rw [if_pos (by rfl), vl_s, vl_s, nI_1, or0]
          exact ih _ (hb_f hb)
        | true =>
          rw [if_neg (by decide), vl_s, vl_s, nI_1]
          exact ih _ (hb_t (by omega) hb)
      have inner : ∀ b0 : Bool, decide (vT V t = vT V f) = b0 → ok (BX10_thirds_34 (LX10_thirds_4 n) (nI f) (nI (hbits (thB V (fun t i => S 148 (6 * t + i)) f) t)) (nI t) (b2i b0) S) (fun q => q = (nI (hbits (thB V (fun t i => S 148 (6 * t + i)) f) (vF V)), S)) := by
        intro b0 hb0
        unfold BX10_thirds_34
        refine ok_for2 (σ := Int32) (fun m i y => LX10_thirds_39 (LX10_thirds_4 n) m (nI f) (nI (hbits (thB V (fun t i => S 148 (6 * t + i)) f) t)) (nI t) y (nI i) S) _ (fun i y => y = b2i (b0 && allB (fun i => decide (S 148 (6 * t + i) = (S 148 (6 * f + i) + 8) - (S 148 (6 * f + i) + 8) / 10 * 10)) i)) nf ?_ ?_ FU 0 _ (by omega) (by unfold FU; omega) (by show b2i b0 = b2i (b0 && true); rw [Bool.and_true])
        · intro m y hy
          simp (disch := omega) only [LX10_thirds_39, KX10_thirds_39, rd145, rd146, rd147, rd148, rd149, rd150, rd151, rd152, rd153, rd154, rd155, rd156, rd157, rd158, rd159, rd160, rd161, rd162, rd163, rd164, rd165, rd166, rd167, rd168, rd169, rd170, rd171, rd172, rd173, rd174, rd175, rd176, rd177, rd178, rd179, rd180, rd181, rd182, rd183, rd184, rd185, rd145_0, rd145_2, rd145_3, rd145_4, rd145_5, rd145_6, rd145_7, rd156_0, rd156_1, rd166_0, rd178_0, e1, nI_leE, nI_ltE, nI_eqE, nI_m1, c0a, c0b, c0c, c0d, c0e, c1a, c1b, c1c, c1d, c1e, c2a, c2b, c2c, c2d, c2e, c3a, c3b, c3c, c3d, c3e, c4a, c4b, c4c, c4d, c4e, c5a, c5b, c5c, c5d, c5e, c6a, c6b, c6c, c6d, c6e, c7a, c7b, c7c, c7d, c7e, c8a, c8b, c8c, c8d, c8e, c9a, c9b, c9c, c9d, c9e, c10a, c10b, c10c, c10d, c10e, c12a, c12b, c12c, c12d, c12e, c14a, c14b, c14c, c14d, c14e, c16a, c16b, c16c, c16d, c16e, c20a, c20b, c20c, c20d, c20e, c30a, c30b, c30c, c30d, c30e, c32a, c32b, c32c, c32d, c32e, c36a, c36b, c36c, c36d, c36e, c40a, c40b, c40c, c40d, c40e, c41a, c41b, c41c, c41d, c41e, c42a, c42b, c42c, c42d, c42e, c43a, c43b, c43c, c43d, c43e, c45a, c45b, c45c, c45d, c45e, c47a, c47b, c47c, c47d, c47e, c48a, c48b, c48c, c48d, c48e, c57a, c57b, c57c, c57d, c57e, c59a, c59b, c59c, c59d, c59e, c60a, c60b, c60c, c60d, c60e, c61a, c61b, c61c, c61d, c61e, c62a, c62b, c62c, c62d, c62e, c64a, c64b, c64c, c64d, c64e, c96a, c96b, c96c, c96d, c96e, c97a, c97b, c97c, c97d, c97e, c98a, c98b, c98c, c98d, c98e, c99a, c99b, c99c, c99d, c99e, c100a, c100b, c100c, c100d, c100e, c122a, c122b, c122c, c122d, c122e, c700a, c700b, c700c, c700d, c700e, c4240a, c4240b, c4240c, c4240d, c4240e, c9999a, c9999b, c9999c, c9999d, c9999e, c100000a, c100000b, c100000c, c100000d, c100000e, c1000000a, c1000000b, c1000000c, c1000000d, c1000000e, if_T]
          rw [hy]
          refine out _ ?_
          unfold thB
          rw [hb0, ef, nI_clamp (by omega)]
        · intro m i y hi hfu hy ih2
          subst hy
          simp (disch := omega) only [LX10_thirds_39, KX10_thirds_39, rd145, rd146, rd147, rd148, rd149, rd150, rd151, rd152, rd153, rd154, rd155, rd156, rd157, rd158, rd159, rd160, rd161, rd162, rd163, rd164, rd165, rd166, rd167, rd168, rd169, rd170, rd171, rd172, rd173, rd174, rd175, rd176, rd177, rd178, rd179, rd180, rd181, rd182, rd183, rd184, rd185, rd145_0, rd145_2, rd145_3, rd145_4, rd145_5, rd145_6, rd145_7, rd156_0, rd156_1, rd166_0, rd178_0, e1, nI_leE, nI_ltE, nI_eqE, nI_m1, c0a, c0b, c0c, c0d, c0e, c1a, c1b, c1c, c1d, c1e, c2a, c2b, c2c, c2d, c2e, c3a, c3b, c3c, c3d, c3e, c4a, c4b, c4c, c4d, c4e, c5a, c5b, c5c, c5d, c5e, c6a, c6b, c6c, c6d, c6e, c7a, c7b, c7c, c7d, c7e, c8a, c8b, c8c, c8d, c8e, c9a, c9b, c9c, c9d, c9e, c10a, c10b, c10c, c10d, c10e, c12a, c12b, c12c, c12d, c12e, c14a, c14b, c14c, c14d, c14e, c16a, c16b, c16c, c16d, c16e, c20a, c20b, c20c, c20d, c20e, c30a, c30b, c30c, c30d, c30e, c32a, c32b, c32c, c32d, c32e, c36a, c36b, c36c, c36d, c36e, c40a, c40b, c40c, c40d, c40e, c41a, c41b, c41c, c41d, c41e, c42a, c42b, c42c, c42d, c42e, c43a, c43b, c43c, c43d, c43e, c45a, c45b, c45c, c45d, c45e, c47a, c47b, c47c, c47d, c47e, c48a, c48b, c48c, c48d, c48e, c57a, c57b, c57c, c57d, c57e, c59a, c59b, c59c, c59d, c59e, c60a, c60b, c60c, c60d, c60e, c61a, c61b, c61c, c61d, c61e, c62a, c62b, c62c, c62d, c62e, c64a, c64b, c64c, c64d, c64e, c96a, c96b, c96c, c96d, c96e, c97a, c97b, c97c, c97d, c97e, c98a, c98b, c98c, c98d, c98e, c99a, c99b, c99c, c99d, c99e, c100a, c100b, c100c, c100d, c100e, c122a, c122b, c122c, c122d, c122e, c700a, c700b, c700c, c700d, c700e, c4240a, c4240b, c4240c, c4240d, c4240e, c9999a, c9999b, c9999c, c9999d, c9999e, c100000a, c100000b, c100000c, c100000d, c100000e, c1000000a, c1000000b, c1000000c, c1000000d, c1000000e, if_F, bd_s, bv_s, bt_s, bt_x, vl_s, pf_s, ri_s, rz_0, rz_1, tri_s, trz_0, trz_1, trx_s, pz_0, pz_1, nI_add, pk_mul, up_at, la2, la5, la6, la8, la14, la62, la64, la98, la700, ra1, ra2, ra6, ra8, ra12, ra20, ra36, ra48, lm6, lm8, lm10, lm100, lm106, rm6, rm8, rm10, rm100, rm106, rm_10, BX10_thirds_93]
          cases hal : (b0 && allB (fun i => decide (S 148 (6 * t + i) = (S 148 (6 * f + i) + 8) - (S 148 (6 * f + i) + 8) / 10 * 10)) i) with
          | false =>
            rw [if_pos (by rfl)]
            refine out false ?_
            unfold thB
            rw [hb0, ef, nI_clamp (by omega)]
            cases b0 with
            | false => rfl
            | true =>
              have hz : allB (fun i => decide (S 148 (6 * t + i) = (S 148 (6 * f + i) + 8) - (S 148 (6 * f + i) + 8) / 10 * 10)) i = false := by simpa using hal
              have : ¬ allB (fun i => decide (S 148 (6 * t + i) = (S 148 (6 * f + i) + 8) - (S 148 (6 * f + i) + 8) / 10 * 10)) nf = true := by
                intro hq
                rw [allB_t] at hq
                have : allB (fun i => decide (S 148 (6 * t + i) = (S 148 (6 * f + i) + 8) - (S 148 (6 * f + i) + 8) / 10 * 10)) i = true := (allB_t i).mpr (fun j hj => hq j (by omega))
                rw [hz] at this; cases this
              simpa using this
          | true =>
            rw [if_neg (by decide)]
            have hb2 : b0 = true ∧ allB (fun i => decide (S 148 (6 * t + i) = (S 148 (6 * f + i) + 8) - (S 148 (6 * f + i) + 8) / 10 * 10)) i = true := (Bool.and_eq_true _ _).mp hal
            by_cases d : S 148 (6 * t + i) = (S 148 (6 * f + i) + 8) - (S 148 (6 * f + i) + 8) / 10 * 10
            · rw [if_pos d]
              refine ih2 _ ?_
              show _ = b2i (b0 && (allB _ i && decide (S 148 (6 * t + i) = (S 148 (6 * f + i) + 8) - (S 148 (6 * f + i) + 8) / 10 * 10)))
              rw [hb2.1, hb2.2, decide_eq_true d]; rfl
            · rw [if_neg d]
              refine ih2 _ ?_
              show _ = b2i (b0 && (allB _ i && decide (S 148 (6 * t + i) = (S 148 (6 * f + i) + 8) - (S 148 (6 * f + i) + 8) / 10 * 10)))
              rw [decide_eq_false d]; simp [b2i]
      by_cases c : vT V t = vT V f
      · rw [if_pos (by rw [c, ef])]
        exact inner true (decide_eq_true c)
      · rw [if_neg (by rw [← ef]; exact c)]
        exact inner false (decide_eq_false c)
  obtain ⟨b, e, q⟩ := this
  rw [e, q]
theorem A_field {nX : Int32} (a1 a2 : Int32) : Agr nX (fX9_field a1 a2) (fX10_field a1 a2) := by
  refine look (fun S V v d hR => ?_)
  have hV := hR.vk
  have hS6 := hV.2.1
  have hF8 := hV.1
  have hv := hR.hv
  have hM0 : ∀ T, cK S T → VM V (up T 142 3 0) := fun T hT => (hR.c hT).M.go (fun a ha => up_ne (by omega))
  have fail1 : ∀ e1 : fX9_field a1 a2 S = some (.inr 1, S), (∀ T, cK S T → fX10_field a1 a2 T = BX10_field_25 (up T 142 3 0)) → ∃ w : Int32 ⊕ Nat, ok (fX9_field a1 a2 S) (fun q => q.1 = w ∧ cK S q.2) ∧ ∀ T, cK S T → ok (fX10_field a1 a2 T) (fun q => mK T q.2 ∧ match w with
      | .inl r => q.2 142 3 = 0 ∧ q.1 = r
      | .inr n => (n = 1 ∧ q.2 142 3 = 1) ∨ (n = 2 ∧ q.2 142 3 = nX)) := by
    intro e1 e2
    refine ⟨.inr 1, by rw [e1]; exact ok_some ⟨rfl, cK.rf⟩, fun T hT => ?_⟩
    rw [e2 T hT]
    unfold BX10_field_25
    rw [m_fail]
    exact ok_some ⟨mKx, Or.inl ⟨rfl, rfl⟩⟩
  have good : ∀ x : Int32, (fX9_field a1 a2 S = some (.inl x, S)) → (∀ T, cK S T → fX10_field a1 a2 T = some (x, up T 142 3 0)) → ∃ w : Int32 ⊕ Nat, ok (fX9_field a1 a2 S) (fun q => q.1 = w ∧ cK S q.2) ∧ ∀ T, cK S T → ok (fX10_field a1 a2 T) (fun q => mK T q.2 ∧ match w with
      | .inl r => q.2 142 3 = 0 ∧ q.1 = r
      | .inr n => (n = 1 ∧ q.2 142 3 = 1) ∨ (n = 2 ∧ q.2 142 3 = nX)) := by
    intro x e1 e2
    refine ⟨.inl x, by rw [e1]; exact ok_some ⟨rfl, cK.rf⟩, fun T hT => ?_⟩
    rw [e2 T hT]; exact ok_some ⟨mK0, rfl, rfl⟩
  rcases arg a1 (n := vF V) (by omega) with ⟨f, hf, rfl⟩ | h1
  · rcases arg2 a2 (lo := 0) (hi := 5) (by decide) (by decide) with ⟨w, -, hw, rfl⟩ | h2
    · obtain ⟨nf, n6, ef, ei⟩ := hR.X.2.1 f hf
      have eA := hR.C.2.2.2.2.2.2.2.1 f hf
      have eB := hR.X.2.2.2.1 f hf
      have big : ∀ T, cK S T → 3 ≤ w → fX10_field (nI f) (nI w) T = some (if w = 3 then nI (hbits (fun s => decide (plN V (S 37) s = f)) (vS' V)) else if w = 4 then nI (hbits (thB V (fun t i => S 148 (6 * t + i)) f) (vF V)) else nI (hbits (fun k => decide (¬ S 149 (8 * f + k) ≤ 0)) (vF V)), up T 142 3 0) := by
        intro T hT w3
        have hM := hM0 T hT
        have e149 : up T 142 3 0 149 = S 149 := by rw [up_ne (by decide), hT.at 149 (by decide) (by decide) (by decide) (by decide) (by decide)]
        have e148 : up T 142 3 0 148 = S 148 := by rw [up_ne (by decide), hT.at 148 (by decide) (by decide) (by decide) (by decide) (by decide)]
        have m0 : mr (up T 142 3 0) = mr S := by rw [mr_up (by omega) (by omega), hT.mr]
        have eS := hM.2.2.1
        have eF := hM.2.1
        have th := M_thirds hM (fun t ht => by obtain ⟨n, h1, h2, -⟩ := hR.X.2.1 t ht; exact ⟨n, h1, h2⟩) hf
        rw [e148] at th
        unfold fX10_field
        rw [pf_s, M_isF_t hM hf, bd_s, if_neg (by decide), show (0 : Int64) = (nI 0).toInt64 from rfl, show (5 : Int64) = (nI 5).toInt64 from rfl, M_in_t (by omega) hw (by decide), bd_s, if_neg (by decide), show (3 : Int32) = nI 3 from rfl, if_pos (nI_le w3 (by omega))]
        generalize up T 142 3 0 = T0 at *
        have key : ok (LX10_field_78 FU (nI f) (nI w) 0 0 0 T0) (fun q => q = (if w = 3 then nI (hbits (fun s => decide (plN V (S 37) s = f)) (vS' V)) else if w = 4 then nI (hbits (thB V (fun t i => S 148 (6 * t + i)) f) (vF V)) else nI (hbits (fun k => decide (¬ S 149 (8 * f + k) ≤ 0)) (vF V)), T0)) := by
          refine ok_for (σ := Int32) (fun n i x => LX10_field_78 n (nI f) (nI w) x 0 (nI i) T0) _ (fun i x => x = nI (hbits (fun s => decide (plN V (S 37) s = f)) i)) (vS' V) ?_ ?_ FU 0 0 (by omega) (by unfold FU; omega) rfl
          · intro n x hI
            subst hI
            simp (disch := omega) only [LX10_field_78, KX10_field_78, rd145, rd146, rd147, rd148, rd149, rd150, rd151, rd152, rd153, rd154, rd155, rd156, rd157, rd158, rd159, rd160, rd161, rd162, rd163, rd164, rd165, rd166, rd167, rd168, rd169, rd170, rd171, rd172, rd173, rd174, rd175, rd176, rd177, rd178, rd179, rd180, rd181, rd182, rd183, rd184, rd185, rd145_0, rd145_2, rd145_3, rd145_4, rd145_5, rd145_6, rd145_7, rd156_0, rd156_1, rd166_0, rd178_0, eS, nI_leE, nI_ltE, nI_eqE, nI_m1, c0a, c0b, c0c, c0d, c0e, c1a, c1b, c1c, c1d, c1e, c2a, c2b, c2c, c2d, c2e, c3a, c3b, c3c, c3d, c3e, c4a, c4b, c4c, c4d, c4e, c5a, c5b, c5c, c5d, c5e, c6a, c6b, c6c, c6d, c6e, c7a, c7b, c7c, c7d, c7e, c8a, c8b, c8c, c8d, c8e, c9a, c9b, c9c, c9d, c9e, c10a, c10b, c10c, c10d, c10e, c12a, c12b, c12c, c12d, c12e, c14a, c14b, c14c, c14d, c14e, c16a, c16b, c16c, c16d, c16e, c20a, c20b, c20c, c20d, c20e, c30a, c30b, c30c, c30d, c30e, c32a, c32b, c32c, c32d, c32e, c36a, c36b, c36c, c36d, c36e, c40a, c40b, c40c, c40d, c40e, c41a, c41b, c41c, c41d, c41e, c42a, c42b, c42c, c42d, c42e, c43a, c43b, c43c, c43d, c43e, c45a, c45b, c45c, c45d, c45e, c47a, c47b, c47c, c47d, c47e, c48a, c48b, c48c, c48d, c48e, c57a, c57b, c57c, c57d, c57e, c59a, c59b, c59c, c59d, c59e, c60a, c60b, c60c, c60d, c60e, c61a, c61b, c61c, c61d, c61e, c62a, c62b, c62c, c62d, c62e, c64a, c64b, c64c, c64d, c64e, c96a, c96b, c96c, c96d, c96e, c97a, c97b, c97c, c97d, c97e, c98a, c98b, c98c, c98d, c98e, c99a, c99b, c99c, c99d, c99e, c100a, c100b, c100c, c100d, c100e, c122a, c122b, c122c, c122d, c122e, c700a, c700b, c700c, c700d, c700e, c4240a, c4240b, c4240c, c4240d, c4240e, c9999a, c9999b, c9999c, c9999d, c9999e, c100000a, c100000b, c100000c, c100000d, c100000e, c1000000a, c1000000b, c1000000c, c1000000d, c1000000e, if_T]
            refine ok_for (σ := Int32) (fun n i y => LX10_field_119 n (nI f) (nI w) (nI (hbits (fun s => decide (plN V (S 37) s = f)) (vS' V))) y (nI i) T0) _ (fun i y => y = nI (hbits (fun k => decide (¬ S 149 (8 * f + k) ≤ 0)) i)) (vF V) ?_ ?_ FU 0 0 (by omega) (by unfold FU; omega) rfl
            · intro n y hy
              subst hy
              simp (disch := omega) only [LX10_field_119, KX10_field_119, rd145, rd146, rd147, rd148, rd149, rd150, rd151, rd152, rd153, rd154, rd155, rd156, rd157, rd158, rd159, rd160, rd161, rd162, rd163, rd164, rd165, rd166, rd167, rd168, rd169, rd170, rd171, rd172, rd173, rd174, rd175, rd176, rd177, rd178, rd179, rd180, rd181, rd182, rd183, rd184, rd185, rd145_0, rd145_2, rd145_3, rd145_4, rd145_5, rd145_6, rd145_7, rd156_0, rd156_1, rd166_0, rd178_0, eF, nI_leE, nI_ltE, nI_eqE, nI_m1, c0a, c0b, c0c, c0d, c0e, c1a, c1b, c1c, c1d, c1e, c2a, c2b, c2c, c2d, c2e, c3a, c3b, c3c, c3d, c3e, c4a, c4b, c4c, c4d, c4e, c5a, c5b, c5c, c5d, c5e, c6a, c6b, c6c, c6d, c6e, c7a, c7b, c7c, c7d, c7e, c8a, c8b, c8c, c8d, c8e, c9a, c9b, c9c, c9d, c9e, c10a, c10b, c10c, c10d, c10e, c12a, c12b, c12c, c12d, c12e, c14a, c14b, c14c, c14d, c14e, c16a, c16b, c16c, c16d, c16e, c20a, c20b, c20c, c20d, c20e, c30a, c30b, c30c, c30d, c30e, c32a, c32b, c32c, c32d, c32e, c36a, c36b, c36c, c36d, c36e, c40a, c40b, c40c, c40d, c40e, c41a, c41b, c41c, c41d, c41e, c42a, c42b, c42c, c42d, c42e, c43a, c43b, c43c, c43d, c43e, c45a, c45b, c45c, c45d, c45e, c47a, c47b, c47c, c47d, c47e, c48a, c48b, c48c, c48d, c48e, c57a, c57b, c57c, c57d, c57e, c59a, c59b, c59c, c59d, c59e, c60a, c60b, c60c, c60d, c60e, c61a, c61b, c61c, c61d, c61e, c62a, c62b, c62c, c62d, c62e, c64a, c64b, c64c, c64d, c64e, c96a, c96b, c96c, c96d, c96e, c97a, c97b, c97c, c97d, c97e, c98a, c98b, c98c, c98d, c98e, c99a, c99b, c99c, c99d, c99e, c100a, c100b, c100c, c100d, c100e, c122a, c122b, c122c, c122d, c122e, c700a, c700b, c700c, c700d, c700e, c4240a, c4240b, c4240c, c4240d, c4240e, c9999a, c9999b, c9999c, c9999d, c9999e, c100000a, c100000b, c100000c, c100000d, c100000e, c1000000a, c1000000b, c1000000c, c1000000d, c1000000e, if_T, th, bd_s, bv_s, bt_s, bt_x, vl_s, pf_s, ri_s, rz_0, rz_1, tri_s, trz_0, trz_1, trx_s, pz_0, pz_1, nI_add, pk_mul, up_at, la2, la5, la6, la8, la14, la62, la64, la98, la700, ra1, ra2, ra6, ra8, ra12, ra20, ra36, ra48, lm6, lm8, lm10, lm100, lm106, rm6, rm8, rm10, rm100, rm106]
              by_cases c3 : w = 3
              · rw [if_pos c3, if_pos c3]; exact ok_some rfl
              · rw [if_neg c3, if_neg c3]
                by_cases c4 : w = 4
                · rw [if_pos c4, if_pos c4]; exact ok_some rfl
                · rw [if_neg c4, if_neg c4]; exact ok_some rfl
            · intro n k y hk hy ih
              subst hy
              simp (disch := omega) only [LX10_field_119, KX10_field_119, rd145, rd146, rd147, rd148, rd149, rd150, rd151, rd152, rd153, rd154, rd155, rd156, rd157, rd158, rd159, rd160, rd161, rd162, rd163, rd164, rd165, rd166, rd167, rd168, rd169, rd170, rd171, rd172, rd173, rd174, rd175, rd176, rd177, rd178, rd179, rd180, rd181, rd182, rd183, rd184, rd185, rd145_0, rd145_2, rd145_3, rd145_4, rd145_5, rd145_6, rd145_7, rd156_0, rd156_1, rd166_0, rd178_0, eF, nI_leE, nI_ltE, nI_eqE, nI_m1, c0a, c0b, c0c, c0d, c0e, c1a, c1b, c1c, c1d, c1e, c2a, c2b, c2c, c2d, c2e, c3a, c3b, c3c, c3d, c3e, c4a, c4b, c4c, c4d, c4e, c5a, c5b, c5c, c5d, c5e, c6a, c6b, c6c, c6d, c6e, c7a, c7b, c7c, c7d, c7e, c8a, c8b, c8c, c8d, c8e, c9a, c9b, c9c, c9d, c9e, c10a, c10b, c10c, c10d, c10e, c12a, c12b, c12c, c12d, c12e, c14a, c14b, c14c, c14d, c14e, c16a, c16b, c16c, c16d, c16e, c20a, c20b, c20c, c20d, c20e, c30a, c30b, c30c, c30d, c30e, c32a, c32b, c32c, c32d, c32e, c36a, c36b, c36c, c36d, c36e, c40a, c40b, c40c, c40d, c40e, c41a, c41b, c41c, c41d, c41e, c42a, c42b, c42c, c42d, c42e, c43a, c43b, c43c, c43d, c43e, c45a, c45b, c45c, c45d, c45e, c47a, c47b, c47c, c47d, c47e, c48a, c48b, c48c, c48d, c48e, c57a, c57b, c57c, c57d, c57e, c59a, c59b, c59c, c59d, c59e, c60a, c60b, c60c, c60d, c60e, c61a, c61b, c61c, c61d, c61e, c62a, c62b, c62c, c62d, c62e, c64a, c64b, c64c, c64d, c64e, c96a, c96b, c96c, c96d, c96e, c97a, c97b, c97c, c97d, c97e, c98a, c98b, c98c, c98d, c98e, c99a, c99b, c99c, c99d, c99e, c100a, c100b, c100c, c100d, c100e, c122a, c122b, c122c, c122d, c122e, c700a, c700b, c700c, c700d, c700e, c4240a, c4240b, c4240c, c4240d, c4240e, c9999a, c9999b, c9999c, c9999d, c9999e, c100000a, c100000b, c100000c, c100000d, c100000e, c1000000a, c1000000b, c1000000c, c1000000d, c1000000e, if_F, bd_s, bv_s, bt_s, bt_x, vl_s, pf_s, ri_s, rz_0, rz_1, tri_s, trz_0, trz_1, trx_s, pz_0, pz_1, nI_add, pk_mul, up_at, la2, la5, la6, la8, la14, la62, la64, la98, la700, ra1, ra2, ra6, ra8, ra12, ra20, ra36, ra48, lm6, lm8, lm10, lm100, lm106, rm6, rm8, rm10, rm100, rm106, e149, BX10_field_155]
              by_cases c : S 149 (8 * f + k) ≤ 0
              · rw [if_pos c, or0]
                exact ih _ (hb_f (by simp [c]))
              · rw [if_neg c]
                exact ih _ (hb_t (by omega) (by simp [c]))
          · intro n i x hi hI ih
            subst hI
            obtain ⟨p, hp, ep, ep2⟩ := pl_ok hR.rok hV (by decide) hi
            have epl := M_placeOf hM (by rw [m0]; exact hR.mok) (by decide) hi
            rw [m0, ← rg_pl hV hR.rag hi, ep] at epl
            simp (disch := omega) only [LX10_field_78, KX10_field_78, rd145, rd146, rd147, rd148, rd149, rd150, rd151, rd152, rd153, rd154, rd155, rd156, rd157, rd158, rd159, rd160, rd161, rd162, rd163, rd164, rd165, rd166, rd167, rd168, rd169, rd170, rd171, rd172, rd173, rd174, rd175, rd176, rd177, rd178, rd179, rd180, rd181, rd182, rd183, rd184, rd185, rd145_0, rd145_2, rd145_3, rd145_4, rd145_5, rd145_6, rd145_7, rd156_0, rd156_1, rd166_0, rd178_0, eS, nI_leE, nI_ltE, nI_eqE, nI_m1, c0a, c0b, c0c, c0d, c0e, c1a, c1b, c1c, c1d, c1e, c2a, c2b, c2c, c2d, c2e, c3a, c3b, c3c, c3d, c3e, c4a, c4b, c4c, c4d, c4e, c5a, c5b, c5c, c5d, c5e, c6a, c6b, c6c, c6d, c6e, c7a, c7b, c7c, c7d, c7e, c8a, c8b, c8c, c8d, c8e, c9a, c9b, c9c, c9d, c9e, c10a, c10b, c10c, c10d, c10e, c12a, c12b, c12c, c12d, c12e, c14a, c14b, c14c, c14d, c14e, c16a, c16b, c16c, c16d, c16e, c20a, c20b, c20c, c20d, c20e, c30a, c30b, c30c, c30d, c30e, c32a, c32b, c32c, c32d, c32e, c36a, c36b, c36c, c36d, c36e, c40a, c40b, c40c, c40d, c40e, c41a, c41b, c41c, c41d, c41e, c42a, c42b, c42c, c42d, c42e, c43a, c43b, c43c, c43d, c43e, c45a, c45b, c45c, c45d, c45e, c47a, c47b, c47c, c47d, c47e, c48a, c48b, c48c, c48d, c48e, c57a, c57b, c57c, c57d, c57e, c59a, c59b, c59c, c59d, c59e, c60a, c60b, c60c, c60d, c60e, c61a, c61b, c61c, c61d, c61e, c62a, c62b, c62c, c62d, c62e, c64a, c64b, c64c, c64d, c64e, c96a, c96b, c96c, c96d, c96e, c97a, c97b, c97c, c97d, c97e, c98a, c98b, c98c, c98d, c98e, c99a, c99b, c99c, c99d, c99e, c100a, c100b, c100c, c100d, c100e, c122a, c122b, c122c, c122d, c122e, c700a, c700b, c700c, c700d, c700e, c4240a, c4240b, c4240c, c4240d, c4240e, c9999a, c9999b, c9999c, c9999d, c9999e, c100000a, c100000b, c100000c, c100000d, c100000e, c1000000a, c1000000b, c1000000c, c1000000d, c1000000e, if_F, epl, bd_s, bv_s, bt_s, bt_x, vl_s, pf_s, ri_s, rz_0, rz_1, tri_s, trz_0, trz_1, trx_s, pz_0, pz_1, nI_add, pk_mul, up_at, la2, la5, la6, la8, la14, la62, la64, la98, la700, ra1, ra2, ra6, ra8, ra12, ra20, ra36, ra48, lm6, lm8, lm10, lm100, lm106, rm6, rm8, rm10, rm100, rm106, BX10_field_108]
            by_cases c : p = f
            · rw [if_pos c]
              exact ih _ (hb_t (by omega) (by simp [ep2, c]))
            · rw [if_neg c, or0]
              exact ih _ (hb_f (by simp [ep2, c]))
        obtain ⟨b, e, q⟩ := key
        rw [← q]; exact e
      have small : ∀ T, cK S T → w < 3 → fX10_field (nI f) (nI w) T = (if nI w = 0 then rd (up T 142 3 0) 146 (nI f) fun x13 => ri x13 (up T 142 3 0) else (if nI w = 1 then rd (up T 142 3 0) 147 (nI f) fun x11 => ri x11 (up T 142 3 0) else rd (up T 142 3 0) 162 (nI f) fun x9 => ri x9 (up T 142 3 0))) := by
        intro T hT w3
        unfold fX10_field
        rw [pf_s, M_isF_t (hM0 T hT) hf, bd_s, if_neg (by decide), show (0 : Int64) = (nI 0).toInt64 from rfl, show (5 : Int64) = (nI 5).toInt64 from rfl, M_in_t (by omega) hw (by decide), bd_s, if_neg (by decide), if_neg (show ¬ 3 ≤ nI w from nI_ge w3 (by decide))]
      have cls : fX9_field (nI f) (nI w) S = (if nI w = 0 then gm S 0 3 8 fun q3 => rd S (sr q3 3) (nI f) fun x5 => tri x5 S else (if nI w = 1 then gm S 0 3 8 fun q7 => rd S (sr q7 4) (nI f) fun x9 => tri x9 S else (if nI w = 2 then rd S 37 (98 + nI f) fun x13 => tri x13 S else (if nI w = 3 then bd (fX9_whoIsIn (nI f) S) fun x15 S => tri x15 S else (if nI w = 4 then gm S 0 3 8 fun q18 => bd (fX5_thirds q18 (nI f) S) fun x19 S => tri x19 S else (if nI w = 5 then gm S 0 3 8 fun q21 => rd S (sr q21 6) (nI f) fun x23 => tri x23 S else trx 1 S)))))) := by
        unfold fX9_field
        rw [C_nF_t hR hf, bt_s]
      have hw6 : w = 0 ∨ w = 1 ∨ w = 2 ∨ w = 3 ∨ w = 4 ∨ w = 5 := by omega
      rcases hw6 with rfl | rfl | rfl | rfl | rfl | rfl
      · refine good (vA V f) ?_ (fun T hT => ?_)
        · rw [cls, if_pos (by rfl), gm_v hR.2.1 hv]
          simp (disch := omega) only [srv3, srv4, srv5, srv6, srv7, srv8, srv9, srv10, srv11, srv12, srv13, rdv1, rdv2, rdv3, rdv4, rdv5, rdv6, rdv7, rdv8, rdv9, rdv10, rdv12, rdv14, eA.1, bd_s, bv_s, bt_s, bt_x, vl_s, pf_s, ri_s, rz_0, rz_1, tri_s, trz_0, trz_1, trx_s, pz_0, pz_1, nI_add, pk_mul, up_at, la2, la5, la6, la8, la14, la62, la64, la98, la700, ra1, ra2, ra6, ra8, ra12, ra20, ra36, ra48, lm6, lm8, lm10, lm100, lm106, rm6, rm8, rm10, rm100, rm106]
        · rw [small T hT (by decide), if_pos (by rfl), rd146 (by omega), (hM0 T hT).2.2.2.2.2.2.1 f hf |>.1]; rfl
      · refine good (vT V f) ?_ (fun T hT => ?_)
        · rw [cls, if_neg (by decide), if_pos (by rfl), gm_v hR.2.1 hv]
          simp (disch := omega) only [srv3, srv4, srv5, srv6, srv7, srv8, srv9, srv10, srv11, srv12, srv13, rdv1, rdv2, rdv3, rdv4, rdv5, rdv6, rdv7, rdv8, rdv9, rdv10, rdv12, rdv14, eA.2, bd_s, bv_s, bt_s, bt_x, vl_s, pf_s, ri_s, rz_0, rz_1, tri_s, trz_0, trz_1, trx_s, pz_0, pz_1, nI_add, pk_mul, up_at, la2, la5, la6, la8, la14, la62, la64, la98, la700, ra1, ra2, ra6, ra8, ra12, ra20, ra36, ra48, lm6, lm8, lm10, lm100, lm106, rm6, rm8, rm10, rm100, rm106]
        · rw [small T hT (by decide), if_neg (by decide), if_pos (by rfl), rd147 (by omega), (hM0 T hT).2.2.2.2.2.2.1 f hf |>.2]; rfl
      · refine good (S 37 (98 + f)) ?_ (fun T hT => ?_)
        · rw [cls, if_neg (by decide), if_neg (by decide), if_pos (by rfl)]
          simp (disch := omega) only [bd_s, bv_s, bt_s, bt_x, vl_s, pf_s, ri_s, rz_0, rz_1, tri_s, trz_0, trz_1, trx_s, pz_0, pz_1, nI_add, pk_mul, up_at, la2, la5, la6, la8, la14, la62, la64, la98, la700, ra1, ra2, ra6, ra8, ra12, ra20, ra36, ra48, lm6, lm8, lm10, lm100, lm106, rm6, rm8, rm10, rm100, rm106, rd37]
        · rw [small T hT (by decide), if_neg (by decide), if_neg (by decide), rd162 (by omega), up_ne (by decide), ← mr_o (S := T) (t := f), hT.mr, ← hR.rag _ (rl_a (by omega) (by omega) (by omega))]; rfl
      · refine good (nI (hbits (fun s => decide (plN V (S 37) s = f)) (vS' V))) ?_ (fun T hT => ?_)
        · rw [cls, if_neg (by decide), if_neg (by decide), if_neg (by decide), if_pos (by rfl), C_who hR hf]; rfl
        · rw [big T hT (by decide)]; rfl
      · refine good (nI (hbits (thB V (fun t i => S (v + 3) (t * 6 + i)) f) (vF V))) ?_ (fun T hT => ?_)
        · rw [cls, if_neg (by decide), if_neg (by decide), if_neg (by decide), if_neg (by decide), if_pos (by rfl), gm_v hR.2.1 hv, C_thirds hR.C hf ef n6]; rfl
        · rw [big T hT (by decide), if_neg (by decide), if_pos rfl]
          congr 2
          refine congrArg nI (hbits_congr _ (fun t ht => ?_))
          obtain ⟨nt, nt6, et, ej⟩ := hR.X.2.1 t ht
          unfold thB
          by_cases c : vT V t = vT V f
          · rw [decide_eq_true c, Bool.true_and, Bool.true_and, ef, nI_clamp (by omega)]
            refine allB_congr _ (fun i hi => ?_)
            have : nt = nf := by rw [et, ef, nI_eq (by omega) (by omega)] at c; exact c
            show decide (S 148 (6 * t + i) = (S 148 (6 * f + i) + 8) - (S 148 (6 * f + i) + 8) / 10 * 10) = decide (S (v + 3) (t * 6 + i) = (S (v + 3) (f * 6 + i) + 8) - (S (v + 3) (f * 6 + i) + 8) / 10 * 10)
            rw [ej i (by omega), ei i hi]
          · rw [decide_eq_false c]; rfl
      · refine good (S (v + 4) f) ?_ (fun T hT => ?_)
        · rw [cls, if_neg (by decide), if_neg (by decide), if_neg (by decide), if_neg (by decide), if_neg (by decide), if_pos (by rfl), gm_v hR.2.1 hv]
          simp (disch := omega) only [srv3, srv4, srv5, srv6, srv7, srv8, srv9, srv10, srv11, srv12, srv13, rdv1, rdv2, rdv3, rdv4, rdv5, rdv6, rdv7, rdv8, rdv9, rdv10, rdv12, rdv14, bd_s, bv_s, bt_s, bt_x, vl_s, pf_s, ri_s, rz_0, rz_1, tri_s, trz_0, trz_1, trx_s, pz_0, pz_1, nI_add, pk_mul, up_at, la2, la5, la6, la8, la14, la62, la64, la98, la700, ra1, ra2, ra6, ra8, ra12, ra20, ra36, ra48, lm6, lm8, lm10, lm100, lm106, rm6, rm8, rm10, rm100, rm106]
        · rw [big T hT (by decide), if_neg (by decide), if_neg (by decide), eB]
    · refine fail1 ?_ (fun T hT => ?_)
      · unfold fX9_field
        rw [C_nF_t hR hf, bt_s]
        have ne : ∀ k, k ≤ 5 → ¬ a2 = nI k := fun k hk e => by
          rw [e] at h2
          rcases h2 with h2 | h2
          · exact nI_pos (n := k) (by omega) h2
          · rw [nI_ltI (by omega) (by omega)] at h2; omega
        rw [if_neg (show ¬ a2 = 0 from ne 0 (by decide)), if_neg (show ¬ a2 = 1 from ne 1 (by decide)), if_neg (show ¬ a2 = 2 from ne 2 (by decide)), if_neg (show ¬ a2 = 3 from ne 3 (by decide)), if_neg (show ¬ a2 = 4 from ne 4 (by decide)), if_neg (show ¬ a2 = 5 from ne 5 (by decide))]
        rfl
      · unfold fX10_field
        rw [pf_s, M_isF_t (hM0 T hT) hf, bd_s, if_neg (by decide), show (0 : Int64) = (nI 0).toInt64 from rfl, show (5 : Int64) = (nI 5).toInt64 from rfl, M_in_f (by decide) h2 (by decide), bd_s, if_pos rfl]
  · refine fail1 ?_ (fun T hT => ?_)
    · unfold fX9_field
      rw [C_nF_f hR h1, bt_x]
    · unfold fX10_field
      rw [pf_s, M_isF_f (hM0 T hT) h1, bd_s, if_pos rfl]
