theorem snZ_ok {V : Vy} {hm : Nat} {r : Rw} {z : Int32} (hr : ROk V hm r) (hV : VOk V) (hm9 : hm ≤ 20000) {s : Nat} (hs : s < vS' V) : ROk V hm (snZ V z r s) ∧ ∀ i, i = 0 ∨ 62 ≤ i → snZ V z r s i = r i := by
  unfold snZ
  split
  · exact ⟨hr, fun _ _ => rfl⟩
  · exact ⟨sn_ok hr hV hm9 hs, fun i hi => sn_off hr hV hm9 hs hi⟩
theorem snsZ_ok {V : Vy} {hm : Nat} {r : Rw} {z : Int32} (hr : ROk V hm r) (hV : VOk V) (hm9 : hm ≤ 20000) : ∀ s, s ≤ vS' V → ROk V hm (snsZ V z r s) ∧ ∀ i, i = 0 ∨ 62 ≤ i → snsZ V z r s i = r i := by
  intro s
  induction s with
  | zero => intro _; exact ⟨hr, fun _ _ => rfl⟩
  | succ s ih =>
    intro h
    obtain ⟨a, b⟩ := ih (by omega)
    obtain ⟨c, d⟩ := snZ_ok (z := z) a hV hm9 (s := s) (by omega)
    exact ⟨c, fun i hi => (d i hi).trans (b i hi)⟩
theorem hr1Z_ok {V : Vy} {hm : Nat} {r : Rw} {z : Int32} (hr : ROk V hm r) (hV : VOk V) (hm9 : hm ≤ 20000) : ROk V (hm + 1) (hr1Z V z r) := by
  have hS := hV.2.1
  obtain ⟨⟨h0, h1, h2, h3, h4, h5⟩, b⟩ := snsZ_ok (z := z) hr hV hm9 (vS' V) (Nat.le_refl _)
  refine ⟨?_, fun q hq => by unfold hr1Z; rw [upd_ne (by omega)]; exact h1 q hq, fun q hq => by unfold hr1Z; rw [upd_ne (by omega)]; exact h2 q hq, fun a b ha hb => by unfold hr1Z; rw [upd_ne (by omega)]; exact h3 a b ha hb, fun q i hq hi => by unfold hr1Z; rw [upd_ne (by omega)]; exact h4 q i hq hi, fun t ht => by unfold hr1Z; rw [upd_ne (by omega)]; exact h5 t ht⟩
  obtain ⟨h, hh, e⟩ := h0
  exact ⟨h + 1, by omega, by unfold hr1Z; rw [upd_at, e]; exact nI_1 h⟩
theorem hrsZ_ok {V : Vy} {hm : Nat} {r : Rw} {z : Int32} (hr : ROk V hm r) (hV : VOk V) : ∀ n, hm + n ≤ 20000 → ROk V (hm + n) (hrsZ V z r n) := by
  intro n
  induction n with
  | zero => intro _; exact hr
  | succ n ih => intro h; exact hr1Z_ok (hm := hm + n) (ih (by omega)) hV (by omega)
theorem M_anHour {V : Vy} {hm : Nat} {S : St} (hM : VM V S) (hr : ROk V hm (mr S)) (hm9 : hm ≤ 20000) {z : Int32} (hz : S 142 41 = z) : ok (fX10_anHour S) (fun S' => mr S' = hr1Z V z (mr S) ∧ (∀ s, s < vS' V → S' 167 s = tuZ V z (snsZ V z (mr S) s) s) ∧ (∀ s, s < vS' V → S' 168 s = trO V (snsZ V z (mr S) s) s (tuZ V z (snsZ V z (mr S) s) s)) ∧ mFr S S') := by
  have hV := hM.1
  have hS6 := hV.2.1
  have h2 := hM.2.2.1
  unfold fX10_anHour
  refine ok_for (fun n i T => LX10_anHour_2 n (nI i) T) _ (fun i T => mr T = snsZ V z (mr S) i ∧ (∀ s, s < i → T 167 s = tuZ V z (snsZ V z (mr S) s) s) ∧ (∀ s, s < i → T 168 s = trO V (snsZ V z (mr S) s) s (tuZ V z (snsZ V z (mr S) s) s)) ∧ mFr S T) (vS' V) ?_ ?_ FU 0 S (by omega) (by unfold FU; omega) ⟨rfl, fun s h => absurd h (by omega), fun s h => absurd h (by omega), mFr.rf⟩
  · intro n T hI
    obtain ⟨i1, i2, i3, i4⟩ := hI
    have e2 : T 145 2 = nI (vS' V) := by rw [i4.1 145 (by omega)]; exact h2
    simp (disch := omega) only [LX10_anHour_2, KX10_anHour_2, rd145, rd146, rd147, rd148, rd149, rd150, rd151, rd152, rd153, rd154, rd155, rd156, rd157, rd158, rd159, rd160, rd161, rd162, rd163, rd164, rd165, rd166, rd167, rd168, rd169, rd170, rd171, rd172, rd173, rd174, rd175, rd176, rd177, rd178, rd179, rd180, rd181, rd182, rd183, rd184, rd185, rd145_0, rd145_2, rd145_3, rd145_4, rd145_5, rd145_6, rd145_7, rd156_0, rd156_1, rd166_0, rd178_0, e2, nI_leE, nI_ltE, nI_eqE, nI_m1, c0a, c0b, c0c, c0d, c0e, c1a, c1b, c1c, c1d, c1e, c2a, c2b, c2c, c2d, c2e, c3a, c3b, c3c, c3d, c3e, c4a, c4b, c4c, c4d, c4e, c5a, c5b, c5c, c5d, c5e, c6a, c6b, c6c, c6d, c6e, c7a, c7b, c7c, c7d, c7e, c8a, c8b, c8c, c8d, c8e, c9a, c9b, c9c, c9d, c9e, c10a, c10b, c10c, c10d, c10e, c12a, c12b, c12c, c12d, c12e, c14a, c14b, c14c, c14d, c14e, c16a, c16b, c16c, c16d, c16e, c20a, c20b, c20c, c20d, c20e, c30a, c30b, c30c, c30d, c30e, c32a, c32b, c32c, c32d, c32e, c36a, c36b, c36c, c36d, c36e, c40a, c40b, c40c, c40d, c40e, c41a, c41b, c41c, c41d, c41e, c42a, c42b, c42c, c42d, c42e, c43a, c43b, c43c, c43d, c43e, c45a, c45b, c45c, c45d, c45e, c47a, c47b, c47c, c47d, c47e, c48a, c48b, c48c, c48d, c48e, c57a, c57b, c57c, c57d, c57e, c59a, c59b, c59c, c59d, c59e, c60a, c60b, c60c, c60d, c60e, c61a, c61b, c61c, c61d, c61e, c62a, c62b, c62c, c62d, c62e, c64a, c64b, c64c, c64d, c64e, c96a, c96b, c96c, c96d, c96e, c97a, c97b, c97c, c97d, c97e, c98a, c98b, c98c, c98d, c98e, c99a, c99b, c99c, c99d, c99e, c100a, c100b, c100c, c100d, c100e, c122a, c122b, c122c, c122d, c122e, c700a, c700b, c700c, c700d, c700e, c4240a, c4240b, c4240c, c4240d, c4240e, c9999a, c9999b, c9999c, c9999d, c9999e, c100000a, c100000b, c100000c, c100000d, c100000e, c1000000a, c1000000b, c1000000c, c1000000d, c1000000e, if_T, bd_s, bv_s, bt_s, bt_x, vl_s, pf_s, ri_s, rz_0, rz_1, tri_s, trz_0, trz_1, trx_s, pz_0, pz_1, nI_add, pk_mul, up_at, la2, la5, la6, la8, la14, la62, la64, la98, la700, ra1, ra2, ra6, ra8, ra12, ra20, ra36, ra48, lm6, lm8, lm10, lm100, lm106, rm6, rm8, rm10, rm100, rm106]
    refine ok_some ⟨?_, fun s hs => by rw [up_ne (by decide)]; exact i2 s hs, fun s hs => by rw [up_ne (by decide)]; exact i3 s hs, i4.up (Or.inr ⟨rfl, Or.inl rfl⟩)⟩
    rw [mr_up0, show T 142 34 = mr T 0 from rfl, i1]
    rfl
  · intro n i T hi hI ih
    obtain ⟨i1, i2, i3, i4⟩ := hI
    have e2 : T 145 2 = nI (vS' V) := by rw [i4.1 145 (by omega)]; exact h2
    obtain ⟨ro, -⟩ := snsZ_ok (z := z) hr hV hm9 i (by omega)
    obtain ⟨U, eU, u1, u2, u3, u4⟩ := M_sing (hM.fr i4) (by rw [i1]; exact ro) hm9 hi (z := z) (by rw [i4.2 41 (by decide) (by decide)]; exact hz)
    simp (disch := omega) only [LX10_anHour_2, KX10_anHour_2, rd145, rd146, rd147, rd148, rd149, rd150, rd151, rd152, rd153, rd154, rd155, rd156, rd157, rd158, rd159, rd160, rd161, rd162, rd163, rd164, rd165, rd166, rd167, rd168, rd169, rd170, rd171, rd172, rd173, rd174, rd175, rd176, rd177, rd178, rd179, rd180, rd181, rd182, rd183, rd184, rd185, rd145_0, rd145_2, rd145_3, rd145_4, rd145_5, rd145_6, rd145_7, rd156_0, rd156_1, rd166_0, rd178_0, e2, nI_leE, nI_ltE, nI_eqE, nI_m1, c0a, c0b, c0c, c0d, c0e, c1a, c1b, c1c, c1d, c1e, c2a, c2b, c2c, c2d, c2e, c3a, c3b, c3c, c3d, c3e, c4a, c4b, c4c, c4d, c4e, c5a, c5b, c5c, c5d, c5e, c6a, c6b, c6c, c6d, c6e, c7a, c7b, c7c, c7d, c7e, c8a, c8b, c8c, c8d, c8e, c9a, c9b, c9c, c9d, c9e, c10a, c10b, c10c, c10d, c10e, c12a, c12b, c12c, c12d, c12e, c14a, c14b, c14c, c14d, c14e, c16a, c16b, c16c, c16d, c16e, c20a, c20b, c20c, c20d, c20e, c30a, c30b, c30c, c30d, c30e, c32a, c32b, c32c, c32d, c32e, c36a, c36b, c36c, c36d, c36e, c40a, c40b, c40c, c40d, c40e, c41a, c41b, c41c, c41d, c41e, c42a, c42b, c42c, c42d, c42e, c43a, c43b, c43c, c43d, c43e, c45a, c45b, c45c, c45d, c45e, c47a, c47b, c47c, c47d, c47e, c48a, c48b, c48c, c48d, c48e, c57a, c57b, c57c, c57d, c57e, c59a, c59b, c59c, c59d, c59e, c60a, c60b, c60c, c60d, c60e, c61a, c61b, c61c, c61d, c61e, c62a, c62b, c62c, c62d, c62e, c64a, c64b, c64c, c64d, c64e, c96a, c96b, c96c, c96d, c96e, c97a, c97b, c97c, c97d, c97e, c98a, c98b, c98c, c98d, c98e, c99a, c99b, c99c, c99d, c99e, c100a, c100b, c100c, c100d, c100e, c122a, c122b, c122c, c122d, c122e, c700a, c700b, c700c, c700d, c700e, c4240a, c4240b, c4240c, c4240d, c4240e, c9999a, c9999b, c9999c, c9999d, c9999e, c100000a, c100000b, c100000c, c100000d, c100000e, c1000000a, c1000000b, c1000000c, c1000000d, c1000000e, if_F, eU, bd_s, bv_s, bt_s, bt_x, vl_s, pf_s, ri_s, rz_0, rz_1, tri_s, trz_0, trz_1, trx_s, pz_0, pz_1, nI_add, pk_mul, up_at, la2, la5, la6, la8, la14, la62, la64, la98, la700, ra1, ra2, ra6, ra8, ra12, ra20, ra36, ra48, lm6, lm8, lm10, lm100, lm106, rm6, rm8, rm10, rm100, rm106]
    refine ih _ ⟨by rw [u1, i1]; rfl, fun s hs => ?_, fun s hs => ?_, i4.tr u4⟩
    · rw [u2, i1]
      unfold upd
      split
      · rename_i q; rw [q]
      · exact i2 s (by omega)
    · rw [u3, i1]
      unfold upd
      split
      · rename_i q; rw [q]
      · exact i3 s (by omega)
theorem trO_m {V : Vy} {r : Rw} {s : Nat} (h : s < 6) : trO V (snsZ V (-1) r s) s (tuZ V (-1) (snsZ V (-1) r s) s) = trI V r s := by
  unfold trO trI tuZ sgI
  rw [snsZ_m _ (by omega), if_neg (nI_ne_m1 (by omega))]
/-- the hour with no one silent -/
theorem M_hour {V : Vy} {hm : Nat} {S : St} (hM : VM V S) (hr : ROk V hm (mr S)) (hm9 : hm ≤ 20000) (hz : S 142 41 = -1) : ok (fX10_anHour S) (fun S' => mr S' = hr1 V (mr S) ∧ (∀ s, s < vS' V → S' 167 s = sgI V (mr S) s) ∧ (∀ s, s < vS' V → S' 168 s = trI V (mr S) s) ∧ mFr S S') := by
  have hS6 := hM.1.2.1
  refine ok_mono (M_anHour hM hr hm9 hz) (fun T h => ?_)
  obtain ⟨h1, h2, h3, h4⟩ := h
  refine ⟨by rw [h1, hr1Z_m hS6], fun s hs => ?_, fun s hs => by rw [h3 s hs, trO_m (by omega)], h4⟩
  rw [h2 s hs]
  unfold tuZ sgI
  rw [snsZ_m _ (by omega), if_neg (nI_ne_m1 (by omega))]
theorem M_goZ {V : Vy} {hm n : Nat} {S : St} (hM : VM V S) (hr : ROk V hm (mr S)) (hn : n ≤ 60) (hm9 : hm + n ≤ 20000) {z : Int32} (hz : S 142 41 = z) : ok (fX10_goOn (nI n) S) (fun S' => mr S' = hrsZ V z (mr S) n ∧ mFr S S') := by
  have hV := hM.1
  unfold fX10_goOn
  refine ok_for (fun k i T => LX10_goOn_2 k (nI n) (nI i) T) _ (fun i T => mr T = hrsZ V z (mr S) i ∧ mFr S T) n ?_ ?_ FU 0 S (by omega) (by unfold FU; omega) ⟨rfl, mFr.rf⟩
  · intro k T hI
    simp (disch := omega) only [LX10_goOn_2, KX10_goOn_2, nI_leE, nI_ltE, nI_eqE, nI_m1, c0a, c0b, c0c, c0d, c0e, c1a, c1b, c1c, c1d, c1e, c2a, c2b, c2c, c2d, c2e, c3a, c3b, c3c, c3d, c3e, c4a, c4b, c4c, c4d, c4e, c5a, c5b, c5c, c5d, c5e, c6a, c6b, c6c, c6d, c6e, c7a, c7b, c7c, c7d, c7e, c8a, c8b, c8c, c8d, c8e, c9a, c9b, c9c, c9d, c9e, c10a, c10b, c10c, c10d, c10e, c12a, c12b, c12c, c12d, c12e, c14a, c14b, c14c, c14d, c14e, c16a, c16b, c16c, c16d, c16e, c20a, c20b, c20c, c20d, c20e, c30a, c30b, c30c, c30d, c30e, c32a, c32b, c32c, c32d, c32e, c36a, c36b, c36c, c36d, c36e, c40a, c40b, c40c, c40d, c40e, c41a, c41b, c41c, c41d, c41e, c42a, c42b, c42c, c42d, c42e, c43a, c43b, c43c, c43d, c43e, c45a, c45b, c45c, c45d, c45e, c47a, c47b, c47c, c47d, c47e, c48a, c48b, c48c, c48d, c48e, c57a, c57b, c57c, c57d, c57e, c59a, c59b, c59c, c59d, c59e, c60a, c60b, c60c, c60d, c60e, c61a, c61b, c61c, c61d, c61e, c62a, c62b, c62c, c62d, c62e, c64a, c64b, c64c, c64d, c64e, c96a, c96b, c96c, c96d, c96e, c97a, c97b, c97c, c97d, c97e, c98a, c98b, c98c, c98d, c98e, c99a, c99b, c99c, c99d, c99e, c100a, c100b, c100c, c100d, c100e, c122a, c122b, c122c, c122d, c122e, c700a, c700b, c700c, c700d, c700e, c4240a, c4240b, c4240c, c4240d, c4240e, c9999a, c9999b, c9999c, c9999d, c9999e, c100000a, c100000b, c100000c, c100000d, c100000e, c1000000a, c1000000b, c1000000c, c1000000d, c1000000e, if_T]
    exact ok_some hI
  · intro k i T hi hI ih
    obtain ⟨i1, i4⟩ := hI
    obtain ⟨U, eU, u1, -, -, u4⟩ := M_anHour (hM.fr i4) (by rw [i1]; exact hrsZ_ok (z := z) hr hV i (by omega)) (by omega) (z := z) (by rw [i4.2 41 (by decide) (by decide)]; exact hz)
    simp (disch := omega) only [LX10_goOn_2, KX10_goOn_2, nI_leE, nI_ltE, nI_eqE, nI_m1, c0a, c0b, c0c, c0d, c0e, c1a, c1b, c1c, c1d, c1e, c2a, c2b, c2c, c2d, c2e, c3a, c3b, c3c, c3d, c3e, c4a, c4b, c4c, c4d, c4e, c5a, c5b, c5c, c5d, c5e, c6a, c6b, c6c, c6d, c6e, c7a, c7b, c7c, c7d, c7e, c8a, c8b, c8c, c8d, c8e, c9a, c9b, c9c, c9d, c9e, c10a, c10b, c10c, c10d, c10e, c12a, c12b, c12c, c12d, c12e, c14a, c14b, c14c, c14d, c14e, c16a, c16b, c16c, c16d, c16e, c20a, c20b, c20c, c20d, c20e, c30a, c30b, c30c, c30d, c30e, c32a, c32b, c32c, c32d, c32e, c36a, c36b, c36c, c36d, c36e, c40a, c40b, c40c, c40d, c40e, c41a, c41b, c41c, c41d, c41e, c42a, c42b, c42c, c42d, c42e, c43a, c43b, c43c, c43d, c43e, c45a, c45b, c45c, c45d, c45e, c47a, c47b, c47c, c47d, c47e, c48a, c48b, c48c, c48d, c48e, c57a, c57b, c57c, c57d, c57e, c59a, c59b, c59c, c59d, c59e, c60a, c60b, c60c, c60d, c60e, c61a, c61b, c61c, c61d, c61e, c62a, c62b, c62c, c62d, c62e, c64a, c64b, c64c, c64d, c64e, c96a, c96b, c96c, c96d, c96e, c97a, c97b, c97c, c97d, c97e, c98a, c98b, c98c, c98d, c98e, c99a, c99b, c99c, c99d, c99e, c100a, c100b, c100c, c100d, c100e, c122a, c122b, c122c, c122d, c122e, c700a, c700b, c700c, c700d, c700e, c4240a, c4240b, c4240c, c4240d, c4240e, c9999a, c9999b, c9999c, c9999d, c9999e, c100000a, c100000b, c100000c, c100000d, c100000e, c1000000a, c1000000b, c1000000c, c1000000d, c1000000e, if_F, eU, bd_s, bv_s, bt_s, bt_x, vl_s, pf_s, ri_s, rz_0, rz_1, tri_s, trz_0, trz_1, trx_s, pz_0, pz_1, nI_add, pk_mul, up_at, la2, la5, la6, la8, la14, la62, la64, la98, la700, ra1, ra2, ra6, ra8, ra12, ra20, ra36, ra48, lm6, lm8, lm10, lm100, lm106, rm6, rm8, rm10, rm100, rm106]
    exact ih _ ⟨by rw [u1, i1]; rfl, i4.tr u4⟩
theorem M_goOn {V : Vy} {hm n : Nat} {S : St} (hM : VM V S) (hr : ROk V hm (mr S)) (hn : n ≤ 60) (hm9 : hm + n ≤ 20000) (hz : S 142 41 = -1) : ok (fX10_goOn (nI n) S) (fun S' => mr S' = hrs V (mr S) n ∧ (∀ m, n = m + 1 → ∀ s, s < vS' V → S' 167 s = sgI V (hrs V (mr S) m) s) ∧ mFr S S') := by
  have hV := hM.1
  unfold fX10_goOn
  refine ok_for (fun k i T => LX10_goOn_2 k (nI n) (nI i) T) _ (fun i T => mr T = hrs V (mr S) i ∧ (∀ m, i = m + 1 → ∀ s, s < vS' V → T 167 s = sgI V (hrs V (mr S) m) s) ∧ mFr S T) n ?_ ?_ FU 0 S (by omega) (by unfold FU; omega) ⟨rfl, fun m h => absurd h (by omega), mFr.rf⟩
  · intro k T hI
    simp (disch := omega) only [LX10_goOn_2, KX10_goOn_2, nI_leE, nI_ltE, nI_eqE, nI_m1, c0a, c0b, c0c, c0d, c0e, c1a, c1b, c1c, c1d, c1e, c2a, c2b, c2c, c2d, c2e, c3a, c3b, c3c, c3d, c3e, c4a, c4b, c4c, c4d, c4e, c5a, c5b, c5c, c5d, c5e, c6a, c6b, c6c, c6d, c6e, c7a, c7b, c7c, c7d, c7e, c8a, c8b, c8c, c8d, c8e, c9a, c9b, c9c, c9d, c9e, c10a, c10b, c10c, c10d, c10e, c12a, c12b, c12c, c12d, c12e, c14a, c14b, c14c, c14d, c14e, c16a, c16b, c16c, c16d, c16e, c20a, c20b, c20c, c20d, c20e, c30a, c30b, c30c, c30d, c30e, c32a, c32b, c32c, c32d, c32e, c36a, c36b, c36c, c36d, c36e, c40a, c40b, c40c, c40d, c40e, c41a, c41b, c41c, c41d, c41e, c42a, c42b, c42c, c42d, c42e, c43a, c43b, c43c, c43d, c43e, c45a, c45b, c45c, c45d, c45e, c47a, c47b, c47c, c47d, c47e, c48a, c48b, c48c, c48d, c48e, c57a, c57b, c57c, c57d, c57e, c59a, c59b, c59c, c59d, c59e, c60a, c60b, c60c, c60d, c60e, c61a, c61b, c61c, c61d, c61e, c62a, c62b, c62c, c62d, c62e, c64a, c64b, c64c, c64d, c64e, c96a, c96b, c96c, c96d, c96e, c97a, c97b, c97c, c97d, c97e, c98a, c98b, c98c, c98d, c98e, c99a, c99b, c99c, c99d, c99e, c100a, c100b, c100c, c100d, c100e, c122a, c122b, c122c, c122d, c122e, c700a, c700b, c700c, c700d, c700e, c4240a, c4240b, c4240c, c4240d, c4240e, c9999a, c9999b, c9999c, c9999d, c9999e, c100000a, c100000b, c100000c, c100000d, c100000e, c1000000a, c1000000b, c1000000c, c1000000d, c1000000e, if_T]
    exact ok_some hI
  · intro k i T hi hI ih
    obtain ⟨i1, i2, i4⟩ := hI
    obtain ⟨U, eU, u1, u2, -, u4⟩ := M_hour (hM.fr i4) (by rw [i1]; exact (hrs_ok hr hV i (by omega)).1) (by omega) (by rw [i4.2 41 (by decide) (by decide)]; exact hz)
    simp (disch := omega) only [LX10_goOn_2, KX10_goOn_2, nI_leE, nI_ltE, nI_eqE, nI_m1, c0a, c0b, c0c, c0d, c0e, c1a, c1b, c1c, c1d, c1e, c2a, c2b, c2c, c2d, c2e, c3a, c3b, c3c, c3d, c3e, c4a, c4b, c4c, c4d, c4e, c5a, c5b, c5c, c5d, c5e, c6a, c6b, c6c, c6d, c6e, c7a, c7b, c7c, c7d, c7e, c8a, c8b, c8c, c8d, c8e, c9a, c9b, c9c, c9d, c9e, c10a, c10b, c10c, c10d, c10e, c12a, c12b, c12c, c12d, c12e, c14a, c14b, c14c, c14d, c14e, c16a, c16b, c16c, c16d, c16e, c20a, c20b, c20c, c20d, c20e, c30a, c30b, c30c, c30d, c30e, c32a, c32b, c32c, c32d, c32e, c36a, c36b, c36c, c36d, c36e, c40a, c40b, c40c, c40d, c40e, c41a, c41b, c41c, c41d, c41e, c42a, c42b, c42c, c42d, c42e, c43a, c43b, c43c, c43d, c43e, c45a, c45b, c45c, c45d, c45e, c47a, c47b, c47c, c47d, c47e, c48a, c48b, c48c, c48d, c48e, c57a, c57b, c57c, c57d, c57e, c59a, c59b, c59c, c59d, c59e, c60a, c60b, c60c, c60d, c60e, c61a, c61b, c61c, c61d, c61e, c62a, c62b, c62c, c62d, c62e, c64a, c64b, c64c, c64d, c64e, c96a, c96b, c96c, c96d, c96e, c97a, c97b, c97c, c97d, c97e, c98a, c98b, c98c, c98d, c98e, c99a, c99b, c99c, c99d, c99e, c100a, c100b, c100c, c100d, c100e, c122a, c122b, c122c, c122d, c122e, c700a, c700b, c700c, c700d, c700e, c4240a, c4240b, c4240c, c4240d, c4240e, c9999a, c9999b, c9999c, c9999d, c9999e, c100000a, c100000b, c100000c, c100000d, c100000e, c1000000a, c1000000b, c1000000c, c1000000d, c1000000e, if_F, eU, bd_s, bv_s, bt_s, bt_x, vl_s, pf_s, ri_s, rz_0, rz_1, tri_s, trz_0, trz_1, trx_s, pz_0, pz_1, nI_add, pk_mul, up_at, la2, la5, la6, la8, la14, la62, la64, la98, la700, ra1, ra2, ra6, ra8, ra12, ra20, ra36, ra48, lm6, lm8, lm10, lm100, lm106, rm6, rm8, rm10, rm100, rm106]
    refine ih _ ⟨by rw [u1, i1]; rfl, fun m hm s hs => ?_, i4.tr u4⟩
    have : m = i := by omega
    subst this
    rw [u2 s hs, i1]
/-! rows kept and put back -/
theorem cpy_up {S : St} {a0 sp a dp n : Nat} (h : a0 ≠ a) : up (cpy S a0 sp a dp n) a (dp + n) (S a0 (sp + n)) = cpy S a0 sp a dp (n + 1) := by
  funext b j
  by_cases hb : b = a
  · subst hb
    rw [up_row, cpy_row, cpy_row]
    unfold upd va_cpy
    by_cases q : j = dp + n
    · subst q
      rw [if_pos rfl, if_pos (by omega), Nat.add_sub_cancel_left]
    · rw [if_neg q]
      by_cases c : dp ≤ j ∧ j < dp + n
      · rw [if_pos c, if_pos (by omega)]
      · rw [if_neg c, if_neg (by omega)]
  · rw [up_ne hb, cpy_ne hb, cpy_ne hb]
theorem cpy_0 {S : St} {a0 sp a dp : Nat} : cpy S a0 sp a dp 0 = S := by
  funext b j
  by_cases hb : b = a
  · subst hb; rw [cpy_row]; unfold va_cpy; rw [if_neg (by omega)]
  · rw [cpy_ne hb]
theorem M_pack151 {S : St} {a k : Nat} (ha : a ≠ 162) (hk : k + 8 ≤ ln a) : LX10_pack_151 FU a (nI k) 0 S = some (cpy S 162 0 a k 8) := by
  have hl := ln_lt a
  have : ok (LX10_pack_151 FU a (nI k) (nI 0) S) (fun T => T = cpy S 162 0 a k 8) := by
    refine ok_for (fun n i T => LX10_pack_151 n a (nI k) (nI i) T) _ (fun i T => T = cpy S 162 0 a k i) 8 ?_ ?_ FU 0 S (by omega) (by decide) cpy_0.symm
    · intro n T hI
      simp (disch := omega) only [LX10_pack_151, KX10_pack_151, nI_leE, nI_ltE, nI_eqE, nI_m1, c0a, c0b, c0c, c0d, c0e, c1a, c1b, c1c, c1d, c1e, c2a, c2b, c2c, c2d, c2e, c3a, c3b, c3c, c3d, c3e, c4a, c4b, c4c, c4d, c4e, c5a, c5b, c5c, c5d, c5e, c6a, c6b, c6c, c6d, c6e, c7a, c7b, c7c, c7d, c7e, c8a, c8b, c8c, c8d, c8e, c9a, c9b, c9c, c9d, c9e, c10a, c10b, c10c, c10d, c10e, c12a, c12b, c12c, c12d, c12e, c14a, c14b, c14c, c14d, c14e, c16a, c16b, c16c, c16d, c16e, c20a, c20b, c20c, c20d, c20e, c30a, c30b, c30c, c30d, c30e, c32a, c32b, c32c, c32d, c32e, c36a, c36b, c36c, c36d, c36e, c40a, c40b, c40c, c40d, c40e, c41a, c41b, c41c, c41d, c41e, c42a, c42b, c42c, c42d, c42e, c43a, c43b, c43c, c43d, c43e, c45a, c45b, c45c, c45d, c45e, c47a, c47b, c47c, c47d, c47e, c48a, c48b, c48c, c48d, c48e, c57a, c57b, c57c, c57d, c57e, c59a, c59b, c59c, c59d, c59e, c60a, c60b, c60c, c60d, c60e, c61a, c61b, c61c, c61d, c61e, c62a, c62b, c62c, c62d, c62e, c64a, c64b, c64c, c64d, c64e, c96a, c96b, c96c, c96d, c96e, c97a, c97b, c97c, c97d, c97e, c98a, c98b, c98c, c98d, c98e, c99a, c99b, c99c, c99d, c99e, c100a, c100b, c100c, c100d, c100e, c122a, c122b, c122c, c122d, c122e, c700a, c700b, c700c, c700d, c700e, c4240a, c4240b, c4240c, c4240d, c4240e, c9999a, c9999b, c9999c, c9999d, c9999e, c100000a, c100000b, c100000c, c100000d, c100000e, c1000000a, c1000000b, c1000000c, c1000000d, c1000000e, if_T]
      exact ok_some hI
    · intro n i T hi hI ih
      subst hI
      simp (disch := omega) only [LX10_pack_151, KX10_pack_151, nI_leE, nI_ltE, nI_eqE, nI_m1, c0a, c0b, c0c, c0d, c0e, c1a, c1b, c1c, c1d, c1e, c2a, c2b, c2c, c2d, c2e, c3a, c3b, c3c, c3d, c3e, c4a, c4b, c4c, c4d, c4e, c5a, c5b, c5c, c5d, c5e, c6a, c6b, c6c, c6d, c6e, c7a, c7b, c7c, c7d, c7e, c8a, c8b, c8c, c8d, c8e, c9a, c9b, c9c, c9d, c9e, c10a, c10b, c10c, c10d, c10e, c12a, c12b, c12c, c12d, c12e, c14a, c14b, c14c, c14d, c14e, c16a, c16b, c16c, c16d, c16e, c20a, c20b, c20c, c20d, c20e, c30a, c30b, c30c, c30d, c30e, c32a, c32b, c32c, c32d, c32e, c36a, c36b, c36c, c36d, c36e, c40a, c40b, c40c, c40d, c40e, c41a, c41b, c41c, c41d, c41e, c42a, c42b, c42c, c42d, c42e, c43a, c43b, c43c, c43d, c43e, c45a, c45b, c45c, c45d, c45e, c47a, c47b, c47c, c47d, c47e, c48a, c48b, c48c, c48d, c48e, c57a, c57b, c57c, c57d, c57e, c59a, c59b, c59c, c59d, c59e, c60a, c60b, c60c, c60d, c60e, c61a, c61b, c61c, c61d, c61e, c62a, c62b, c62c, c62d, c62e, c64a, c64b, c64c, c64d, c64e, c96a, c96b, c96c, c96d, c96e, c97a, c97b, c97c, c97d, c97e, c98a, c98b, c98c, c98d, c98e, c99a, c99b, c99c, c99d, c99e, c100a, c100b, c100c, c100d, c100e, c122a, c122b, c122c, c122d, c122e, c700a, c700b, c700c, c700d, c700e, c4240a, c4240b, c4240c, c4240d, c4240e, c9999a, c9999b, c9999c, c9999d, c9999e, c100000a, c100000b, c100000c, c100000d, c100000e, c1000000a, c1000000b, c1000000c, c1000000d, c1000000e, if_F, rd145, rd146, rd147, rd148, rd149, rd150, rd151, rd152, rd153, rd154, rd155, rd156, rd157, rd158, rd159, rd160, rd161, rd162, rd163, rd164, rd165, rd166, rd167, rd168, rd169, rd170, rd171, rd172, rd173, rd174, rd175, rd176, rd177, rd178, rd179, rd180, rd181, rd182, rd183, rd184, rd185, rd145_0, rd145_2, rd145_3, rd145_4, rd145_5, rd145_6, rd145_7, rd156_0, rd156_1, rd166_0, rd178_0, cpy_ne (Ne.symm ha), bd_s, bv_s, bt_s, bt_x, vl_s, pf_s, ri_s, rz_0, rz_1, tri_s, trz_0, trz_1, trx_s, pz_0, pz_1, nI_add, pk_mul, up_at, la2, la5, la6, la8, la14, la62, la64, la98, la700, ra1, ra2, ra6, ra8, ra12, ra20, ra36, ra48, lm6, lm8, lm10, lm100, lm106, rm6, rm8, rm10, rm100, rm106, wr_g]
      apply ih
      have := cpy_up (S := S) (sp := 0) (dp := k) (n := i) (Ne.symm ha)
      rw [Nat.zero_add] at this
      exact this
  obtain ⟨b, e, q⟩ := this
  rw [← q]; exact e
theorem M_pack111 {S : St} {a k : Nat} (ha : a ≠ 161) (ha2 : a ≠ 162) (hk : k + 44 ≤ ln a) : LX10_pack_111 FU a (nI k) 0 S = some (cpy (cpy S 161 0 a k 36) 162 0 a (k + 36) 8) := by
  have hl := ln_lt a
  have : ok (LX10_pack_111 FU a (nI k) (nI 0) S) (fun T => T = cpy (cpy S 161 0 a k 36) 162 0 a (k + 36) 8) := by
    refine ok_for (fun n i T => LX10_pack_111 n a (nI k) (nI i) T) _ (fun i T => T = cpy S 161 0 a k i) 36 ?_ ?_ FU 0 S (by omega) (by decide) cpy_0.symm
    · intro n T hI
      subst hI
      simp (disch := omega) only [LX10_pack_111, KX10_pack_111, nI_leE, nI_ltE, nI_eqE, nI_m1, c0a, c0b, c0c, c0d, c0e, c1a, c1b, c1c, c1d, c1e, c2a, c2b, c2c, c2d, c2e, c3a, c3b, c3c, c3d, c3e, c4a, c4b, c4c, c4d, c4e, c5a, c5b, c5c, c5d, c5e, c6a, c6b, c6c, c6d, c6e, c7a, c7b, c7c, c7d, c7e, c8a, c8b, c8c, c8d, c8e, c9a, c9b, c9c, c9d, c9e, c10a, c10b, c10c, c10d, c10e, c12a, c12b, c12c, c12d, c12e, c14a, c14b, c14c, c14d, c14e, c16a, c16b, c16c, c16d, c16e, c20a, c20b, c20c, c20d, c20e, c30a, c30b, c30c, c30d, c30e, c32a, c32b, c32c, c32d, c32e, c36a, c36b, c36c, c36d, c36e, c40a, c40b, c40c, c40d, c40e, c41a, c41b, c41c, c41d, c41e, c42a, c42b, c42c, c42d, c42e, c43a, c43b, c43c, c43d, c43e, c45a, c45b, c45c, c45d, c45e, c47a, c47b, c47c, c47d, c47e, c48a, c48b, c48c, c48d, c48e, c57a, c57b, c57c, c57d, c57e, c59a, c59b, c59c, c59d, c59e, c60a, c60b, c60c, c60d, c60e, c61a, c61b, c61c, c61d, c61e, c62a, c62b, c62c, c62d, c62e, c64a, c64b, c64c, c64d, c64e, c96a, c96b, c96c, c96d, c96e, c97a, c97b, c97c, c97d, c97e, c98a, c98b, c98c, c98d, c98e, c99a, c99b, c99c, c99d, c99e, c100a, c100b, c100c, c100d, c100e, c122a, c122b, c122c, c122d, c122e, c700a, c700b, c700c, c700d, c700e, c4240a, c4240b, c4240c, c4240d, c4240e, c9999a, c9999b, c9999c, c9999d, c9999e, c100000a, c100000b, c100000c, c100000d, c100000e, c1000000a, c1000000b, c1000000c, c1000000d, c1000000e, if_T, bd_s, bv_s, bt_s, bt_x, vl_s, pf_s, ri_s, rz_0, rz_1, tri_s, trz_0, trz_1, trx_s, pz_0, pz_1, nI_add, pk_mul, up_at, la2, la5, la6, la8, la14, la62, la64, la98, la700, ra1, ra2, ra6, ra8, ra12, ra20, ra36, ra48, lm6, lm8, lm10, lm100, lm106, rm6, rm8, rm10, rm100, rm106, M_pack151 ha2]
      exact ok_some rfl
    · intro n i T hi hI ih
      subst hI
      simp (disch := omega) only [LX10_pack_111, KX10_pack_111, nI_leE, nI_ltE, nI_eqE, nI_m1, c0a, c0b, c0c, c0d, c0e, c1a, c1b, c1c, c1d, c1e, c2a, c2b, c2c, c2d, c2e, c3a, c3b, c3c, c3d, c3e, c4a, c4b, c4c, c4d, c4e, c5a, c5b, c5c, c5d, c5e, c6a, c6b, c6c, c6d, c6e, c7a, c7b, c7c, c7d, c7e, c8a, c8b, c8c, c8d, c8e, c9a, c9b, c9c, c9d, c9e, c10a, c10b, c10c, c10d, c10e, c12a, c12b, c12c, c12d, c12e, c14a, c14b, c14c, c14d, c14e, c16a, c16b, c16c, c16d, c16e, c20a, c20b, c20c, c20d, c20e, c30a, c30b, c30c, c30d, c30e, c32a, c32b, c32c, c32d, c32e, c36a, c36b, c36c, c36d, c36e, c40a, c40b, c40c, c40d, c40e, c41a, c41b, c41c, c41d, c41e, c42a, c42b, c42c, c42d, c42e, c43a, c43b, c43c, c43d, c43e, c45a, c45b, c45c, c45d, c45e, c47a, c47b, c47c, c47d, c47e, c48a, c48b, c48c, c48d, c48e, c57a, c57b, c57c, c57d, c57e, c59a, c59b, c59c, c59d, c59e, c60a, c60b, c60c, c60d, c60e, c61a, c61b, c61c, c61d, c61e, c62a, c62b, c62c, c62d, c62e, c64a, c64b, c64c, c64d, c64e, c96a, c96b, c96c, c96d, c96e, c97a, c97b, c97c, c97d, c97e, c98a, c98b, c98c, c98d, c98e, c99a, c99b, c99c, c99d, c99e, c100a, c100b, c100c, c100d, c100e, c122a, c122b, c122c, c122d, c122e, c700a, c700b, c700c, c700d, c700e, c4240a, c4240b, c4240c, c4240d, c4240e, c9999a, c9999b, c9999c, c9999d, c9999e, c100000a, c100000b, c100000c, c100000d, c100000e, c1000000a, c1000000b, c1000000c, c1000000d, c1000000e, if_F, rd145, rd146, rd147, rd148, rd149, rd150, rd151, rd152, rd153, rd154, rd155, rd156, rd157, rd158, rd159, rd160, rd161, rd162, rd163, rd164, rd165, rd166, rd167, rd168, rd169, rd170, rd171, rd172, rd173, rd174, rd175, rd176, rd177, rd178, rd179, rd180, rd181, rd182, rd183, rd184, rd185, rd145_0, rd145_2, rd145_3, rd145_4, rd145_5, rd145_6, rd145_7, rd156_0, rd156_1, rd166_0, rd178_0, cpy_ne (Ne.symm ha), bd_s, bv_s, bt_s, bt_x, vl_s, pf_s, ri_s, rz_0, rz_1, tri_s, trz_0, trz_1, trx_s, pz_0, pz_1, nI_add, pk_mul, up_at, la2, la5, la6, la8, la14, la62, la64, la98, la700, ra1, ra2, ra6, ra8, ra12, ra20, ra36, ra48, lm6, lm8, lm10, lm100, lm106, rm6, rm8, rm10, rm100, rm106, wr_g]
      apply ih
      have := cpy_up (S := S) (sp := 0) (dp := k) (n := i) (Ne.symm ha)
      rw [Nat.zero_add] at this
      exact this
  obtain ⟨b, e, q⟩ := this
  rw [← q]; exact e
theorem M_pack71 {S : St} {a k : Nat} (ha : a ≠ 160) (ha1 : a ≠ 161) (ha2 : a ≠ 162) (hk : k + 92 ≤ ln a) : LX10_pack_71 FU a (nI k) 0 S = some (cpy (cpy (cpy S 160 0 a k 48) 161 0 a (k + 48) 36) 162 0 a (k + 48 + 36) 8) := by
  have hl := ln_lt a
  have : ok (LX10_pack_71 FU a (nI k) (nI 0) S) (fun T => T = cpy (cpy (cpy S 160 0 a k 48) 161 0 a (k + 48) 36) 162 0 a (k + 48 + 36) 8) := by
    refine ok_for (fun n i T => LX10_pack_71 n a (nI k) (nI i) T) _ (fun i T => T = cpy S 160 0 a k i) 48 ?_ ?_ FU 0 S (by omega) (by decide) cpy_0.symm
    · intro n T hI
      subst hI
      simp (disch := omega) only [LX10_pack_71, KX10_pack_71, nI_leE, nI_ltE, nI_eqE, nI_m1, c0a, c0b, c0c, c0d, c0e, c1a, c1b, c1c, c1d, c1e, c2a, c2b, c2c, c2d, c2e, c3a, c3b, c3c, c3d, c3e, c4a, c4b, c4c, c4d, c4e, c5a, c5b, c5c, c5d, c5e, c6a, c6b, c6c, c6d, c6e, c7a, c7b, c7c, c7d, c7e, c8a, c8b, c8c, c8d, c8e, c9a, c9b, c9c, c9d, c9e, c10a, c10b, c10c, c10d, c10e, c12a, c12b, c12c, c12d, c12e, c14a, c14b, c14c, c14d, c14e, c16a, c16b, c16c, c16d, c16e, c20a, c20b, c20c, c20d, c20e, c30a, c30b, c30c, c30d, c30e, c32a, c32b, c32c, c32d, c32e, c36a, c36b, c36c, c36d, c36e, c40a, c40b, c40c, c40d, c40e, c41a, c41b, c41c, c41d, c41e, c42a, c42b, c42c, c42d, c42e, c43a, c43b, c43c, c43d, c43e, c45a, c45b, c45c, c45d, c45e, c47a, c47b, c47c, c47d, c47e, c48a, c48b, c48c, c48d, c48e, c57a, c57b, c57c, c57d, c57e, c59a, c59b, c59c, c59d, c59e, c60a, c60b, c60c, c60d, c60e, c61a, c61b, c61c, c61d, c61e, c62a, c62b, c62c, c62d, c62e, c64a, c64b, c64c, c64d, c64e, c96a, c96b, c96c, c96d, c96e, c97a, c97b, c97c, c97d, c97e, c98a, c98b, c98c, c98d, c98e, c99a, c99b, c99c, c99d, c99e, c100a, c100b, c100c, c100d, c100e, c122a, c122b, c122c, c122d, c122e, c700a, c700b, c700c, c700d, c700e, c4240a, c4240b, c4240c, c4240d, c4240e, c9999a, c9999b, c9999c, c9999d, c9999e, c100000a, c100000b, c100000c, c100000d, c100000e, c1000000a, c1000000b, c1000000c, c1000000d, c1000000e, if_T, bd_s, bv_s, bt_s, bt_x, vl_s, pf_s, ri_s, rz_0, rz_1, tri_s, trz_0, trz_1, trx_s, pz_0, pz_1, nI_add, pk_mul, up_at, la2, la5, la6, la8, la14, la62, la64, la98, la700, ra1, ra2, ra6, ra8, ra12, ra20, ra36, ra48, lm6, lm8, lm10, lm100, lm106, rm6, rm8, rm10, rm100, rm106, M_pack111 ha1 ha2]
      exact ok_some rfl
    · intro n i T hi hI ih
      subst hI
      simp (disch := omega) only [LX10_pack_71, KX10_pack_71, nI_leE, nI_ltE, nI_eqE, nI_m1, c0a, c0b, c0c, c0d, c0e, c1a, c1b, c1c, c1d, c1e, c2a, c2b, c2c, c2d, c2e, c3a, c3b, c3c, c3d, c3e, c4a, c4b, c4c, c4d, c4e, c5a, c5b, c5c, c5d, c5e, c6a, c6b, c6c, c6d, c6e, c7a, c7b, c7c, c7d, c7e, c8a, c8b, c8c, c8d, c8e, c9a, c9b, c9c, c9d, c9e, c10a, c10b, c10c, c10d, c10e, c12a, c12b, c12c, c12d, c12e, c14a, c14b, c14c, c14d, c14e, c16a, c16b, c16c, c16d, c16e, c20a, c20b, c20c, c20d, c20e, c30a, c30b, c30c, c30d, c30e, c32a, c32b, c32c, c32d, c32e, c36a, c36b, c36c, c36d, c36e, c40a, c40b, c40c, c40d, c40e, c41a, c41b, c41c, c41d, c41e, c42a, c42b, c42c, c42d, c42e, c43a, c43b, c43c, c43d, c43e, c45a, c45b, c45c, c45d, c45e, c47a, c47b, c47c, c47d, c47e, c48a, c48b, c48c, c48d, c48e, c57a, c57b, c57c, c57d, c57e, c59a, c59b, c59c, c59d, c59e, c60a, c60b, c60c, c60d, c60e, c61a, c61b, c61c, c61d, c61e, c62a, c62b, c62c, c62d, c62e, c64a, c64b, c64c, c64d, c64e, c96a, c96b, c96c, c96d, c96e, c97a, c97b, c97c, c97d, c97e, c98a, c98b, c98c, c98d, c98e, c99a, c99b, c99c, c99d, c99e, c100a, c100b, c100c, c100d, c100e, c122a, c122b, c122c, c122d, c122e, c700a, c700b, c700c, c700d, c700e, c4240a, c4240b, c4240c, c4240d, c4240e, c9999a, c9999b, c9999c, c9999d, c9999e, c100000a, c100000b, c100000c, c100000d, c100000e, c1000000a, c1000000b, c1000000c, c1000000d, c1000000e, if_F, rd145, rd146, rd147, rd148, rd149, rd150, rd151, rd152, rd153, rd154, rd155, rd156, rd157, rd158, rd159, rd160, rd161, rd162, rd163, rd164, rd165, rd166, rd167, rd168, rd169, rd170, rd171, rd172, rd173, rd174, rd175, rd176, rd177, rd178, rd179, rd180, rd181, rd182, rd183, rd184, rd185, rd145_0, rd145_2, rd145_3, rd145_4, rd145_5, rd145_6, rd145_7, rd156_0, rd156_1, rd166_0, rd178_0, cpy_ne (Ne.symm ha), bd_s, bv_s, bt_s, bt_x, vl_s, pf_s, ri_s, rz_0, rz_1, tri_s, trz_0, trz_1, trx_s, pz_0, pz_1, nI_add, pk_mul, up_at, la2, la5, la6, la8, la14, la62, la64, la98, la700, ra1, ra2, ra6, ra8, ra12, ra20, ra36, ra48, lm6, lm8, lm10, lm100, lm106, rm6, rm8, rm10, rm100, rm106, wr_g]
      apply ih
      have := cpy_up (S := S) (sp := 0) (dp := k) (n := i) (Ne.symm ha)
      rw [Nat.zero_add] at this
      exact this
  obtain ⟨b, e, q⟩ := this
  rw [← q]; exact e
/-- the row that a state holds behind pack -/
def pkd (S : St) (a f : Nat) : Rw := fun j => if f ≤ j ∧ j < f + 106 then mr S (j - f) else S a j
theorem M_pack {S : St} {a f : Nat} (ha : a < 142 ∨ (142 < a ∧ a < 158) ∨ 162 < a) (hf : f + 106 ≤ ln a) : fX10_pack a (nI f) S = some (row S a (pkd S a f)) := by
  have hl := ln_lt a
  have key : ok (LX10_pack_23 FU a (nI (f + 2)) (nI 0) (up (up S a f (S 142 34)) a (f + 1) (S 142 35))) (fun T => T = row S a (pkd S a f)) := by
    refine ok_for (fun n i T => LX10_pack_23 n a (nI (f + 2)) (nI i) T) _ (fun i T => (∀ b, b ≠ a → T b = S b) ∧ T a f = S 142 34 ∧ T a (f + 1) = S 142 35 ∧ (∀ j, j < 6 → j < i → T a (f + 2 + j) = S 158 j ∧ T a (f + 8 + j) = S 159 j) ∧ ∀ j, (j < f ∨ f + 14 ≤ j) → T a j = S a j) 6 ?_ ?_ FU 0 _ (by omega) (by decide) ⟨fun b hb => by rw [up_ne hb, up_ne hb], ?_, ?_, fun j _ h => absurd h (by omega), fun j hj => ?_⟩
    · intro n T hI
      obtain ⟨i1, i2, i3, i4, i5⟩ := hI
      simp (disch := omega) only [LX10_pack_23, KX10_pack_23, nI_leE, nI_ltE, nI_eqE, nI_m1, c0a, c0b, c0c, c0d, c0e, c1a, c1b, c1c, c1d, c1e, c2a, c2b, c2c, c2d, c2e, c3a, c3b, c3c, c3d, c3e, c4a, c4b, c4c, c4d, c4e, c5a, c5b, c5c, c5d, c5e, c6a, c6b, c6c, c6d, c6e, c7a, c7b, c7c, c7d, c7e, c8a, c8b, c8c, c8d, c8e, c9a, c9b, c9c, c9d, c9e, c10a, c10b, c10c, c10d, c10e, c12a, c12b, c12c, c12d, c12e, c14a, c14b, c14c, c14d, c14e, c16a, c16b, c16c, c16d, c16e, c20a, c20b, c20c, c20d, c20e, c30a, c30b, c30c, c30d, c30e, c32a, c32b, c32c, c32d, c32e, c36a, c36b, c36c, c36d, c36e, c40a, c40b, c40c, c40d, c40e, c41a, c41b, c41c, c41d, c41e, c42a, c42b, c42c, c42d, c42e, c43a, c43b, c43c, c43d, c43e, c45a, c45b, c45c, c45d, c45e, c47a, c47b, c47c, c47d, c47e, c48a, c48b, c48c, c48d, c48e, c57a, c57b, c57c, c57d, c57e, c59a, c59b, c59c, c59d, c59e, c60a, c60b, c60c, c60d, c60e, c61a, c61b, c61c, c61d, c61e, c62a, c62b, c62c, c62d, c62e, c64a, c64b, c64c, c64d, c64e, c96a, c96b, c96c, c96d, c96e, c97a, c97b, c97c, c97d, c97e, c98a, c98b, c98c, c98d, c98e, c99a, c99b, c99c, c99d, c99e, c100a, c100b, c100c, c100d, c100e, c122a, c122b, c122c, c122d, c122e, c700a, c700b, c700c, c700d, c700e, c4240a, c4240b, c4240c, c4240d, c4240e, c9999a, c9999b, c9999c, c9999d, c9999e, c100000a, c100000b, c100000c, c100000d, c100000e, c1000000a, c1000000b, c1000000c, c1000000d, c1000000e, if_T, bd_s, bv_s, bt_s, bt_x, vl_s, pf_s, ri_s, rz_0, rz_1, tri_s, trz_0, trz_1, trx_s, pz_0, pz_1, nI_add, pk_mul, up_at, la2, la5, la6, la8, la14, la62, la64, la98, la700, ra1, ra2, ra6, ra8, ra12, ra20, ra36, ra48, lm6, lm8, lm10, lm100, lm106, rm6, rm8, rm10, rm100, rm106, M_pack71 (show a ≠ 160 by omega) (show a ≠ 161 by omega) (show a ≠ 162 by omega)]
      refine ok_some ?_
      funext b j
      by_cases hb : b = a
      · subst hb
        rw [row_at, cpy_row, cpy_ne (by omega), cpy_ne (by omega), cpy_row, cpy_ne (by omega), cpy_row, i1 162 (by omega), i1 161 (by omega), i1 160 (by omega)]
        unfold pkd va_cpy mr
        by_cases c : f ≤ j ∧ j < f + 106
        · rw [if_pos c]
          by_cases c1 : j - f < 14
          · rw [if_neg (by omega), if_neg (by omega), if_neg (by omega)]
            by_cases d0 : j - f = 0
            · rw [if_pos d0, show j = f by omega]; exact i2
            · by_cases d1 : j - f = 1
              · rw [if_neg d0, if_pos d1, show j = f + 1 by omega]; exact i3
              · by_cases d2 : j - f < 8
                · rw [if_neg d0, if_neg d1, if_pos d2, ← (i4 (j - f - 2) (by omega) (by omega)).1]; congr 1; omega
                · rw [if_neg d0, if_neg d1, if_neg d2, if_pos c1, ← (i4 (j - f - 8) (by omega) (by omega)).2]; congr 1; omega
          · rw [if_neg (show ¬ j - f = 0 by omega), if_neg (show ¬ j - f = 1 by omega), if_neg (show ¬ j - f < 8 by omega), if_neg c1]
            by_cases d3 : j - f < 62
            · rw [if_pos d3, if_neg (by omega), if_neg (by omega), if_pos (by omega)]; congr 1; omega
            · by_cases d4 : j - f < 98
              · rw [if_neg d3, if_pos d4, if_neg (by omega), if_pos (by omega)]; congr 1; omega
              · rw [if_neg d3, if_neg d4, if_pos (by omega)]; congr 1; omega
        · rw [if_neg c, if_neg (by omega), if_neg (by omega), if_neg (by omega)]
          exact i5 j (by omega)
      · rw [row_ne hb, cpy_ne hb, cpy_ne hb, cpy_ne hb]
        exact congrFun (i1 b hb) j
    · intro n i T hi hI ih
      obtain ⟨i1, i2, i3, i4, i5⟩ := hI
      simp (disch := omega) only [LX10_pack_23, KX10_pack_23, nI_leE, nI_ltE, nI_eqE, nI_m1, c0a, c0b, c0c, c0d, c0e, c1a, c1b, c1c, c1d, c1e, c2a, c2b, c2c, c2d, c2e, c3a, c3b, c3c, c3d, c3e, c4a, c4b, c4c, c4d, c4e, c5a, c5b, c5c, c5d, c5e, c6a, c6b, c6c, c6d, c6e, c7a, c7b, c7c, c7d, c7e, c8a, c8b, c8c, c8d, c8e, c9a, c9b, c9c, c9d, c9e, c10a, c10b, c10c, c10d, c10e, c12a, c12b, c12c, c12d, c12e, c14a, c14b, c14c, c14d, c14e, c16a, c16b, c16c, c16d, c16e, c20a, c20b, c20c, c20d, c20e, c30a, c30b, c30c, c30d, c30e, c32a, c32b, c32c, c32d, c32e, c36a, c36b, c36c, c36d, c36e, c40a, c40b, c40c, c40d, c40e, c41a, c41b, c41c, c41d, c41e, c42a, c42b, c42c, c42d, c42e, c43a, c43b, c43c, c43d, c43e, c45a, c45b, c45c, c45d, c45e, c47a, c47b, c47c, c47d, c47e, c48a, c48b, c48c, c48d, c48e, c57a, c57b, c57c, c57d, c57e, c59a, c59b, c59c, c59d, c59e, c60a, c60b, c60c, c60d, c60e, c61a, c61b, c61c, c61d, c61e, c62a, c62b, c62c, c62d, c62e, c64a, c64b, c64c, c64d, c64e, c96a, c96b, c96c, c96d, c96e, c97a, c97b, c97c, c97d, c97e, c98a, c98b, c98c, c98d, c98e, c99a, c99b, c99c, c99d, c99e, c100a, c100b, c100c, c100d, c100e, c122a, c122b, c122c, c122d, c122e, c700a, c700b, c700c, c700d, c700e, c4240a, c4240b, c4240c, c4240d, c4240e, c9999a, c9999b, c9999c, c9999d, c9999e, c100000a, c100000b, c100000c, c100000d, c100000e, c1000000a, c1000000b, c1000000c, c1000000d, c1000000e, if_F, bd_s, bv_s, bt_s, bt_x, vl_s, pf_s, ri_s, rz_0, rz_1, tri_s, trz_0, trz_1, trx_s, pz_0, pz_1, nI_add, pk_mul, up_at, la2, la5, la6, la8, la14, la62, la64, la98, la700, ra1, ra2, ra6, ra8, ra12, ra20, ra36, ra48, lm6, lm8, lm10, lm100, lm106, rm6, rm8, rm10, rm100, rm106, rd145, rd146, rd147, rd148, rd149, rd150, rd151, rd152, rd153, rd154, rd155, rd156, rd157, rd158, rd159, rd160, rd161, rd162, rd163, rd164, rd165, rd166, rd167, rd168, rd169, rd170, rd171, rd172, rd173, rd174, rd175, rd176, rd177, rd178, rd179, rd180, rd181, rd182, rd183, rd184, rd185, rd145_0, rd145_2, rd145_3, rd145_4, rd145_5, rd145_6, rd145_7, rd156_0, rd156_1, rd166_0, rd178_0, wr_g, up_ne]
      refine ih _ ⟨fun b hb => by rw [up_ne hb, up_ne hb]; exact i1 b hb, ?_, ?_, fun j h6 hj => ?_, fun j hj => ?_⟩
      · rw [up_off (by omega), up_off (by omega)]; exact i2
      · rw [up_off (by omega), up_off (by omega)]; exact i3
      · rw [up_2, up_2, up_2, up_2]
        constructor
        · rw [if_neg (by omega)]
          split
          · rename_i q; rw [i1 158 (by omega), show j = i by omega]
          · exact (i4 j h6 (by omega)).1
        · split
          · rename_i q; rw [i1 159 (by omega), show j = i by omega]
          · rw [if_neg (by omega)]; exact (i4 j h6 (by omega)).2
      · rw [up_off (by omega), up_off (by omega)]; exact i5 j hj
    · rw [up_off (by omega), up_at]
    · rw [up_at]
    · rw [up_off (by omega), up_off (by omega)]
  unfold fX10_pack
  simp (disch := omega) only [bd_s, bv_s, bt_s, bt_x, vl_s, pf_s, ri_s, rz_0, rz_1, tri_s, trz_0, trz_1, trx_s, pz_0, pz_1, nI_add, pk_mul, up_at, la2, la5, la6, la8, la14, la62, la64, la98, la700, ra1, ra2, ra6, ra8, ra12, ra20, ra36, ra48, lm6, lm8, lm10, lm100, lm106, rm6, rm8, rm10, rm100, rm106, wr_g, up_ne]
  obtain ⟨b, e, q⟩ := key
  rw [← q]; exact e
