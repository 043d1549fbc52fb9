/-! what two tunes have in common -/
def lcN (P : Nat → Nat → Bool) (i : Nat) (r : Nat → Nat) : Nat → Nat
  | 0 => 0
  | j + 1 => if P i j then r j + 1 else if r (j + 1) < lcN P i r j then lcN P i r j else r (j + 1)
def lcR (P : Nat → Nat → Bool) : Nat → Nat → Nat
  | 0 => fun _ => 0
  | i + 1 => lcN P i (lcR P i)
theorem lcN_le {P : Nat → Nat → Bool} {i m : Nat} {r : Nat → Nat} (h : ∀ j, r j ≤ m) : ∀ j, lcN P i r j ≤ m + 1 := by
  intro j
  induction j with
  | zero => exact Nat.zero_le _
  | succ j ih =>
    show (if P i j then r j + 1 else if r (j + 1) < lcN P i r j then lcN P i r j else r (j + 1)) ≤ m + 1
    have := h j
    have := h (j + 1)
    split
    · omega
    · split <;> omega
theorem lcR_le {P : Nat → Nat → Bool} : ∀ i j, lcR P i j ≤ i := by
  intro i
  induction i with
  | zero => intro j; exact Nat.le_refl _
  | succ i ih => intro j; exact lcN_le ih j
theorem lcN_0 {P : Nat → Nat → Bool} {i : Nat} {r : Nat → Nat} : lcN P i r 0 = 0 := rfl
theorem lcR_0 {P : Nat → Nat → Bool} : ∀ i, lcR P i 0 = 0 := by
  intro i
  cases i <;> rfl
theorem C_common {V : Vy} {v : Nat} {S : St} (hC : VC V v S) {a b na nb : Nat} (ha : a < vF V) (hb : b < vF V) (ea : vT V a = nI na) (eb : vT V b = nI nb) (n6 : na ≤ 6) (m6 : nb ≤ 6) : ok (fX5_inCommon v (nI a) (nI b) S) (fun q => q.1 = nI (lcR (fun i j => decide (S (v + 3) (a * 6 + i) = S (v + 3) (b * 6 + j))) na nb) ∧ ∀ c, c ≠ 141 → q.2 c = S c) := by
  have hV := hC.1
  have hF8 := hV.1
  have hv := hC.2.1
  have e1 := (hC.2.2.2.2.2.2.2.1 a ha).2
  have e2 := (hC.2.2.2.2.2.2.2.1 b hb).2
  rw [ea] at e1
  rw [eb] at e2
  generalize hP : (fun i j => decide (S (v + 3) (a * 6 + i) = S (v + 3) (b * 6 + j))) = P
  unfold fX5_inCommon
  simp (disch := omega) only [srv3, srv4, srv5, srv6, srv7, srv8, srv9, srv10, srv11, srv12, srv13, rdv1, rdv2, rdv3, rdv4, rdv5, rdv6, rdv7, rdv8, rdv9, rdv10, rdv12, rdv14, e1, e2]
  refine ok_for (fun k i T => LX5_inCommon_19 k v (nI a) (nI b) (nI na) (nI nb) (nI i) T) _ (fun i T => (∀ j, j < i → T 141 j = 0) ∧ ∀ c, c ≠ 141 → T c = S c) (nb + 1) ?_ ?_ FU 0 S (by omega) (by unfold FU; omega) ⟨fun j hj => absurd hj (by omega), fun _ _ => rfl⟩
  · intro k T hI
    obtain ⟨i1, i2⟩ := hI
    simp (disch := omega) only [LX5_inCommon_19, KX5_inCommon_19, nI_leE, nI_ltE, nI_eqE, nI_m1, c0a, c0b, c0c, c0d, c0e, c1a, c1b, c1c, c1d, c1e, c2a, c2b, c2c, c2d, c2e, c3a, c3b, c3c, c3d, c3e, c4a, c4b, c4c, c4d, c4e, c5a, c5b, c5c, c5d, c5e, c6a, c6b, c6c, c6d, c6e, c7a, c7b, c7c, c7d, c7e, c8a, c8b, c8c, c8d, c8e, c9a, c9b, c9c, c9d, c9e, c10a, c10b, c10c, c10d, c10e, c12a, c12b, c12c, c12d, c12e, c14a, c14b, c14c, c14d, c14e, c16a, c16b, c16c, c16d, c16e, c20a, c20b, c20c, c20d, c20e, c30a, c30b, c30c, c30d, c30e, c32a, c32b, c32c, c32d, c32e, c36a, c36b, c36c, c36d, c36e, c40a, c40b, c40c, c40d, c40e, c41a, c41b, c41c, c41d, c41e, c42a, c42b, c42c, c42d, c42e, c43a, c43b, c43c, c43d, c43e, c45a, c45b, c45c, c45d, c45e, c47a, c47b, c47c, c47d, c47e, c48a, c48b, c48c, c48d, c48e, c57a, c57b, c57c, c57d, c57e, c59a, c59b, c59c, c59d, c59e, c60a, c60b, c60c, c60d, c60e, c61a, c61b, c61c, c61d, c61e, c62a, c62b, c62c, c62d, c62e, c64a, c64b, c64c, c64d, c64e, c96a, c96b, c96c, c96d, c96e, c97a, c97b, c97c, c97d, c97e, c98a, c98b, c98c, c98d, c98e, c99a, c99b, c99c, c99d, c99e, c100a, c100b, c100c, c100d, c100e, c122a, c122b, c122c, c122d, c122e, c700a, c700b, c700c, c700d, c700e, c4240a, c4240b, c4240c, c4240d, c4240e, c9999a, c9999b, c9999c, c9999d, c9999e, c100000a, c100000b, c100000c, c100000d, c100000e, c1000000a, c1000000b, c1000000c, c1000000d, c1000000e, if_T]
    refine ok_for (fun k i U => LX5_inCommon_43 k v (nI a) (nI b) (nI na) (nI nb) (nI i) U) _ (fun i U => (∀ j, j ≤ nb → U 141 j = nI (lcR P i j)) ∧ ∀ c, c ≠ 141 → U c = S c) na ?_ ?_ FU 0 T (by omega) (by unfold FU; omega) ⟨fun j hj => by rw [i1 j (by omega)]; rfl, i2⟩
    · intro k U hU
      simp (disch := omega) only [LX5_inCommon_43, KX5_inCommon_43, nI_leE, nI_ltE, nI_eqE, nI_m1, c0a, c0b, c0c, c0d, c0e, c1a, c1b, c1c, c1d, c1e, c2a, c2b, c2c, c2d, c2e, c3a, c3b, c3c, c3d, c3e, c4a, c4b, c4c, c4d, c4e, c5a, c5b, c5c, c5d, c5e, c6a, c6b, c6c, c6d, c6e, c7a, c7b, c7c, c7d, c7e, c8a, c8b, c8c, c8d, c8e, c9a, c9b, c9c, c9d, c9e, c10a, c10b, c10c, c10d, c10e, c12a, c12b, c12c, c12d, c12e, c14a, c14b, c14c, c14d, c14e, c16a, c16b, c16c, c16d, c16e, c20a, c20b, c20c, c20d, c20e, c30a, c30b, c30c, c30d, c30e, c32a, c32b, c32c, c32d, c32e, c36a, c36b, c36c, c36d, c36e, c40a, c40b, c40c, c40d, c40e, c41a, c41b, c41c, c41d, c41e, c42a, c42b, c42c, c42d, c42e, c43a, c43b, c43c, c43d, c43e, c45a, c45b, c45c, c45d, c45e, c47a, c47b, c47c, c47d, c47e, c48a, c48b, c48c, c48d, c48e, c57a, c57b, c57c, c57d, c57e, c59a, c59b, c59c, c59d, c59e, c60a, c60b, c60c, c60d, c60e, c61a, c61b, c61c, c61d, c61e, c62a, c62b, c62c, c62d, c62e, c64a, c64b, c64c, c64d, c64e, c96a, c96b, c96c, c96d, c96e, c97a, c97b, c97c, c97d, c97e, c98a, c98b, c98c, c98d, c98e, c99a, c99b, c99c, c99d, c99e, c100a, c100b, c100c, c100d, c100e, c122a, c122b, c122c, c122d, c122e, c700a, c700b, c700c, c700d, c700e, c4240a, c4240b, c4240c, c4240d, c4240e, c9999a, c9999b, c9999c, c9999d, c9999e, c100000a, c100000b, c100000c, c100000d, c100000e, c1000000a, c1000000b, c1000000c, c1000000d, c1000000e, if_T, rd141, bd_s, bv_s, bt_s, bt_x, vl_s, pf_s, ri_s, rz_0, rz_1, tri_s, trz_0, trz_1, trx_s, pz_0, pz_1, nI_add, pk_mul, up_at, la2, la5, la6, la8, la14, la62, la64, la98, la700, ra1, ra2, ra6, ra8, ra12, ra20, ra36, ra48, lm6, lm8, lm10, lm100, lm106, rm6, rm8, rm10, rm100, rm106]
      exact ok_some ⟨hU.1 nb (Nat.le_refl _), hU.2⟩
    · intro k i U hi hU ih
      obtain ⟨u1, u2⟩ := hU
      simp (disch := omega) only [LX5_inCommon_43, KX5_inCommon_43, nI_leE, nI_ltE, nI_eqE, nI_m1, c0a, c0b, c0c, c0d, c0e, c1a, c1b, c1c, c1d, c1e, c2a, c2b, c2c, c2d, c2e, c3a, c3b, c3c, c3d, c3e, c4a, c4b, c4c, c4d, c4e, c5a, c5b, c5c, c5d, c5e, c6a, c6b, c6c, c6d, c6e, c7a, c7b, c7c, c7d, c7e, c8a, c8b, c8c, c8d, c8e, c9a, c9b, c9c, c9d, c9e, c10a, c10b, c10c, c10d, c10e, c12a, c12b, c12c, c12d, c12e, c14a, c14b, c14c, c14d, c14e, c16a, c16b, c16c, c16d, c16e, c20a, c20b, c20c, c20d, c20e, c30a, c30b, c30c, c30d, c30e, c32a, c32b, c32c, c32d, c32e, c36a, c36b, c36c, c36d, c36e, c40a, c40b, c40c, c40d, c40e, c41a, c41b, c41c, c41d, c41e, c42a, c42b, c42c, c42d, c42e, c43a, c43b, c43c, c43d, c43e, c45a, c45b, c45c, c45d, c45e, c47a, c47b, c47c, c47d, c47e, c48a, c48b, c48c, c48d, c48e, c57a, c57b, c57c, c57d, c57e, c59a, c59b, c59c, c59d, c59e, c60a, c60b, c60c, c60d, c60e, c61a, c61b, c61c, c61d, c61e, c62a, c62b, c62c, c62d, c62e, c64a, c64b, c64c, c64d, c64e, c96a, c96b, c96c, c96d, c96e, c97a, c97b, c97c, c97d, c97e, c98a, c98b, c98c, c98d, c98e, c99a, c99b, c99c, c99d, c99e, c100a, c100b, c100c, c100d, c100e, c122a, c122b, c122c, c122d, c122e, c700a, c700b, c700c, c700d, c700e, c4240a, c4240b, c4240c, c4240d, c4240e, c9999a, c9999b, c9999c, c9999d, c9999e, c100000a, c100000b, c100000c, c100000d, c100000e, c1000000a, c1000000b, c1000000c, c1000000d, c1000000e, if_F]
      refine ok_for (σ := Int32 × St) (fun m j W => LX5_inCommon_56 (LX5_inCommon_43 k) m v (nI a) (nI b) (nI na) (nI nb) (nI i) W.1 (nI j) W.2) _ (fun j W => W.1 = nI (lcR P i j) ∧ (∀ q, q ≤ nb → W.2 141 q = nI (if q ≤ j then lcR P (i + 1) q else lcR P i q)) ∧ ∀ c, c ≠ 141 → W.2 c = S c) nb ?_ ?_ FU 0 (0, U) (by omega) (by unfold FU; omega) ⟨by rw [lcR_0]; rfl, fun q hq => ?_, u2⟩
      · intro m W hW
        simp (disch := omega) only [LX5_inCommon_56, KX5_inCommon_56, nI_leE, nI_ltE, nI_eqE, nI_m1, c0a, c0b, c0c, c0d, c0e, c1a, c1b, c1c, c1d, c1e, c2a, c2b, c2c, c2d, c2e, c3a, c3b, c3c, c3d, c3e, c4a, c4b, c4c, c4d, c4e, c5a, c5b, c5c, c5d, c5e, c6a, c6b, c6c, c6d, c6e, c7a, c7b, c7c, c7d, c7e, c8a, c8b, c8c, c8d, c8e, c9a, c9b, c9c, c9d, c9e, c10a, c10b, c10c, c10d, c10e, c12a, c12b, c12c, c12d, c12e, c14a, c14b, c14c, c14d, c14e, c16a, c16b, c16c, c16d, c16e, c20a, c20b, c20c, c20d, c20e, c30a, c30b, c30c, c30d, c30e, c32a, c32b, c32c, c32d, c32e, c36a, c36b, c36c, c36d, c36e, c40a, c40b, c40c, c40d, c40e, c41a, c41b, c41c, c41d, c41e, c42a, c42b, c42c, c42d, c42e, c43a, c43b, c43c, c43d, c43e, c45a, c45b, c45c, c45d, c45e, c47a, c47b, c47c, c47d, c47e, c48a, c48b, c48c, c48d, c48e, c57a, c57b, c57c, c57d, c57e, c59a, c59b, c59c, c59d, c59e, c60a, c60b, c60c, c60d, c60e, c61a, c61b, c61c, c61d, c61e, c62a, c62b, c62c, c62d, c62e, c64a, c64b, c64c, c64d, c64e, c96a, c96b, c96c, c96d, c96e, c97a, c97b, c97c, c97d, c97e, c98a, c98b, c98c, c98d, c98e, c99a, c99b, c99c, c99d, c99e, c100a, c100b, c100c, c100d, c100e, c122a, c122b, c122c, c122d, c122e, c700a, c700b, c700c, c700d, c700e, c4240a, c4240b, c4240c, c4240d, c4240e, c9999a, c9999b, c9999c, c9999d, c9999e, c100000a, c100000b, c100000c, c100000d, c100000e, c1000000a, c1000000b, c1000000c, c1000000d, c1000000e, if_T, bd_s, bv_s, bt_s, bt_x, vl_s, pf_s, ri_s, rz_0, rz_1, tri_s, trz_0, trz_1, trx_s, pz_0, pz_1, nI_add, pk_mul, up_at, la2, la5, la6, la8, la14, la62, la64, la98, la700, ra1, ra2, ra6, ra8, ra12, ra20, ra36, ra48, lm6, lm8, lm10, lm100, lm106, rm6, rm8, rm10, rm100, rm106]
        refine ih _ ⟨fun j hj => by rw [hW.2.1 j hj, if_pos hj], hW.2.2⟩
      · intro m j W hj hW ih2
        obtain ⟨w1, w2, w3⟩ := hW
        have d1 := lcR_le (P := P) i j
        have d2 := lcR_le (P := P) i (j + 1)
        have d3 := lcR_le (P := P) (i + 1) j
        have x1 : W.2 141 (j + 1) = nI (lcR P i (j + 1)) := by rw [w2 _ (by omega), if_neg (by omega)]
        have x2 : W.2 141 j = nI (lcR P (i + 1) j) := by rw [w2 _ (by omega), if_pos (Nat.le_refl _)]
        have c3 : W.2 (v + 3) = S (v + 3) := w3 _ (by omega)
        have nxt : ∀ y, y = lcR P (i + 1) (j + 1) → ok (LX5_inCommon_56 (LX5_inCommon_43 k) m v (nI a) (nI b) (nI na) (nI nb) (nI i) (nI (lcR P i (j + 1))) (nI (j + 1)) (up W.2 141 (j + 1) (nI y))) (fun q => q.1 = nI (lcR P na nb) ∧ ∀ c, c ≠ 141 → q.2 c = S c) := by
          intro y hy
          refine ih2 (_, _) ⟨rfl, fun q hq => ?_, fun c hc => by show up W.2 141 (j + 1) (nI y) c = S c; rw [up_ne hc]; exact w3 c hc⟩
          show up W.2 141 (j + 1) (nI y) 141 q = _
          rw [up_2]
          by_cases e : q = j + 1
          · subst e; rw [if_pos ⟨rfl, rfl⟩, if_pos (Nat.le_refl _), hy]
          · rw [if_neg (fun z => e z.2), w2 q hq]
            by_cases e2 : q ≤ j
            · rw [if_pos e2, if_pos (by omega)]
            · rw [if_neg e2, if_neg (by omega)]
        have pe : ∀ z : Prop, [Decidable z] → (P i j = true ↔ z) → True := fun _ _ _ => trivial
        have hPij : P i j = decide (S (v + 3) (a * 6 + i) = S (v + 3) (b * 6 + j)) := by rw [← hP]
        simp (disch := omega) only [LX5_inCommon_56, KX5_inCommon_56, nI_leE, nI_ltE, nI_eqE, nI_m1, c0a, c0b, c0c, c0d, c0e, c1a, c1b, c1c, c1d, c1e, c2a, c2b, c2c, c2d, c2e, c3a, c3b, c3c, c3d, c3e, c4a, c4b, c4c, c4d, c4e, c5a, c5b, c5c, c5d, c5e, c6a, c6b, c6c, c6d, c6e, c7a, c7b, c7c, c7d, c7e, c8a, c8b, c8c, c8d, c8e, c9a, c9b, c9c, c9d, c9e, c10a, c10b, c10c, c10d, c10e, c12a, c12b, c12c, c12d, c12e, c14a, c14b, c14c, c14d, c14e, c16a, c16b, c16c, c16d, c16e, c20a, c20b, c20c, c20d, c20e, c30a, c30b, c30c, c30d, c30e, c32a, c32b, c32c, c32d, c32e, c36a, c36b, c36c, c36d, c36e, c40a, c40b, c40c, c40d, c40e, c41a, c41b, c41c, c41d, c41e, c42a, c42b, c42c, c42d, c42e, c43a, c43b, c43c, c43d, c43e, c45a, c45b, c45c, c45d, c45e, c47a, c47b, c47c, c47d, c47e, c48a, c48b, c48c, c48d, c48e, c57a, c57b, c57c, c57d, c57e, c59a, c59b, c59c, c59d, c59e, c60a, c60b, c60c, c60d, c60e, c61a, c61b, c61c, c61d, c61e, c62a, c62b, c62c, c62d, c62e, c64a, c64b, c64c, c64d, c64e, c96a, c96b, c96c, c96d, c96e, c97a, c97b, c97c, c97d, c97e, c98a, c98b, c98c, c98d, c98e, c99a, c99b, c99c, c99d, c99e, c100a, c100b, c100c, c100d, c100e, c122a, c122b, c122c, c122d, c122e, c700a, c700b, c700c, c700d, c700e, c4240a, c4240b, c4240c, c4240d, c4240e, c9999a, c9999b, c9999c, c9999d, c9999e, c100000a, c100000b, c100000c, c100000d, c100000e, c1000000a, c1000000b, c1000000c, c1000000d, c1000000e, if_F, bd_s, bv_s, bt_s, bt_x, vl_s, pf_s, ri_s, rz_0, rz_1, tri_s, trz_0, trz_1, trx_s, pz_0, pz_1, nI_add, pk_mul, up_at, la2, la5, la6, la8, la14, la62, la64, la98, la700, ra1, ra2, ra6, ra8, ra12, ra20, ra36, ra48, lm6, lm8, lm10, lm100, lm106, rm6, rm8, rm10, rm100, rm106, rd141, x1, srv3, srv4, srv5, srv6, srv7, srv8, srv9, srv10, srv11, srv12, srv13, rdv1, rdv2, rdv3, rdv4, rdv5, rdv6, rdv7, rdv8, rdv9, rdv10, rdv12, rdv14, c3, BX5_inCommon_106, BX5_inCommon_140, x2, w1, wr141]
        by_cases c : S (v + 3) (a * 6 + i) = S (v + 3) (b * 6 + j)
        · rw [if_pos c, if_neg (by decide)]
          refine nxt _ ?_
          show _ = if P i j then lcR P i j + 1 else _
          rw [hPij, if_pos (by simpa using c)]
        · rw [if_neg c, if_pos trivial]
          have hy : (if lcR P i (j + 1) < lcR P (i + 1) j then nI (lcR P (i + 1) j) else nI (lcR P i (j + 1))) = nI (if lcR P i (j + 1) < lcR P (i + 1) j then lcR P (i + 1) j else lcR P i (j + 1)) := by split <;> rfl
          rw [hy]
          refine nxt _ ?_
          have pf : P i j = false := by rw [hPij]; simpa using c
          show _ = if P i j then lcR P i j + 1 else if lcR P i (j + 1) < lcR P (i + 1) j then lcR P (i + 1) j else lcR P i (j + 1)
          rw [pf]
          rfl
      · show U 141 q = _
        rw [u1 q hq]
        by_cases e : q ≤ 0
        · have : q = 0 := by omega
          subst this
          rw [if_pos (Nat.le_refl _), lcR_0, lcR_0]
        · rw [if_neg e]
  · intro k i T hi hI ih
    simp (disch := omega) only [LX5_inCommon_19, KX5_inCommon_19, nI_leE, nI_ltE, nI_eqE, nI_m1, c0a, c0b, c0c, c0d, c0e, c1a, c1b, c1c, c1d, c1e, c2a, c2b, c2c, c2d, c2e, c3a, c3b, c3c, c3d, c3e, c4a, c4b, c4c, c4d, c4e, c5a, c5b, c5c, c5d, c5e, c6a, c6b, c6c, c6d, c6e, c7a, c7b, c7c, c7d, c7e, c8a, c8b, c8c, c8d, c8e, c9a, c9b, c9c, c9d, c9e, c10a, c10b, c10c, c10d, c10e, c12a, c12b, c12c, c12d, c12e, c14a, c14b, c14c, c14d, c14e, c16a, c16b, c16c, c16d, c16e, c20a, c20b, c20c, c20d, c20e, c30a, c30b, c30c, c30d, c30e, c32a, c32b, c32c, c32d, c32e, c36a, c36b, c36c, c36d, c36e, c40a, c40b, c40c, c40d, c40e, c41a, c41b, c41c, c41d, c41e, c42a, c42b, c42c, c42d, c42e, c43a, c43b, c43c, c43d, c43e, c45a, c45b, c45c, c45d, c45e, c47a, c47b, c47c, c47d, c47e, c48a, c48b, c48c, c48d, c48e, c57a, c57b, c57c, c57d, c57e, c59a, c59b, c59c, c59d, c59e, c60a, c60b, c60c, c60d, c60e, c61a, c61b, c61c, c61d, c61e, c62a, c62b, c62c, c62d, c62e, c64a, c64b, c64c, c64d, c64e, c96a, c96b, c96c, c96d, c96e, c97a, c97b, c97c, c97d, c97e, c98a, c98b, c98c, c98d, c98e, c99a, c99b, c99c, c99d, c99e, c100a, c100b, c100c, c100d, c100e, c122a, c122b, c122c, c122d, c122e, c700a, c700b, c700c, c700d, c700e, c4240a, c4240b, c4240c, c4240d, c4240e, c9999a, c9999b, c9999c, c9999d, c9999e, c100000a, c100000b, c100000c, c100000d, c100000e, c1000000a, c1000000b, c1000000c, c1000000d, c1000000e, if_F, wr141, bd_s, bv_s, bt_s, bt_x, vl_s, pf_s, ri_s, rz_0, rz_1, tri_s, trz_0, trz_1, trx_s, pz_0, pz_1, nI_add, pk_mul, up_at, la2, la5, la6, la8, la14, la62, la64, la98, la700, ra1, ra2, ra6, ra8, ra12, ra20, ra36, ra48, lm6, lm8, lm10, lm100, lm106, rm6, rm8, rm10, rm100, rm106]
    refine ih _ ⟨fun j hj => ?_, fun c hc => by rw [up_ne hc]; exact hI.2 c hc⟩
    rw [up_2]
    split
    · rfl
    · exact hI.1 j (by omega)
theorem M_common {V : Vy} {S : St} (hM : VM V S) {a b na nb : Nat} (ha : a < vF V) (hb : b < vF V) (ea : vT V a = nI na) (eb : vT V b = nI nb) (n6 : na ≤ 6) (m6 : nb ≤ 6) {P : Nat → Nat → Bool} (hP : ∀ i j, i < na → j < nb → P i j = decide (S 148 (6 * a + i) = S 148 (6 * b + j))) : ok (fX10_commonOf (nI a) (nI b) S) (fun q => q.1 = nI (lcR P na nb) ∧ ∀ c, c ≠ 170 → q.2 c = S c) := by
  have hV := hM.1
  have hF8 := hV.1
  have e1 := (hM.2.2.2.2.2.2.1 a ha).2
  have e2 := (hM.2.2.2.2.2.2.1 b hb).2
  rw [ea] at e1
  rw [eb] at e2
  unfold fX10_commonOf
  refine ok_for (fun k i T => LX10_commonOf_2 k (nI a) (nI b) (nI i) T) _ (fun i T => (∀ j, j < i → T 170 j = 0) ∧ ∀ c, c ≠ 170 → T c = S c) 7 ?_ ?_ FU 0 S (by omega) (by decide) ⟨fun j hj => absurd hj (by omega), fun _ _ => rfl⟩
  · intro k T hI
    obtain ⟨i1, i2⟩ := hI
    simp (disch := omega) only [LX10_commonOf_2, KX10_commonOf_2, nI_leE, nI_ltE, nI_eqE, nI_m1, c0a, c0b, c0c, c0d, c0e, c1a, c1b, c1c, c1d, c1e, c2a, c2b, c2c, c2d, c2e, c3a, c3b, c3c, c3d, c3e, c4a, c4b, c4c, c4d, c4e, c5a, c5b, c5c, c5d, c5e, c6a, c6b, c6c, c6d, c6e, c7a, c7b, c7c, c7d, c7e, c8a, c8b, c8c, c8d, c8e, c9a, c9b, c9c, c9d, c9e, c10a, c10b, c10c, c10d, c10e, c12a, c12b, c12c, c12d, c12e, c14a, c14b, c14c, c14d, c14e, c16a, c16b, c16c, c16d, c16e, c20a, c20b, c20c, c20d, c20e, c30a, c30b, c30c, c30d, c30e, c32a, c32b, c32c, c32d, c32e, c36a, c36b, c36c, c36d, c36e, c40a, c40b, c40c, c40d, c40e, c41a, c41b, c41c, c41d, c41e, c42a, c42b, c42c, c42d, c42e, c43a, c43b, c43c, c43d, c43e, c45a, c45b, c45c, c45d, c45e, c47a, c47b, c47c, c47d, c47e, c48a, c48b, c48c, c48d, c48e, c57a, c57b, c57c, c57d, c57e, c59a, c59b, c59c, c59d, c59e, c60a, c60b, c60c, c60d, c60e, c61a, c61b, c61c, c61d, c61e, c62a, c62b, c62c, c62d, c62e, c64a, c64b, c64c, c64d, c64e, c96a, c96b, c96c, c96d, c96e, c97a, c97b, c97c, c97d, c97e, c98a, c98b, c98c, c98d, c98e, c99a, c99b, c99c, c99d, c99e, c100a, c100b, c100c, c100d, c100e, c122a, c122b, c122c, c122d, c122e, c700a, c700b, c700c, c700d, c700e, c4240a, c4240b, c4240c, c4240d, c4240e, c9999a, c9999b, c9999c, c9999d, c9999e, c100000a, c100000b, c100000c, c100000d, c100000e, c1000000a, c1000000b, c1000000c, c1000000d, c1000000e, if_T]
    refine ok_for (fun k i U => LX10_commonOf_23 k (nI a) (nI b) (nI i) U) _ (fun i U => (∀ j, j ≤ nb → U 170 j = nI (lcR P i j)) ∧ ∀ c, c ≠ 170 → U c = S c) na ?_ ?_ FU 0 T (by omega) (by unfold FU; omega) ⟨fun j hj => by rw [i1 j (by omega)]; rfl, i2⟩
    · intro k U hU
      have f1 : U 147 a = nI na := by rw [hU.2 147 (by decide)]; exact e1
      have f2 : U 147 b = nI nb := by rw [hU.2 147 (by decide)]; exact e2
      simp (disch := omega) only [LX10_commonOf_23, KX10_commonOf_23, rd145, rd146, rd147, rd148, rd149, rd150, rd151, rd152, rd153, rd154, rd155, rd156, rd157, rd158, rd159, rd160, rd161, rd162, rd163, rd164, rd165, rd166, rd167, rd168, rd169, rd170, rd171, rd172, rd173, rd174, rd175, rd176, rd177, rd178, rd179, rd180, rd181, rd182, rd183, rd184, rd185, rd145_0, rd145_2, rd145_3, rd145_4, rd145_5, rd145_6, rd145_7, rd156_0, rd156_1, rd166_0, rd178_0, f1, f2, nI_leE, nI_ltE, nI_eqE, nI_m1, c0a, c0b, c0c, c0d, c0e, c1a, c1b, c1c, c1d, c1e, c2a, c2b, c2c, c2d, c2e, c3a, c3b, c3c, c3d, c3e, c4a, c4b, c4c, c4d, c4e, c5a, c5b, c5c, c5d, c5e, c6a, c6b, c6c, c6d, c6e, c7a, c7b, c7c, c7d, c7e, c8a, c8b, c8c, c8d, c8e, c9a, c9b, c9c, c9d, c9e, c10a, c10b, c10c, c10d, c10e, c12a, c12b, c12c, c12d, c12e, c14a, c14b, c14c, c14d, c14e, c16a, c16b, c16c, c16d, c16e, c20a, c20b, c20c, c20d, c20e, c30a, c30b, c30c, c30d, c30e, c32a, c32b, c32c, c32d, c32e, c36a, c36b, c36c, c36d, c36e, c40a, c40b, c40c, c40d, c40e, c41a, c41b, c41c, c41d, c41e, c42a, c42b, c42c, c42d, c42e, c43a, c43b, c43c, c43d, c43e, c45a, c45b, c45c, c45d, c45e, c47a, c47b, c47c, c47d, c47e, c48a, c48b, c48c, c48d, c48e, c57a, c57b, c57c, c57d, c57e, c59a, c59b, c59c, c59d, c59e, c60a, c60b, c60c, c60d, c60e, c61a, c61b, c61c, c61d, c61e, c62a, c62b, c62c, c62d, c62e, c64a, c64b, c64c, c64d, c64e, c96a, c96b, c96c, c96d, c96e, c97a, c97b, c97c, c97d, c97e, c98a, c98b, c98c, c98d, c98e, c99a, c99b, c99c, c99d, c99e, c100a, c100b, c100c, c100d, c100e, c122a, c122b, c122c, c122d, c122e, c700a, c700b, c700c, c700d, c700e, c4240a, c4240b, c4240c, c4240d, c4240e, c9999a, c9999b, c9999c, c9999d, c9999e, c100000a, c100000b, c100000c, c100000d, c100000e, c1000000a, c1000000b, c1000000c, c1000000d, c1000000e, if_T, bd_s, bv_s, bt_s, bt_x, vl_s, pf_s, ri_s, rz_0, rz_1, tri_s, trz_0, trz_1, trx_s, pz_0, pz_1, nI_add, pk_mul, up_at, la2, la5, la6, la8, la14, la62, la64, la98, la700, ra1, ra2, ra6, ra8, ra12, ra20, ra36, ra48, lm6, lm8, lm10, lm100, lm106, rm6, rm8, rm10, rm100, rm106]
      exact ok_some ⟨hU.1 nb (Nat.le_refl _), hU.2⟩
    · intro k i U hi hU ih
      obtain ⟨u1, u2⟩ := hU
      have f1 : U 147 a = nI na := by rw [u2 147 (by decide)]; exact e1
      simp (disch := omega) only [LX10_commonOf_23, KX10_commonOf_23, rd145, rd146, rd147, rd148, rd149, rd150, rd151, rd152, rd153, rd154, rd155, rd156, rd157, rd158, rd159, rd160, rd161, rd162, rd163, rd164, rd165, rd166, rd167, rd168, rd169, rd170, rd171, rd172, rd173, rd174, rd175, rd176, rd177, rd178, rd179, rd180, rd181, rd182, rd183, rd184, rd185, rd145_0, rd145_2, rd145_3, rd145_4, rd145_5, rd145_6, rd145_7, rd156_0, rd156_1, rd166_0, rd178_0, f1, nI_leE, nI_ltE, nI_eqE, nI_m1, c0a, c0b, c0c, c0d, c0e, c1a, c1b, c1c, c1d, c1e, c2a, c2b, c2c, c2d, c2e, c3a, c3b, c3c, c3d, c3e, c4a, c4b, c4c, c4d, c4e, c5a, c5b, c5c, c5d, c5e, c6a, c6b, c6c, c6d, c6e, c7a, c7b, c7c, c7d, c7e, c8a, c8b, c8c, c8d, c8e, c9a, c9b, c9c, c9d, c9e, c10a, c10b, c10c, c10d, c10e, c12a, c12b, c12c, c12d, c12e, c14a, c14b, c14c, c14d, c14e, c16a, c16b, c16c, c16d, c16e, c20a, c20b, c20c, c20d, c20e, c30a, c30b, c30c, c30d, c30e, c32a, c32b, c32c, c32d, c32e, c36a, c36b, c36c, c36d, c36e, c40a, c40b, c40c, c40d, c40e, c41a, c41b, c41c, c41d, c41e, c42a, c42b, c42c, c42d, c42e, c43a, c43b, c43c, c43d, c43e, c45a, c45b, c45c, c45d, c45e, c47a, c47b, c47c, c47d, c47e, c48a, c48b, c48c, c48d, c48e, c57a, c57b, c57c, c57d, c57e, c59a, c59b, c59c, c59d, c59e, c60a, c60b, c60c, c60d, c60e, c61a, c61b, c61c, c61d, c61e, c62a, c62b, c62c, c62d, c62e, c64a, c64b, c64c, c64d, c64e, c96a, c96b, c96c, c96d, c96e, c97a, c97b, c97c, c97d, c97e, c98a, c98b, c98c, c98d, c98e, c99a, c99b, c99c, c99d, c99e, c100a, c100b, c100c, c100d, c100e, c122a, c122b, c122c, c122d, c122e, c700a, c700b, c700c, c700d, c700e, c4240a, c4240b, c4240c, c4240d, c4240e, c9999a, c9999b, c9999c, c9999d, c9999e, c100000a, c100000b, c100000c, c100000d, c100000e, c1000000a, c1000000b, c1000000c, c1000000d, c1000000e, if_F]
      have start : ∀ (X : St), ok (LX10_commonOf_39 (LX10_commonOf_23 k) FU (nI a) (nI b) (nI i) 0 (nI (0 + 1)) X) (fun q => q.1 = nI (lcR P na nb) ∧ ∀ c, c ≠ 170 → q.2 c = S c) → ok (LX10_commonOf_39 (LX10_commonOf_23 k) FU (nI a) (nI b) (nI i) 0 1 X) (fun q => q.1 = nI (lcR P na nb) ∧ ∀ c, c ≠ 170 → q.2 c = S c) := fun X h => h
      apply start
      refine ok_for (σ := Int32 × St) (fun m j W => LX10_commonOf_39 (LX10_commonOf_23 k) m (nI a) (nI b) (nI i) W.1 (nI (j + 1)) W.2) _ (fun j W => W.1 = nI (lcR P i j) ∧ (∀ q, q ≤ nb → W.2 170 q = nI (if q ≤ j then lcR P (i + 1) q else lcR P i q)) ∧ ∀ c, c ≠ 170 → W.2 c = S c) nb ?_ ?_ FU 0 (0, U) (by omega) (by unfold FU; omega) ⟨by rw [lcR_0]; rfl, fun q hq => ?_, u2⟩
      · intro m W hW
        have f2 : W.2 147 b = nI nb := by rw [hW.2.2 147 (by decide)]; exact e2
        simp (disch := omega) only [LX10_commonOf_39, KX10_commonOf_39, rd145, rd146, rd147, rd148, rd149, rd150, rd151, rd152, rd153, rd154, rd155, rd156, rd157, rd158, rd159, rd160, rd161, rd162, rd163, rd164, rd165, rd166, rd167, rd168, rd169, rd170, rd171, rd172, rd173, rd174, rd175, rd176, rd177, rd178, rd179, rd180, rd181, rd182, rd183, rd184, rd185, rd145_0, rd145_2, rd145_3, rd145_4, rd145_5, rd145_6, rd145_7, rd156_0, rd156_1, rd166_0, rd178_0, f2, nI_leE, nI_ltE, nI_eqE, nI_m1, c0a, c0b, c0c, c0d, c0e, c1a, c1b, c1c, c1d, c1e, c2a, c2b, c2c, c2d, c2e, c3a, c3b, c3c, c3d, c3e, c4a, c4b, c4c, c4d, c4e, c5a, c5b, c5c, c5d, c5e, c6a, c6b, c6c, c6d, c6e, c7a, c7b, c7c, c7d, c7e, c8a, c8b, c8c, c8d, c8e, c9a, c9b, c9c, c9d, c9e, c10a, c10b, c10c, c10d, c10e, c12a, c12b, c12c, c12d, c12e, c14a, c14b, c14c, c14d, c14e, c16a, c16b, c16c, c16d, c16e, c20a, c20b, c20c, c20d, c20e, c30a, c30b, c30c, c30d, c30e, c32a, c32b, c32c, c32d, c32e, c36a, c36b, c36c, c36d, c36e, c40a, c40b, c40c, c40d, c40e, c41a, c41b, c41c, c41d, c41e, c42a, c42b, c42c, c42d, c42e, c43a, c43b, c43c, c43d, c43e, c45a, c45b, c45c, c45d, c45e, c47a, c47b, c47c, c47d, c47e, c48a, c48b, c48c, c48d, c48e, c57a, c57b, c57c, c57d, c57e, c59a, c59b, c59c, c59d, c59e, c60a, c60b, c60c, c60d, c60e, c61a, c61b, c61c, c61d, c61e, c62a, c62b, c62c, c62d, c62e, c64a, c64b, c64c, c64d, c64e, c96a, c96b, c96c, c96d, c96e, c97a, c97b, c97c, c97d, c97e, c98a, c98b, c98c, c98d, c98e, c99a, c99b, c99c, c99d, c99e, c100a, c100b, c100c, c100d, c100e, c122a, c122b, c122c, c122d, c122e, c700a, c700b, c700c, c700d, c700e, c4240a, c4240b, c4240c, c4240d, c4240e, c9999a, c9999b, c9999c, c9999d, c9999e, c100000a, c100000b, c100000c, c100000d, c100000e, c1000000a, c1000000b, c1000000c, c1000000d, c1000000e, if_T, bd_s, bv_s, bt_s, bt_x, vl_s, pf_s, ri_s, rz_0, rz_1, tri_s, trz_0, trz_1, trx_s, pz_0, pz_1, nI_add, pk_mul, up_at, la2, la5, la6, la8, la14, la62, la64, la98, la700, ra1, ra2, ra6, ra8, ra12, ra20, ra36, ra48, lm6, lm8, lm10, lm100, lm106, rm6, rm8, rm10, rm100, rm106]
        refine ih _ ⟨fun j hj => by rw [hW.2.1 j hj, if_pos hj], hW.2.2⟩
      · intro m j W hj hW ih2
        obtain ⟨w1, w2, w3⟩ := hW
        have f2 : W.2 147 b = nI nb := by rw [w3 147 (by decide)]; exact e2
        have d1 := lcR_le (P := P) i j
        have d2 := lcR_le (P := P) i (j + 1)
        have d3 := lcR_le (P := P) (i + 1) j
        have x1 : W.2 170 (j + 1) = nI (lcR P i (j + 1)) := by rw [w2 _ (by omega), if_neg (by omega)]
        have x2 : W.2 170 j = nI (lcR P (i + 1) j) := by rw [w2 _ (by omega), if_pos (Nat.le_refl _)]
        have c3 : W.2 148 = S 148 := w3 _ (by omega)
        have ix1 : nI (6 * b + (j + 1)) - 1 = nI (6 * b + j) := nI_pred (6 * b + j)
        have ix2 : nI (j + 1) - 1 = nI j := nI_pred j
        have nxt : ∀ y, y = lcR P (i + 1) (j + 1) → ok (LX10_commonOf_39 (LX10_commonOf_23 k) m (nI a) (nI b) (nI i) (nI (lcR P i (j + 1))) (nI (j + 1 + 1)) (up W.2 170 (j + 1) (nI y))) (fun q => q.1 = nI (lcR P na nb) ∧ ∀ c, c ≠ 170 → q.2 c = S c) := by
          intro y hy
          refine ih2 (_, _) ⟨rfl, fun q hq => ?_, fun c hc => by show up W.2 170 (j + 1) (nI y) c = S c; rw [up_ne hc]; exact w3 c hc⟩
          show up W.2 170 (j + 1) (nI y) 170 q = _
          rw [up_2]
          by_cases e : q = j + 1
          · subst e; rw [if_pos ⟨rfl, rfl⟩, if_pos (Nat.le_refl _), hy]
          · rw [if_neg (fun z => e z.2), w2 q hq]
            by_cases e2 : q ≤ j
            · rw [if_pos e2, if_pos (by omega)]
            · rw [if_neg e2, if_neg (by omega)]
        have hPij := hP i j hi hj
        simp (disch := omega) only [LX10_commonOf_39, KX10_commonOf_39, rd145, rd146, rd147, rd148, rd149, rd150, rd151, rd152, rd153, rd154, rd155, rd156, rd157, rd158, rd159, rd160, rd161, rd162, rd163, rd164, rd165, rd166, rd167, rd168, rd169, rd170, rd171, rd172, rd173, rd174, rd175, rd176, rd177, rd178, rd179, rd180, rd181, rd182, rd183, rd184, rd185, rd145_0, rd145_2, rd145_3, rd145_4, rd145_5, rd145_6, rd145_7, rd156_0, rd156_1, rd166_0, rd178_0, f2, nI_leE, nI_ltE, nI_eqE, nI_m1, c0a, c0b, c0c, c0d, c0e, c1a, c1b, c1c, c1d, c1e, c2a, c2b, c2c, c2d, c2e, c3a, c3b, c3c, c3d, c3e, c4a, c4b, c4c, c4d, c4e, c5a, c5b, c5c, c5d, c5e, c6a, c6b, c6c, c6d, c6e, c7a, c7b, c7c, c7d, c7e, c8a, c8b, c8c, c8d, c8e, c9a, c9b, c9c, c9d, c9e, c10a, c10b, c10c, c10d, c10e, c12a, c12b, c12c, c12d, c12e, c14a, c14b, c14c, c14d, c14e, c16a, c16b, c16c, c16d, c16e, c20a, c20b, c20c, c20d, c20e, c30a, c30b, c30c, c30d, c30e, c32a, c32b, c32c, c32d, c32e, c36a, c36b, c36c, c36d, c36e, c40a, c40b, c40c, c40d, c40e, c41a, c41b, c41c, c41d, c41e, c42a, c42b, c42c, c42d, c42e, c43a, c43b, c43c, c43d, c43e, c45a, c45b, c45c, c45d, c45e, c47a, c47b, c47c, c47d, c47e, c48a, c48b, c48c, c48d, c48e, c57a, c57b, c57c, c57d, c57e, c59a, c59b, c59c, c59d, c59e, c60a, c60b, c60c, c60d, c60e, c61a, c61b, c61c, c61d, c61e, c62a, c62b, c62c, c62d, c62e, c64a, c64b, c64c, c64d, c64e, c96a, c96b, c96c, c96d, c96e, c97a, c97b, c97c, c97d, c97e, c98a, c98b, c98c, c98d, c98e, c99a, c99b, c99c, c99d, c99e, c100a, c100b, c100c, c100d, c100e, c122a, c122b, c122c, c122d, c122e, c700a, c700b, c700c, c700d, c700e, c4240a, c4240b, c4240c, c4240d, c4240e, c9999a, c9999b, c9999c, c9999d, c9999e, c100000a, c100000b, c100000c, c100000d, c100000e, c1000000a, c1000000b, c1000000c, c1000000d, c1000000e, if_F, bd_s, bv_s, bt_s, bt_x, vl_s, pf_s, ri_s, rz_0, rz_1, tri_s, trz_0, trz_1, trx_s, pz_0, pz_1, nI_add, pk_mul, up_at, la2, la5, la6, la8, la14, la62, la64, la98, la700, ra1, ra2, ra6, ra8, ra12, ra20, ra36, ra48, lm6, lm8, lm10, lm100, lm106, rm6, rm8, rm10, rm100, rm106, ix1, ix2, x1, c3, BX10_commonOf_119, x2, w1, wr145, wr146, wr147, wr148, wr149, wr150, wr151, wr152, wr153, wr154, wr155, wr156, wr157, wr158, wr159, wr160, wr161, wr162, wr163, wr164, wr165, wr166, wr167, wr168, wr169, wr170, wr171, wr172, wr173, wr174, wr175, wr176, wr177, wr178, wr179, wr180, wr181, wr182, wr183, wr184, wr185, wr145_5, wr145_6, wr145_7, wr156_0, wr156_1, wr165_0, wr165_1, wr165_2, wr165_3, wr165_4]
        by_cases c : S 148 (6 * a + i) = S 148 (6 * b + j)
        · rw [if_pos c]
          refine nxt _ ?_
          show _ = if P i j then lcR P i j + 1 else _
          rw [hPij, if_pos (by simpa using c)]
        · rw [if_neg c]
          have hy : (if lcR P i (j + 1) < lcR P (i + 1) j then nI (lcR P (i + 1) j) else nI (lcR P i (j + 1))) = nI (if lcR P i (j + 1) < lcR P (i + 1) j then lcR P (i + 1) j else lcR P i (j + 1)) := by split <;> rfl
          rw [hy]
          refine nxt _ ?_
          have pf : P i j = false := by rw [hPij]; simpa using c
          show _ = if P i j then lcR P i j + 1 else if lcR P i (j + 1) < lcR P (i + 1) j then lcR P (i + 1) j else lcR P i (j + 1)
          rw [pf]
          rfl
      · show U 170 q = _
        rw [u1 q hq]
        by_cases e : q ≤ 0
        · have : q = 0 := by omega
          subst this
          rw [if_pos (Nat.le_refl _), lcR_0, lcR_0]
        · rw [if_neg e]
  · intro k i T hi hI ih
    simp (disch := omega) only [LX10_commonOf_2, KX10_commonOf_2, nI_leE, nI_ltE, nI_eqE, nI_m1, c0a, c0b, c0c, c0d, c0e, c1a, c1b, c1c, c1d, c1e, c2a, c2b, c2c, c2d, c2e, c3a, c3b, c3c, c3d, c3e, c4a, c4b, c4c, c4d, c4e, c5a, c5b, c5c, c5d, c5e, c6a, c6b, c6c, c6d, c6e, c7a, c7b, c7c, c7d, c7e, c8a, c8b, c8c, c8d, c8e, c9a, c9b, c9c, c9d, c9e, c10a, c10b, c10c, c10d, c10e, c12a, c12b, c12c, c12d, c12e, c14a, c14b, c14c, c14d, c14e, c16a, c16b, c16c, c16d, c16e, c20a, c20b, c20c, c20d, c20e, c30a, c30b, c30c, c30d, c30e, c32a, c32b, c32c, c32d, c32e, c36a, c36b, c36c, c36d, c36e, c40a, c40b, c40c, c40d, c40e, c41a, c41b, c41c, c41d, c41e, c42a, c42b, c42c, c42d, c42e, c43a, c43b, c43c, c43d, c43e, c45a, c45b, c45c, c45d, c45e, c47a, c47b, c47c, c47d, c47e, c48a, c48b, c48c, c48d, c48e, c57a, c57b, c57c, c57d, c57e, c59a, c59b, c59c, c59d, c59e, c60a, c60b, c60c, c60d, c60e, c61a, c61b, c61c, c61d, c61e, c62a, c62b, c62c, c62d, c62e, c64a, c64b, c64c, c64d, c64e, c96a, c96b, c96c, c96d, c96e, c97a, c97b, c97c, c97d, c97e, c98a, c98b, c98c, c98d, c98e, c99a, c99b, c99c, c99d, c99e, c100a, c100b, c100c, c100d, c100e, c122a, c122b, c122c, c122d, c122e, c700a, c700b, c700c, c700d, c700e, c4240a, c4240b, c4240c, c4240d, c4240e, c9999a, c9999b, c9999c, c9999d, c9999e, c100000a, c100000b, c100000c, c100000d, c100000e, c1000000a, c1000000b, c1000000c, c1000000d, c1000000e, if_F, wr145, wr146, wr147, wr148, wr149, wr150, wr151, wr152, wr153, wr154, wr155, wr156, wr157, wr158, wr159, wr160, wr161, wr162, wr163, wr164, wr165, wr166, wr167, wr168, wr169, wr170, wr171, wr172, wr173, wr174, wr175, wr176, wr177, wr178, wr179, wr180, wr181, wr182, wr183, wr184, wr185, wr145_5, wr145_6, wr145_7, wr156_0, wr156_1, wr165_0, wr165_1, wr165_2, wr165_3, wr165_4, bd_s, bv_s, bt_s, bt_x, vl_s, pf_s, ri_s, rz_0, rz_1, tri_s, trz_0, trz_1, trx_s, pz_0, pz_1, nI_add, pk_mul, up_at, la2, la5, la6, la8, la14, la62, la64, la98, la700, ra1, ra2, ra6, ra8, ra12, ra20, ra36, ra48, lm6, lm8, lm10, lm100, lm106, rm6, rm8, rm10, rm100, rm106]
    refine ih _ ⟨fun j hj => ?_, fun c hc => by rw [up_ne hc]; exact hI.2 c hc⟩
    rw [up_2]
    split
    · rfl
    · exact hI.1 j (by omega)
theorem A_common {nX : Int32} (a1 a2 : Int32) : Agr nX (fX9_common a1 a2) (fX10_common a1 a2) := by
  refine look (fun S V v d hR => ?_)
  have hV := hR.vk
  have hF8 := hV.1
  have hv := hR.hv
  rcases arg a1 (n := vF V) (by omega) with ⟨a, ha, rfl⟩ | h1
  · rcases arg a2 (n := vF V) (by omega) with ⟨b, hb, rfl⟩ | h2
    · obtain ⟨na, n6, en, ei⟩ := hR.X.2.1 a ha
      obtain ⟨nb, m6, em, ej⟩ := hR.X.2.1 b hb
      obtain ⟨⟨x, S1⟩, e1, p1, p2⟩ := C_common hR.C ha hb en em n6 m6
      refine ⟨.inl x, ?_, fun T hT => ?_⟩
      · unfold fX9_common
        rw [C_nF_t hR ha, bt_s, C_nF_t hR hb, bt_s, gm_v hR.2.1 hv, e1, bd_s]
        exact ok_some ⟨rfl, fun c h1 h2 h3 h4 h5 => p2 c (by omega)⟩
      · have hM0 : VM V (up T 142 3 0) := (hR.c hT).M.go (fun a ha => up_ne (by omega))
        have e148 : up T 142 3 0 148 = S 148 := by rw [up_ne (by decide), hT.at 148 (by decide) (by decide) (by decide) (by decide) (by decide)]
        obtain ⟨⟨y, T1⟩, e2, q1, q2⟩ := M_common (P := fun i j => decide (S (v + 3) (a * 6 + i) = S (v + 3) (b * 6 + j))) hM0 ha hb en em n6 m6 (fun i j hi hj => by rw [e148, ei i hi, ej j hj])
        have q2' : ∀ c, c ≠ 170 → T1 c = up T 142 3 0 c := q2
        unfold fX10_common
        rw [pf_s, M_isF_t hM0 ha, bd_s, if_neg (by decide), M_isF_t hM0 hb, bd_s, if_neg (by decide), e2, bd_s]
        refine ok_some ⟨mK0.tr ⟨by rw [mr_cell (S := up T 142 3 0) (fun a ha => q2' a (by omega))]; exact ag.rf, fun c hc => q2' c (by omega), fun j hj => by show T1 142 j = _; rw [q2' 142 (by decide)]⟩, ?_, ?_⟩
        · show T1 142 3 = 0
          rw [q2' 142 (by decide), up_at]
        · show y = x
          rw [show y = _ from q1, show x = _ from p1]
    · refine ⟨.inr 1, ?_, fun T hT => ?_⟩
      · unfold fX9_common
        rw [C_nF_t hR ha, bt_s, C_nF_f hR h2, bt_x]
        exact ok_some ⟨rfl, cK.rf⟩
      · have hM0 : VM V (up T 142 3 0) := (hR.c hT).M.go (fun a ha => up_ne (by omega))
        unfold fX10_common BX10_common_30
        rw [pf_s, M_isF_t hM0 ha, bd_s, if_neg (by decide), M_isF_f hM0 h2, bd_s, if_pos rfl, m_fail]
        exact ok_some ⟨mKx, Or.inl ⟨rfl, rfl⟩⟩
  · refine ⟨.inr 1, ?_, fun T hT => ?_⟩
    · unfold fX9_common
      rw [C_nF_f hR h1, bt_x]
      exact ok_some ⟨rfl, cK.rf⟩
    · unfold fX10_common BX10_common_30
      rw [pf_s, M_isF_f ((hR.c hT).M.go (fun a ha => up_ne (by omega))) h1, bd_s, if_pos rfl, m_fail]
      exact ok_some ⟨mKx, Or.inl ⟨rfl, rfl⟩⟩
