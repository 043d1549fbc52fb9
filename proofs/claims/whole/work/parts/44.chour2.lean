/-! the class: who treads, who hears, what is paid -/
theorem C_would {V : Vy} {v hm : Nat} {S : St} (hc : Cs V v hm S) {s t : Nat} (hs : s < vS' V) (ht : t < vF V) : fX0_wouldTrespass (nI s) (nI t) S = some (if tre V (S 131) s t then 1 else 0, S) := by
  obtain ⟨hC, h0, hr, hm9, hp⟩ := hc
  have hS6 := hC.1.2.1
  have hF8 := hC.1.1
  have hE := hp s hs
  unfold fX0_wouldTrespass tre
  simp (disch := omega) only [bd_s, bv_s, bt_s, bt_x, vl_s, pf_s, ri_s, rz_0, rz_1, tri_s, trz_0, trz_1, trx_s, pz_0, pz_1, nI_add, pk_mul, up_at, la2, la5, la6, la8, la14, la62, la64, la98, la700, ra1, ra2, ra6, ra8, ra12, ra20, ra36, ra48, lm6, lm8, lm10, lm100, lm106, rm6, rm8, rm10, rm100, rm106, rd131, rd132, rd133, rd134, rd135, rd136, rd131_0, rd131_1, rd131_8, hE]
  by_cases c1 : nI t = pl V (S 131) s
  · simp [c1, rz_0]
  · by_cases c2 : S 131 (14 + s * 8 + t) = 0
    · by_cases c3 : S 131 (98 + t) = -1
      · simp [c1, c2, c3, rz_0]
      · by_cases c4 : S 131 (98 + t) = nI s
        · simp [c1, c2, c4, rz_0]
        · simp [c1, c2, c3, c4, rz_1]
    · simp [c1, c2, rz_0]
theorem C_spread {V : Vy} {v hm : Nat} {S : St} (hc : Cs V v hm S) {a t : Nat} {but : Int32} (ha : a < vF V) (ht : t < vF V) : ok (fX0_spread (nI a) (nI t) but S) (fun q => q.1 = nI (hearN V (S 131) a but) ∧ q.2 131 = spr V (S 131) a but (nI t) ∧ ∀ b, b ≠ 131 → q.2 b = S b) := by
  obtain ⟨hC, h0, hr, hm9, hp⟩ := hc
  have hv := hC.2.1
  have hV := hC.1
  have hS6 := hV.2.1
  have hF8 := hV.1
  have h2 := hC.2.2.2.1
  have hN := hC.2.2.2.2.2.1
  unfold fX0_spread
  simp (disch := omega) only [gm_v h0 hv, srv3, srv4, srv5, srv6, srv7, srv8, srv9, srv10, srv11, srv12, srv13, rdv1, rdv2, rdv3, rdv4, rdv5, rdv6, rdv7, rdv8, rdv9, rdv10, rdv12, rdv14, bd_s, bv_s, bt_s, bt_x, vl_s, pf_s, ri_s, rz_0, rz_1, tri_s, trz_0, trz_1, trx_s, pz_0, pz_1, nI_add, pk_mul, up_at, la2, la5, la6, la8, la14, la62, la64, la98, la700, ra1, ra2, ra6, ra8, ra12, ra20, ra36, ra48, lm6, lm8, lm10, lm100, lm106, rm6, rm8, rm10, rm100, rm106]
  generalize hnr : (S (v + 4) a ||| ((1 : Int32) <<< (nI a &&& 31))) = near
  have hnr2 : ∀ b, b < vF V → bit near (nI b) = vN V a b := fun b hb => by rw [← hnr]; exact hN a b ha hb
  refine ok_for (σ := Int32 × St) (fun n i T => LX0_spread_21 n (nI t) but near T.1 (nI i) T.2) _ (fun i T => T.1 = nI (cnt (hears V (S 131) a but) i) ∧ (∀ j, T.2 131 j = if 2 ≤ j ∧ j < 2 + i ∧ hears V (S 131) a but (j - 2) = true then S 131 j ||| pw (nI t) else S 131 j) ∧ ∀ b, b ≠ 131 → T.2 b = S b) (vS' V) ?_ ?_ FU 0 (0, S) (by omega) (by unfold FU; omega) ⟨rfl, fun j => by rw [if_neg (by omega)], fun _ _ => rfl⟩
  · intro n T hI
    obtain ⟨i1, i2, i3⟩ := hI
    have e0 : T.2 130 0 = nI v := by rw [i3 130 (by decide)]; exact h0
    have e2 : T.2 v 2 = nI (vS' V) := by rw [i3 v (by omega)]; exact h2
    simp (disch := omega) only [LX0_spread_21, KX0_spread_21, gm_v e0 hv, e2, nI_leE, nI_ltE, nI_eqE, nI_m1, c0a, c0b, c0c, c0d, c0e, c1a, c1b, c1c, c1d, c1e, c2a, c2b, c2c, c2d, c2e, c3a, c3b, c3c, c3d, c3e, c4a, c4b, c4c, c4d, c4e, c5a, c5b, c5c, c5d, c5e, c6a, c6b, c6c, c6d, c6e, c7a, c7b, c7c, c7d, c7e, c8a, c8b, c8c, c8d, c8e, c9a, c9b, c9c, c9d, c9e, c10a, c10b, c10c, c10d, c10e, c12a, c12b, c12c, c12d, c12e, c14a, c14b, c14c, c14d, c14e, c16a, c16b, c16c, c16d, c16e, c20a, c20b, c20c, c20d, c20e, c30a, c30b, c30c, c30d, c30e, c32a, c32b, c32c, c32d, c32e, c36a, c36b, c36c, c36d, c36e, c40a, c40b, c40c, c40d, c40e, c41a, c41b, c41c, c41d, c41e, c42a, c42b, c42c, c42d, c42e, c43a, c43b, c43c, c43d, c43e, c45a, c45b, c45c, c45d, c45e, c47a, c47b, c47c, c47d, c47e, c48a, c48b, c48c, c48d, c48e, c57a, c57b, c57c, c57d, c57e, c59a, c59b, c59c, c59d, c59e, c60a, c60b, c60c, c60d, c60e, c61a, c61b, c61c, c61d, c61e, c62a, c62b, c62c, c62d, c62e, c64a, c64b, c64c, c64d, c64e, c96a, c96b, c96c, c96d, c96e, c97a, c97b, c97c, c97d, c97e, c98a, c98b, c98c, c98d, c98e, c99a, c99b, c99c, c99d, c99e, c100a, c100b, c100c, c100d, c100e, c122a, c122b, c122c, c122d, c122e, c700a, c700b, c700c, c700d, c700e, c4240a, c4240b, c4240c, c4240d, c4240e, c9999a, c9999b, c9999c, c9999d, c9999e, c100000a, c100000b, c100000c, c100000d, c100000e, c1000000a, c1000000b, c1000000c, c1000000d, c1000000e, if_T, ri_s]
    refine ok_some ⟨i1, ?_, i3⟩
    funext j
    show T.2 131 j = _
    rw [i2 j]; rfl
  · intro n i T hi hI ih
    obtain ⟨i1, i2, i3⟩ := hI
    have e0 : T.2 130 0 = nI v := by rw [i3 130 (by decide)]; exact h0
    have e2 : T.2 v 2 = nI (vS' V) := by rw [i3 v (by omega)]; exact h2
    obtain ⟨f, hf, ef, ef2⟩ := pl_ok hr hV hm9 hi
    have e3 : T.2 132 i = nI f := by rw [i3 132 (by decide), hp i hi, ef]
    have hh : hears V (S 131) a but i = (decide (¬ nI i = but) && bit near (nI f)) := by unfold hears; rw [ef2, hnr2 f hf]
    simp (disch := omega) only [LX0_spread_21, KX0_spread_21, gm_v e0 hv, e2, nI_leE, nI_ltE, nI_eqE, nI_m1, c0a, c0b, c0c, c0d, c0e, c1a, c1b, c1c, c1d, c1e, c2a, c2b, c2c, c2d, c2e, c3a, c3b, c3c, c3d, c3e, c4a, c4b, c4c, c4d, c4e, c5a, c5b, c5c, c5d, c5e, c6a, c6b, c6c, c6d, c6e, c7a, c7b, c7c, c7d, c7e, c8a, c8b, c8c, c8d, c8e, c9a, c9b, c9c, c9d, c9e, c10a, c10b, c10c, c10d, c10e, c12a, c12b, c12c, c12d, c12e, c14a, c14b, c14c, c14d, c14e, c16a, c16b, c16c, c16d, c16e, c20a, c20b, c20c, c20d, c20e, c30a, c30b, c30c, c30d, c30e, c32a, c32b, c32c, c32d, c32e, c36a, c36b, c36c, c36d, c36e, c40a, c40b, c40c, c40d, c40e, c41a, c41b, c41c, c41d, c41e, c42a, c42b, c42c, c42d, c42e, c43a, c43b, c43c, c43d, c43e, c45a, c45b, c45c, c45d, c45e, c47a, c47b, c47c, c47d, c47e, c48a, c48b, c48c, c48d, c48e, c57a, c57b, c57c, c57d, c57e, c59a, c59b, c59c, c59d, c59e, c60a, c60b, c60c, c60d, c60e, c61a, c61b, c61c, c61d, c61e, c62a, c62b, c62c, c62d, c62e, c64a, c64b, c64c, c64d, c64e, c96a, c96b, c96c, c96d, c96e, c97a, c97b, c97c, c97d, c97e, c98a, c98b, c98c, c98d, c98e, c99a, c99b, c99c, c99d, c99e, c100a, c100b, c100c, c100d, c100e, c122a, c122b, c122c, c122d, c122e, c700a, c700b, c700c, c700d, c700e, c4240a, c4240b, c4240c, c4240d, c4240e, c9999a, c9999b, c9999c, c9999d, c9999e, c100000a, c100000b, c100000c, c100000d, c100000e, c1000000a, c1000000b, c1000000c, c1000000d, c1000000e, if_F, BX0_spread_72, bd_s, bv_s, bt_s, bt_x, vl_s, pf_s, ri_s, rz_0, rz_1, tri_s, trz_0, trz_1, trx_s, pz_0, pz_1, nI_add, pk_mul, up_at, la2, la5, la6, la8, la14, la62, la64, la98, la700, ra1, ra2, ra6, ra8, ra12, ra20, ra36, ra48, lm6, lm8, lm10, lm100, lm106, rm6, rm8, rm10, rm100, rm106]
    by_cases c : nI i = but
    · rw [if_pos c]
      have hh2 : hears V (S 131) a but i = false := by rw [hh]; simp [c]
      refine ih (T.1, T.2) ⟨?_, fun j => ?_, i3⟩
      · show T.1 = nI (cnt _ i + if hears V (S 131) a but i then 1 else 0)
        rw [hh2, i1]; rfl
      · rw [i2 j]
        by_cases q : j = 2 + i
        · subst q
          rw [if_neg (by omega), if_neg]
          rw [Nat.add_sub_cancel_left, hh2]
          simp
        · have : (2 ≤ j ∧ j < 2 + i ∧ hears V (S 131) a but (j - 2) = true) ↔ (2 ≤ j ∧ j < 2 + (i + 1) ∧ hears V (S 131) a but (j - 2) = true) := ⟨fun z => ⟨z.1, by omega, z.2.2⟩, fun z => ⟨z.1, by omega, z.2.2⟩⟩
          simp only [this]
    · rw [if_neg c]
      simp (disch := omega) only [rd131, rd132, rd133, rd134, rd135, rd136, rd131_0, rd131_1, rd131_8, e3]
      by_cases d : ((near >>> (nI f &&& 31)) &&& 1) = 0
      · rw [if_pos d]
        have hh2 : hears V (S 131) a but i = false := by rw [hh, bit_f d]; simp
        refine ih (T.1, T.2) ⟨?_, fun j => ?_, i3⟩
        · show T.1 = nI (cnt _ i + if hears V (S 131) a but i then 1 else 0)
          rw [hh2, i1]; rfl
        · rw [i2 j]
          by_cases q : j = 2 + i
          · subst q
            rw [if_neg (by omega), if_neg]
            rw [Nat.add_sub_cancel_left, hh2]
            simp
          · have : (2 ≤ j ∧ j < 2 + i ∧ hears V (S 131) a but (j - 2) = true) ↔ (2 ≤ j ∧ j < 2 + (i + 1) ∧ hears V (S 131) a but (j - 2) = true) := ⟨fun z => ⟨z.1, by omega, z.2.2⟩, fun z => ⟨z.1, by omega, z.2.2⟩⟩
            simp only [this]
      · rw [if_neg d]
        have hh2 : hears V (S 131) a but i = true := by rw [hh, bit_t d]; simp [c]
        simp (disch := omega) only [rd131, rd132, rd133, rd134, rd135, rd136, rd131_0, rd131_1, rd131_8, wr131, wr132, wr133, wr134, wr135, wr136, wr131_0, wr131_1, wr136_0, wr136_1, wr136_2, wr136_3, wr136_4]
        refine ih (T.1 + 1, _) ⟨?_, fun j => ?_, fun b hb => ?_⟩
        · show T.1 + 1 = nI (cnt _ i + if hears V (S 131) a but i then 1 else 0)
          rw [hh2, i1, nI_1]; rfl
        · show up T.2 131 (2 + i) _ 131 j = _
          rw [up_2]
          by_cases q : j = 2 + i
          · subst q
            rw [if_pos ⟨rfl, rfl⟩, i2 (2 + i), if_neg (by omega), if_pos ⟨by omega, by omega, by rw [Nat.add_sub_cancel_left, hh2]⟩]
            rfl
          · rw [if_neg (fun z => q z.2), i2 j]
            have : (2 ≤ j ∧ j < 2 + i ∧ hears V (S 131) a but (j - 2) = true) ↔ (2 ≤ j ∧ j < 2 + (i + 1) ∧ hears V (S 131) a but (j - 2) = true) := ⟨fun z => ⟨z.1, by omega, z.2.2⟩, fun z => ⟨z.1, by omega, z.2.2⟩⟩
            simp only [this]
        · show up T.2 131 (2 + i) _ b = S b
          rw [up_ne hb]; exact i3 b hb
theorem C_fine126 {x : Int32} {S : St} : BX0_fineOf_126 x S = some (clp x, S) := rfl
theorem C_fineOf {V : Vy} {v hm : Nat} {S : St} (hc : Cs V v hm S) {s t n : Nat} (hs : s < vS' V) (ht : t < vF V) : ok (fX0_fineOf (nI s) (nI t) (nI n) S) (fun q => q.1 = fin V (S 131) s t n ∧ ∀ a, a ≠ 136 → a ≠ v + 14 → q.2 a = S a) := by
  obtain ⟨hC, h0, hr, hm9, hp⟩ := hc
  have hv := hC.2.1
  have hV := hC.1
  have hS6 := hV.2.1
  have hF8 := hV.1
  obtain ⟨f, hf, ef, ef2⟩ := pl_ok hr hV hm9 hs
  have hE : S 132 s = nI f := by rw [hp s hs, ef]
  have hD := hC.2.2.2.2.2.2.1 f t hf ht
  obtain ⟨hA, hTn⟩ := hC.2.2.2.2.2.2.2.1 t ht
  have hH := hC.2.2.2.2.2.2.2.2.2
  have key : ∀ x : Int32, x = vD V f t → ok (BX0_fineOf_35 (nI s) (nI t) (nI n) x S) (fun q => q.1 = fin V (S 131) s t n ∧ ∀ a, a ≠ 136 → a ≠ v + 14 → q.2 a = S a) := by
    intro x hx
    unfold BX0_fineOf_35 fin
    rw [ef2]
    cases hg : vH V with
    | none =>
      rw [hg] at hH
      have hG2 : S (v + 13) 0 = 0 := hH
      simp (disch := omega) only [bd_s, bv_s, bt_s, bt_x, vl_s, pf_s, ri_s, rz_0, rz_1, tri_s, trz_0, trz_1, trx_s, pz_0, pz_1, nI_add, pk_mul, up_at, la2, la5, la6, la8, la14, la62, la64, la98, la700, ra1, ra2, ra6, ra8, ra12, ra20, ra36, ra48, lm6, lm8, lm10, lm100, lm106, rm6, rm8, rm10, rm100, rm106, gm_v h0 hv, srv3, srv4, srv5, srv6, srv7, srv8, srv9, srv10, srv11, srv12, srv13, hG2]
      rw [if_pos trivial, C_fine126]
      exact ok_some ⟨by rw [hx], fun _ _ _ => rfl⟩
    | some g =>
      rw [hg] at hH
      obtain ⟨hG2, hg5, hRC⟩ := hH
      generalize hT : up (up (up (up (up S 136 0 x) 136 1 (S (v + 1) t)) 136 2 (S (v + 2) t)) 136 3 (nI n)) 136 4 (S 131 (8 + s)) = T
      have hT1 : ∀ a, a ≠ 136 → T a = S a := fun a ha => by subst hT; simp only [up_ne ha]
      obtain ⟨T2, e2, hT2⟩ := hRC T (hT1 _ (by omega)) (hT1 _ (by omega))
      have hT3 : ∀ a, a ≠ 136 → a ≠ v + 14 → T2 a = S a := fun a h1 h2 => by rw [hT2 a h2, hT1 a h1]
      have hvals : g (T 136) = g (row5 (vD V f t) (vA V t) (vT V t) (nI n) (S 131 (8 + s))) := by
        apply hg5
        intro i hi
        rw [← hx, ← hA, ← hTn, ← hT]
        simp only [up_row]
        exact row5_upd i hi
      have u1 : up S 136 0 x 130 0 = nI v := by rw [up_ne (by decide)]; exact h0
      have u2 : up (up S 136 0 x) 136 1 (S (v + 1) t) 130 0 = nI v := by rw [up_ne (by decide), up_ne (by decide)]; exact h0
      have u3 : T 130 0 = nI v := by rw [hT1 130 (by decide)]; exact h0
      simp (disch := omega) only [bd_s, bv_s, bt_s, bt_x, vl_s, pf_s, ri_s, rz_0, rz_1, tri_s, trz_0, trz_1, trx_s, pz_0, pz_1, nI_add, pk_mul, up_at, la2, la5, la6, la8, la14, la62, la64, la98, la700, ra1, ra2, ra6, ra8, ra12, ra20, ra36, ra48, lm6, lm8, lm10, lm100, lm106, rm6, rm8, rm10, rm100, rm106, gm_v h0 hv, srv3, srv4, srv5, srv6, srv7, srv8, srv9, srv10, srv11, srv12, srv13, hG2, if_F, wr131, wr132, wr133, wr134, wr135, wr136, wr131_0, wr131_1, wr136_0, wr136_1, wr136_2, wr136_3, wr136_4, gm_v u1 hv, rdv1, rdv2, rdv3, rdv4, rdv5, rdv6, rdv7, rdv8, rdv9, rdv10, rdv12, rdv14, up_ne, gm_v u2 hv, rd131, rd132, rd133, rd134, rd135, rd136, rd131_0, rd131_1, rd131_8, hT, gm_v u3 hv, e2, C_fine126]
      exact ok_some ⟨by rw [hvals], hT3⟩
  unfold fX0_fineOf
  simp (disch := omega) only [bd_s, bv_s, bt_s, bt_x, vl_s, pf_s, ri_s, rz_0, rz_1, tri_s, trz_0, trz_1, trx_s, pz_0, pz_1, nI_add, pk_mul, up_at, la2, la5, la6, la8, la14, la62, la64, la98, la700, ra1, ra2, ra6, ra8, ra12, ra20, ra36, ra48, lm6, lm8, lm10, lm100, lm106, rm6, rm8, rm10, rm100, rm106, gm_v h0 hv, srv3, srv4, srv5, srv6, srv7, srv8, srv9, srv10, srv11, srv12, srv13, rd131, rd132, rd133, rd134, rd135, rd136, rd131_0, rd131_1, rd131_8, hE, rdv1, rdv2, rdv3, rdv4, rdv5, rdv6, rdv7, rdv8, rdv9, rdv10, rdv12, rdv14]
  by_cases c : S (v + 5) (f * 8 + t) < 1000000
  · rw [if_pos c] at hD ⊢
    exact key _ hD
  · rw [if_neg c] at hD ⊢
    exact key _ hD
theorem Cs.go {V : Vy} {v hm : Nat} {S S' : St} (hc : Cs V v hm S) (hf : ∀ a, a < 130 ∨ 136 < a → a ≠ v + 12 → a ≠ v + 14 → S' a = S a) (h0 : S' 130 = S 130) (h1 : ROk V hm (S' 131)) (hi : ∀ i, i = 0 ∨ 62 ≤ i → S' 131 i = S 131 i) (h2 : S' 132 = S 132) : Cs V v hm S' := by
  obtain ⟨hC, g0, hr, hm9, hp⟩ := hc
  have hv := hC.2.1
  exact ⟨hC.go (fun a a1 a2 a3 => hf a (by omega) a3 (by omega)), by rw [h0]; exact g0, h1, hm9, fun s hs => by rw [h2, hp s hs, pl_congr hi]⟩
theorem C_letSing {V : Vy} {v hm : Nat} {S : St} (hc : Cs V v hm S) {s t : Nat} (hs : s < vS' V) (ht : t < vF V) : ok (fX0_letSing (nI s) (nI t) S) (fun S' => S' 131 = snT V (S 131) s t ∧ (∀ i, S' 134 i = if tre V (S 131) s t ∧ i = s then S 134 i + 1 else S 134 i) ∧ (∀ i, S' 135 i = if tre V (S 131) s t ∧ i = t then S 135 i + 1 else S 135 i) ∧ ∀ a, a ≠ 131 → a ≠ 134 → a ≠ 135 → a ≠ 136 → a ≠ v + 14 → S' a = S a) := by
  have hc0 := hc
  obtain ⟨hC, h0, hr, hm9, hp⟩ := hc
  have hv := hC.2.1
  have hV := hC.1
  have hS6 := hV.2.1
  have hF8 := hV.1
  obtain ⟨f, hf, ef, ef2⟩ := pl_ok hr hV hm9 hs
  have hE : S 132 s = nI f := by rw [hp s hs, ef]
  obtain ⟨⟨x3, S1⟩, e1, q1, q2, q3⟩ := C_spread hc0 (a := f) (t := t) (but := nI s) hf ht
  have q1' : x3 = nI (hearN V (S 131) f (nI s)) := q1
  have q2' : S1 131 = spr V (S 131) f (nI s) (nI t) := q2
  have q3' : ∀ b, b ≠ 131 → S1 b = S b := q3
  have hok : ROk V hm (S1 131) := by rw [q2']; exact spr_ok hr hV ht
  have hoff : ∀ i, i < 2 ∨ 2 + vS' V ≤ i → S1 131 i = S 131 i := fun i hi => by rw [q2', spr_off hi]
  have hc1 : Cs V v hm S1 := hc0.go (fun a h1 h2 h3 => q3' a (by omega)) (q3' 130 (by decide)) hok (fun i hi => hoff i (by omega)) (q3' 132 (by decide))
  have ew := C_would hc1 hs ht
  have et : tre V (S1 131) s t = tre V (S 131) s t := by rw [q2', tre_spr hS6]
  rw [et] at ew
  have hE1 : S1 132 s = nI f := by rw [q3' 132 (by decide)]; exact hE
  unfold fX0_letSing
  simp (disch := omega) only [bd_s, bv_s, bt_s, bt_x, vl_s, pf_s, ri_s, rz_0, rz_1, tri_s, trz_0, trz_1, trx_s, pz_0, pz_1, nI_add, pk_mul, up_at, la2, la5, la6, la8, la14, la62, la64, la98, la700, ra1, ra2, ra6, ra8, ra12, ra20, ra36, ra48, lm6, lm8, lm10, lm100, lm106, rm6, rm8, rm10, rm100, rm106, rd131, rd132, rd133, rd134, rd135, rd136, rd131_0, rd131_1, rd131_8, hE, e1, ew]
  cases htr : tre V (S 131) s t with
  | false =>
    simp only [Bool.false_eq_true, if_false, if_true]
    simp (disch := omega) only [rd131, rd132, rd133, rd134, rd135, rd136, rd131_0, rd131_1, rd131_8, hE1, nI_leE, nI_ltE, nI_eqE, nI_m1, c0a, c0b, c0c, c0d, c0e, c1a, c1b, c1c, c1d, c1e, c2a, c2b, c2c, c2d, c2e, c3a, c3b, c3c, c3d, c3e, c4a, c4b, c4c, c4d, c4e, c5a, c5b, c5c, c5d, c5e, c6a, c6b, c6c, c6d, c6e, c7a, c7b, c7c, c7d, c7e, c8a, c8b, c8c, c8d, c8e, c9a, c9b, c9c, c9d, c9e, c10a, c10b, c10c, c10d, c10e, c12a, c12b, c12c, c12d, c12e, c14a, c14b, c14c, c14d, c14e, c16a, c16b, c16c, c16d, c16e, c20a, c20b, c20c, c20d, c20e, c30a, c30b, c30c, c30d, c30e, c32a, c32b, c32c, c32d, c32e, c36a, c36b, c36c, c36d, c36e, c40a, c40b, c40c, c40d, c40e, c41a, c41b, c41c, c41d, c41e, c42a, c42b, c42c, c42d, c42e, c43a, c43b, c43c, c43d, c43e, c45a, c45b, c45c, c45d, c45e, c47a, c47b, c47c, c47d, c47e, c48a, c48b, c48c, c48d, c48e, c57a, c57b, c57c, c57d, c57e, c59a, c59b, c59c, c59d, c59e, c60a, c60b, c60c, c60d, c60e, c61a, c61b, c61c, c61d, c61e, c62a, c62b, c62c, c62d, c62e, c64a, c64b, c64c, c64d, c64e, c96a, c96b, c96c, c96d, c96e, c97a, c97b, c97c, c97d, c97e, c98a, c98b, c98c, c98d, c98e, c99a, c99b, c99c, c99d, c99e, c100a, c100b, c100c, c100d, c100e, c122a, c122b, c122c, c122d, c122e, c700a, c700b, c700c, c700d, c700e, c4240a, c4240b, c4240c, c4240d, c4240e, c9999a, c9999b, c9999c, c9999d, c9999e, c100000a, c100000b, c100000c, c100000d, c100000e, c1000000a, c1000000b, c1000000c, c1000000d, c1000000e, bd_s, bv_s, bt_s, bt_x, vl_s, pf_s, ri_s, rz_0, rz_1, tri_s, trz_0, trz_1, trx_s, pz_0, pz_1, nI_add, pk_mul, up_at, la2, la5, la6, la8, la14, la62, la64, la98, la700, ra1, ra2, ra6, ra8, ra12, ra20, ra36, ra48, lm6, lm8, lm10, lm100, lm106, rm6, rm8, rm10, rm100, rm106]
    have base : ∀ r' : Rw, (∀ i, 2 ≤ i → i < 2 + vS' V → r' i = S 131 i) → (r' 0 = S 131 0) → (∀ i, 62 ≤ i → r' i = S 131 i) → ∀ T : St, (∀ j, T j = if j = 131 then fun i => if 2 ≤ i ∧ i < 2 + vS' V then S1 131 i else r' i else S1 j) → T 131 = spr V r' f (nI s) (nI t) ∧ (∀ i, T 134 i = if false = true ∧ i = s then S 134 i + 1 else S 134 i) ∧ (∀ i, T 135 i = if false = true ∧ i = t then S 135 i + 1 else S 135 i) ∧ ∀ a, a ≠ 131 → a ≠ 134 → a ≠ 135 → a ≠ 136 → a ≠ v + 14 → T a = S a := by
      intro r' k1 k2 k3 T hT
      refine ⟨?_, fun i => ?_, fun i => ?_, fun a a1 a2 a3 a4 a5 => ?_⟩
      · rw [hT 131, if_pos rfl]
        funext j
        rw [spr_cm (r := S 131) k2 k3 k1 j, q2']
      · rw [hT 134, if_neg (by decide), q3' 134 (by decide)]; simp
      · rw [hT 135, if_neg (by decide), q3' 135 (by decide)]; simp
      · rw [hT a, if_neg a1, q3' a a1]
    have same : ∀ T : St, T = S1 → ∀ j, T j = if j = 131 then fun i => if 2 ≤ i ∧ i < 2 + vS' V then S1 131 i else S 131 i else S1 j := by
      intro T hT j
      subst hT
      split
      · subst_vars
        funext i
        split
        · rfl
        · exact hoff i (by omega)
      · rfl
    unfold snT
    rw [htr, ef2, ef]
    simp only [Bool.false_eq_true, if_false]
    by_cases c : t = f
    · subst c
      rw [if_pos rfl, if_pos rfl]
      exact ok_some (base (S 131) (fun _ _ _ => rfl) rfl (fun _ _ => rfl) S1 (same S1 rfl))
    · have hne : ¬ nI t = nI f := by rw [nI_eq (by omega) (by omega)]; exact c
      have hS1 := hoff (14 + s * 8 + t) (by omega)
      simp only [if_neg c, if_neg hne, hS1]
      by_cases d : S 131 (14 + s * 8 + t) ≤ 0
      · simp only [if_pos d]
        exact ok_some (base (S 131) (fun _ _ _ => rfl) rfl (fun _ _ => rfl) S1 (same S1 rfl))
      · simp only [if_neg d]
        simp (disch := omega) only [wr131, wr132, wr133, wr134, wr135, wr136, wr131_0, wr131_1, wr136_0, wr136_1, wr136_2, wr136_3, wr136_4]
        refine ok_some (base (upd (S 131) (14 + s * 8 + t) (S 131 (14 + s * 8 + t) - 1)) (fun i a b => upd_ne (by omega)) (upd_ne (by omega)) (fun i a => upd_ne (by omega)) _ (fun j => ?_))
        by_cases q : j = 131
        · subst q
          rw [if_pos rfl, up_row]
          funext i
          unfold upd
          by_cases e : i = 14 + s * 8 + t
          · rw [if_pos e, if_neg (by omega), if_pos e]
          · rw [if_neg e]
            split
            · rfl
            · exact hoff i (by omega)
        · rw [if_neg q, up_ne q]
  | true =>
    simp only [if_true]
    have ho : ∃ o, o < vS' V ∧ S 131 (98 + t) = nI o ∧ ownN (S 131) t = o := by
      rcases own_ok hr hV ht with ⟨e, -⟩ | h
      · unfold tre at htr; simp [e] at htr
      · exact h
    obtain ⟨o, ho1, ho2, ho3⟩ := ho
    obtain ⟨⟨x15, S2⟩, e2, p1, p2⟩ := C_fineOf hc1 (n := hearN V (S 131) f (nI s)) hs ht
    have p1' : x15 = fin V (S 131) s t (hearN V (S 131) f (nI s)) := by rw [show x15 = _ from p1, q2', fin_spr hS6]
    have p2' : ∀ a, a ≠ 136 → a ≠ v + 14 → S2 a = S1 a := p2
    have k131 : S2 131 = S1 131 := p2' 131 (by decide) (by omega)
    have k134 : S2 134 = S 134 := by rw [p2' 134 (by decide) (by omega), q3' 134 (by decide)]
    have k135 : S2 135 = S 135 := by rw [p2' 135 (by decide) (by omega), q3' 135 (by decide)]
    rw [if_neg (by decide), q1', e2]
    have ho2' : S2 131 (98 + t) = nI o := by rw [k131, hoff _ (by omega)]; exact ho2
    simp (disch := omega) only [bd_s, bv_s, bt_s, bt_x, vl_s, pf_s, ri_s, rz_0, rz_1, tri_s, trz_0, trz_1, trx_s, pz_0, pz_1, nI_add, pk_mul, up_at, la2, la5, la6, la8, la14, la62, la64, la98, la700, ra1, ra2, ra6, ra8, ra12, ra20, ra36, ra48, lm6, lm8, lm10, lm100, lm106, rm6, rm8, rm10, rm100, rm106, rd131, rd132, rd133, rd134, rd135, rd136, rd131_0, rd131_1, rd131_8, ho2', wr131, wr132, wr133, wr134, wr135, wr136, wr131_0, wr131_1, wr136_0, wr136_1, wr136_2, wr136_3, wr136_4, up_ne]
    refine ok_some ⟨?_, fun i => ?_, fun i => ?_, fun a a1 a2 a3 a4 a5 => ?_⟩
    · unfold snT
      rw [htr, ef2, ho3]
      simp (disch := omega) only [if_true, up_ne, up_row]
      funext j
      rw [spr_cm (r := S 131) (pay_off (by omega) (by omega) (by omega)) (fun i hi => pay_off (by omega) (by omega) (by omega)) (fun i h1 h2 => pay_off (by omega) (by omega) (by omega)) j, k131, ← p1']
      by_cases q : 2 ≤ j ∧ j < 2 + vS' V
      · rw [if_pos q, upd_ne (by omega), upd_ne (by omega), upd_ne (by omega), q2']
      · rw [if_neg q]
        unfold pay
        have w8 : S1 131 (8 + s) = S 131 (8 + s) := hoff _ (by omega)
        have w1 : upd (upd (S1 131) (8 + s) (lo9 (S1 131 (8 + s) - x15))) (8 + o) (hi9 (upd (S1 131) (8 + s) (lo9 (S1 131 (8 + s) - x15)) (8 + o) + x15)) 1 = S 131 1 := by
          rw [upd_ne (by omega), upd_ne (by omega)]; exact hoff _ (by omega)
        show upd (upd (upd (S1 131) (8 + s) (lo9 (S1 131 (8 + s) - x15))) (8 + o) (hi9 (upd (S1 131) (8 + s) (lo9 (S1 131 (8 + s) - x15)) (8 + o) + x15))) 1 (upd (upd (S1 131) (8 + s) (lo9 (S1 131 (8 + s) - x15))) (8 + o) (hi9 (upd (S1 131) (8 + s) (lo9 (S1 131 (8 + s) - x15)) (8 + o) + x15)) 1 + 1) j = _
        rw [w1, w8]
        have w3 : upd (S1 131) (8 + s) (lo9 (S 131 (8 + s) - x15)) (8 + o) = upd (S 131) (8 + s) (lo9 (S 131 (8 + s) - x15)) (8 + o) := by
          unfold upd
          split
          · rfl
          · exact hoff _ (by omega)
        rw [w3]
        have hj := hoff j (by omega)
        unfold upd
        split
        · rfl
        · split
          · rfl
          · split
            · rfl
            · exact hj
    · simp (disch := omega) only [up_ne, up_row, true_and, k134]
      unfold upd
      split
      · rename_i q; rw [q]
      · rfl
    · simp (disch := omega) only [up_ne, up_row, true_and, k135]
      unfold upd
      split
      · rename_i q; rw [q]
      · rfl
    · simp (disch := omega) only [up_ne]
      rw [p2' a a4 a5, q3' a a1]
/-- how often one trod by the singer s in so many hours; how often on the tune t -/
def trB (V : Vy) (r : Rw) (s : Nat) : Nat → Nat
  | 0 => 0
  | n + 1 => trB V r s n + if trI V (hrs V r n) s = -1 then 0 else 1
def trT (V : Vy) (r : Rw) (t : Nat) : Nat → Nat
  | 0 => 0
  | n + 1 => trT V r t n + cnt (fun s => decide (trI V (hrs V r n) s = nI t)) (vS' V)
theorem C_goHour {V : Vy} {v hm : Nat} {S : St} (hC : VC V v S) (h0 : S 130 0 = nI v) (hr : ROk V hm (S 131)) (hm9 : hm ≤ 20000) : ok (fX0_goHour S) (fun S' => S' 131 = hr1 V (S 131) ∧ (∀ s, s < vS' V → S' 132 s = pl V (S 131) s) ∧ (∀ s, s < vS' V → S' 133 s = sgI V (S 131) s) ∧ (∀ s, s < vS' V → S' 134 s = S 134 s + (if trI V (S 131) s = -1 then 0 else 1)) ∧ (∀ t, t < vF V → S' 135 t = S 135 t + nI (cnt (fun s => decide (trI V (S 131) s = nI t)) (vS' V))) ∧ S' 130 = S 130 ∧ cFr S S') := by
  have hv := hC.2.1
  have hV := hC.1
  have hS6 := hV.2.1
  have hF8 := hV.1
  have h2 := hC.2.2.2.1
  obtain ⟨S1, e1, p1, p2⟩ := C_findPlaces hC h0 hr hm9
  have k131 : S1 131 = S 131 := p2 131 (by decide)
  unfold fX0_goHour
  rw [e1, bv_s]
  refine ok_for (fun n i T => LX0_goHour_6 n (nI i) T) _ (fun i T => T 131 = sns V (S 131) i ∧ (∀ s, s < vS' V → T 132 s = pl V (S 131) s) ∧ (∀ s, s < i → T 133 s = sgI V (S 131) s) ∧ (∀ s, s < vS' V → T 134 s = S 134 s + (if s < i ∧ ¬ trI V (S 131) s = -1 then 1 else 0)) ∧ (∀ t, t < vF V → T 135 t = S 135 t + nI (cnt (fun s => decide (trI V (S 131) s = nI t)) i)) ∧ T 130 = S 130 ∧ cFr S T) (vS' V) ?_ ?_ FU 0 S1 (by omega) (by unfold FU; omega) ⟨k131, p1, fun s h => absurd h (by omega), fun s hs => ?_, fun t ht => ?_, p2 130 (by decide), fun a h1 h2 h3 h4 h5 => p2 a (by omega)⟩
  · intro n T hI
    obtain ⟨i1, i2, i3, i4, i5, i6, i7⟩ := hI
    have e0 : T 130 0 = nI v := by rw [i6]; exact h0
    have e2 : T v 2 = nI (vS' V) := by rw [i7 v (by omega) (by omega) (by omega) (by omega) (by omega)]; exact h2
    simp (disch := omega) only [LX0_goHour_6, KX0_goHour_6, gm_v e0 hv, e2, nI_leE, nI_ltE, nI_eqE, nI_m1, c0a, c0b, c0c, c0d, c0e, c1a, c1b, c1c, c1d, c1e, c2a, c2b, c2c, c2d, c2e, c3a, c3b, c3c, c3d, c3e, c4a, c4b, c4c, c4d, c4e, c5a, c5b, c5c, c5d, c5e, c6a, c6b, c6c, c6d, c6e, c7a, c7b, c7c, c7d, c7e, c8a, c8b, c8c, c8d, c8e, c9a, c9b, c9c, c9d, c9e, c10a, c10b, c10c, c10d, c10e, c12a, c12b, c12c, c12d, c12e, c14a, c14b, c14c, c14d, c14e, c16a, c16b, c16c, c16d, c16e, c20a, c20b, c20c, c20d, c20e, c30a, c30b, c30c, c30d, c30e, c32a, c32b, c32c, c32d, c32e, c36a, c36b, c36c, c36d, c36e, c40a, c40b, c40c, c40d, c40e, c41a, c41b, c41c, c41d, c41e, c42a, c42b, c42c, c42d, c42e, c43a, c43b, c43c, c43d, c43e, c45a, c45b, c45c, c45d, c45e, c47a, c47b, c47c, c47d, c47e, c48a, c48b, c48c, c48d, c48e, c57a, c57b, c57c, c57d, c57e, c59a, c59b, c59c, c59d, c59e, c60a, c60b, c60c, c60d, c60e, c61a, c61b, c61c, c61d, c61e, c62a, c62b, c62c, c62d, c62e, c64a, c64b, c64c, c64d, c64e, c96a, c96b, c96c, c96d, c96e, c97a, c97b, c97c, c97d, c97e, c98a, c98b, c98c, c98d, c98e, c99a, c99b, c99c, c99d, c99e, c100a, c100b, c100c, c100d, c100e, c122a, c122b, c122c, c122d, c122e, c700a, c700b, c700c, c700d, c700e, c4240a, c4240b, c4240c, c4240d, c4240e, c9999a, c9999b, c9999c, c9999d, c9999e, c100000a, c100000b, c100000c, c100000d, c100000e, c1000000a, c1000000b, c1000000c, c1000000d, c1000000e, if_T, bd_s, bv_s, bt_s, bt_x, vl_s, pf_s, ri_s, rz_0, rz_1, tri_s, trz_0, trz_1, trx_s, pz_0, pz_1, nI_add, pk_mul, up_at, la2, la5, la6, la8, la14, la62, la64, la98, la700, ra1, ra2, ra6, ra8, ra12, ra20, ra36, ra48, lm6, lm8, lm10, lm100, lm106, rm6, rm8, rm10, rm100, rm106, rd131, rd132, rd133, rd134, rd135, rd136, rd131_0, rd131_1, rd131_8, wr131, wr132, wr133, wr134, wr135, wr136, wr131_0, wr131_1, wr136_0, wr136_1, wr136_2, wr136_3, wr136_4]
    refine ok_some ⟨?_, fun s hs => ?_, fun s hs => ?_, fun s hs => ?_, fun t ht => ?_, ?_, fun a h1 h2 h3 h4 h5 => ?_⟩
    · rw [up_row, i1]; rfl
    · rw [up_ne (by decide)]; exact i2 s hs
    · rw [up_ne (by decide)]; exact i3 s hs
    · rw [up_ne (by decide), i4 s hs]
      by_cases c : trI V (S 131) s = -1
      · rw [if_pos c, if_neg (fun z => z.2 c)]
      · rw [if_neg c, if_pos ⟨hs, c⟩]
    · rw [up_ne (by decide)]; exact i5 t ht
    · rw [up_ne (by decide)]; exact i6
    · rw [up_ne (by omega)]; exact i7 a h1 h2 h3 h4 h5
  · intro n i T hi hI ih
    obtain ⟨i1, i2, i3, i4, i5, i6, i7⟩ := hI
    obtain ⟨ro, rof⟩ := sns_ok hr hV hm9 i (by omega)
    have e0 : T 130 0 = nI v := by rw [i6]; exact h0
    have e2 : T v 2 = nI (vS' V) := by rw [i7 v (by omega) (by omega) (by omega) (by omega) (by omega)]; exact h2
    have hcT : Cs V v hm T := ⟨hC.fr i7, e0, by rw [i1]; exact ro, hm9, fun s hs => by rw [i2 s hs, i1, pl_congr rof]⟩
    obtain ⟨⟨x6, T1⟩, et, t1, t2⟩ := C_tuneOf hcT hi
    have t1' : x6 = sgI V (S 131) i := by rw [show x6 = _ from t1, i1]; rfl
    have t2' : ∀ a, a ≠ 136 → a ≠ v + 12 → T1 a = T a := t2
    simp (disch := omega) only [LX0_goHour_6, KX0_goHour_6, gm_v e0 hv, e2, nI_leE, nI_ltE, nI_eqE, nI_m1, c0a, c0b, c0c, c0d, c0e, c1a, c1b, c1c, c1d, c1e, c2a, c2b, c2c, c2d, c2e, c3a, c3b, c3c, c3d, c3e, c4a, c4b, c4c, c4d, c4e, c5a, c5b, c5c, c5d, c5e, c6a, c6b, c6c, c6d, c6e, c7a, c7b, c7c, c7d, c7e, c8a, c8b, c8c, c8d, c8e, c9a, c9b, c9c, c9d, c9e, c10a, c10b, c10c, c10d, c10e, c12a, c12b, c12c, c12d, c12e, c14a, c14b, c14c, c14d, c14e, c16a, c16b, c16c, c16d, c16e, c20a, c20b, c20c, c20d, c20e, c30a, c30b, c30c, c30d, c30e, c32a, c32b, c32c, c32d, c32e, c36a, c36b, c36c, c36d, c36e, c40a, c40b, c40c, c40d, c40e, c41a, c41b, c41c, c41d, c41e, c42a, c42b, c42c, c42d, c42e, c43a, c43b, c43c, c43d, c43e, c45a, c45b, c45c, c45d, c45e, c47a, c47b, c47c, c47d, c47e, c48a, c48b, c48c, c48d, c48e, c57a, c57b, c57c, c57d, c57e, c59a, c59b, c59c, c59d, c59e, c60a, c60b, c60c, c60d, c60e, c61a, c61b, c61c, c61d, c61e, c62a, c62b, c62c, c62d, c62e, c64a, c64b, c64c, c64d, c64e, c96a, c96b, c96c, c96d, c96e, c97a, c97b, c97c, c97d, c97e, c98a, c98b, c98c, c98d, c98e, c99a, c99b, c99c, c99d, c99e, c100a, c100b, c100c, c100d, c100e, c122a, c122b, c122c, c122d, c122e, c700a, c700b, c700c, c700d, c700e, c4240a, c4240b, c4240c, c4240d, c4240e, c9999a, c9999b, c9999c, c9999d, c9999e, c100000a, c100000b, c100000c, c100000d, c100000e, c1000000a, c1000000b, c1000000c, c1000000d, c1000000e, if_F, et, bd_s, bv_s, bt_s, bt_x, vl_s, pf_s, ri_s, rz_0, rz_1, tri_s, trz_0, trz_1, trx_s, pz_0, pz_1, nI_add, pk_mul, up_at, la2, la5, la6, la8, la14, la62, la64, la98, la700, ra1, ra2, ra6, ra8, ra12, ra20, ra36, ra48, lm6, lm8, lm10, lm100, lm106, rm6, rm8, rm10, rm100, rm106, rd131, rd132, rd133, rd134, rd135, rd136, rd131_0, rd131_1, rd131_8, wr131, wr132, wr133, wr134, wr135, wr136, wr131_0, wr131_1, wr136_0, wr136_1, wr136_2, wr136_3, wr136_4, BX0_goHour_49]
    have hcT2 : Cs V v hm (up T1 133 i x6) := hcT.go (fun a h1 h2 h3 => by rw [up_ne (by omega)]; exact t2' a (by omega) h2) (by rw [up_ne (by decide)]; exact t2' 130 (by decide) (by omega)) (by rw [up_ne (by decide), t2' 131 (by decide) (by omega), i1]; exact ro) (fun j hj => by rw [up_ne (by decide), t2' 131 (by decide) (by omega)]) (by rw [up_ne (by decide)]; exact t2' 132 (by decide) (by omega))
    have r131 : up T1 133 i x6 131 = sns V (S 131) i := by rw [up_ne (by decide), t2' 131 (by decide) (by omega), i1]
    have s132 : ∀ s, s < vS' V → up T1 133 i x6 132 s = pl V (S 131) s := fun s hs => by rw [up_ne (by decide), t2' 132 (by decide) (by omega)]; exact i2 s hs
    have s133 : ∀ s, s < i + 1 → up T1 133 i x6 133 s = sgI V (S 131) s := fun s hs => by
      rw [up_2]
      split
      · rename_i q; rw [q.2]; exact t1'
      · rw [t2' 133 (by decide) (by omega)]; exact i3 s (by omega)
    have s134 : up T1 133 i x6 134 = T 134 := by rw [up_ne (by decide), t2' 134 (by decide) (by omega)]
    have s135 : up T1 133 i x6 135 = T 135 := by rw [up_ne (by decide), t2' 135 (by decide) (by omega)]
    have s130 : up T1 133 i x6 130 = S 130 := by rw [up_ne (by decide), t2' 130 (by decide) (by omega)]; exact i6
    have sfr : cFr S (up T1 133 i x6) := fun a h1 h2 h3 h4 h5 => by rw [up_ne (by omega), t2' a (by omega) (by omega)]; exact i7 a h1 h2 h3 h4 h5
    have sg : tuI V (sns V (S 131) i) i = x6 := t1'.symm
    rcases tuI_ok ro hV hm9 hi with hn | ⟨t, ht, ee, ee2, -⟩
    · have hx : x6 = -1 := by rw [← sg]; exact hn
      have trn : trI V (S 131) i = -1 := by unfold trI; rw [← t1', if_pos hx]
      rw [if_pos hx]
      refine ih _ ⟨?_, s132, s133, fun s hs => ?_, fun t ht => ?_, s130, sfr⟩
      · rw [r131]
        show _ = sn V (sns V (S 131) i) i
        unfold sn
        rw [if_pos hn]
      · rw [s134, i4 s hs]
        by_cases c : s = i
        · subst c
          rw [if_neg (by omega), if_neg (fun z => z.2 trn)]
        · have : (s < i ∧ ¬ trI V (S 131) s = -1) ↔ (s < i + 1 ∧ ¬ trI V (S 131) s = -1) := ⟨fun z => ⟨by omega, z.2⟩, fun z => ⟨by omega, z.2⟩⟩
          simp only [this]
      · rw [s135, i5 t ht]
        show _ = S 135 t + nI (cnt _ i + if decide (trI V (S 131) i = nI t) = true then 1 else 0)
        rw [if_neg (by rw [trn, decide_eq_true_eq]; exact fun z => nI_ne_m1 (n := t) (by omega) z.symm)]
        rfl
    · have hx : x6 = nI t := by rw [← sg]; exact ee
      have hxn : ¬ nI t = -1 := nI_ne_m1 (by omega)
      rw [hx, if_neg hxn]
      rw [hx] at hcT2 r131 s132 s133 s134 s135 s130 sfr
      obtain ⟨T2, el, l1, l2, l3, l4⟩ := C_letSing hcT2 hi ht
      rw [el, bv_s]
      have trn : trI V (S 131) i = if tre V (sns V (S 131) i) i t then nI t else -1 := by unfold trI; rw [← t1', hx, if_neg hxn, nI_clamp (by omega)]
      refine ih _ ⟨?_, fun s hs => ?_, fun s hs => ?_, fun s hs => ?_, fun q hq => ?_, ?_, fun a h1 h2 h3 h4 h5 => ?_⟩
      · rw [l1, r131]
        show _ = sn V (sns V (S 131) i) i
        unfold sn
        rw [ee2, if_neg (by rw [ee]; exact hxn)]
      · rw [l4 132 (by decide) (by decide) (by decide) (by decide) (by omega)]; exact s132 s hs
      · rw [l4 133 (by decide) (by decide) (by decide) (by decide) (by omega)]; exact s133 s hs
      · rw [l2 s, s134, i4 s hs, r131]
        by_cases c : s = i
        · subst c
          rw [if_neg (show ¬ (s < s ∧ ¬ trI V (S 131) s = -1) by omega)]
          cases hq : tre V (sns V (S 131) s) s t with
          | true =>
            rw [hq] at trn
            rw [if_pos ⟨rfl, rfl⟩, if_pos ⟨by omega, by rw [trn]; exact hxn⟩]
            simp
          | false =>
            rw [hq] at trn
            rw [if_neg (by simp), if_neg (by rw [trn]; simp)]
        · rw [if_neg (fun z => c z.2)]
          have : (s < i ∧ ¬ trI V (S 131) s = -1) ↔ (s < i + 1 ∧ ¬ trI V (S 131) s = -1) := ⟨fun z => ⟨by omega, z.2⟩, fun z => ⟨by omega, z.2⟩⟩
          simp only [this]
      · rw [l3 q, s135, i5 q hq, r131]
        show _ = S 135 q + nI (cnt _ i + if decide (trI V (S 131) i = nI q) = true then 1 else 0)
        rw [trn]
        cases hz : tre V (sns V (S 131) i) i t with
        | true =>
          by_cases c : q = t
          · subst c
            rw [if_pos ⟨rfl, rfl⟩, if_pos (by simp), Int32.add_assoc, nI_1]
          · rw [if_neg (fun z => c z.2), if_neg (by simp; rw [nI_eq (by omega) (by omega)]; omega)]
            rfl
        | false =>
          rw [if_neg (by simp), if_neg (by simp; exact fun z => nI_ne_m1 (n := q) (by omega) z.symm)]
          rfl
      · rw [l4 130 (by decide) (by decide) (by decide) (by decide) (by omega)]; exact s130
      · rw [l4 a (by omega) (by omega) (by omega) (by omega) (by omega)]; exact sfr a h1 h2 h3 h4 h5
  · rw [if_neg (by omega), p2 134 (by decide)]; simp
  · rw [p2 135 (by decide)]; show _ = S 135 t + nI 0; rw [nI_0]; simp
