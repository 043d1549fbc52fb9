/-! the class's hour -/
def RC (rid cd st : Nat) (g : Gf) (S : St) : Prop := ∀ S' : St, S' rid = S rid → S' cd = S cd → ∃ S'', fX3_answer rid 136 S' = some (g (S' 136), S'') ∧ ∀ a, a ≠ st → S'' a = S' a
def g5 (g : Gf) : Prop := ∀ w w' : Rw, (∀ i, i < 5 → w i = w' i) → g w = g w'
def VG (g : Option Gf) (rid cd st : Nat) (S : St) : Prop := match g with
  | none => S rid 0 = 0
  | some g => ¬ S rid 0 = 0 ∧ g5 g ∧ RC rid cd st g S
def VC (V : Vy) (v : Nat) (S : St) : Prop :=
  VOk V ∧ (v = 2 ∨ v = 17) ∧ S v 0 = nI (vF V) ∧ S v 2 = nI (vS' V) ∧ (∀ s, s < vS' V → S (v + 6) s = nI (vW V s)) ∧
  (∀ a b, a < vF V → b < vF V → bit (S (v + 4) a ||| pw (nI a)) (nI b) = vN V a b) ∧
  (∀ a b, a < vF V → b < vF V → (if S (v + 5) (a * 8 + b) < 1000000 then S (v + 5) (a * 8 + b) else 99) = vD V a b) ∧
  (∀ t, t < vF V → S (v + 1) t = vA V t ∧ S (v + 2) t = vT V t) ∧ VG (vG V) (v + 11) (v + 10) (v + 12) S ∧ VG (vH V) (v + 13) (v + 10) (v + 14) S
theorem VG.go {g : Option Gf} {rid cd st : Nat} {S S' : St} (h : VG g rid cd st S) (h1 : S' rid = S rid) (h2 : S' cd = S cd) : VG g rid cd st S' := by
  cases g with
  | none => unfold VG at h ⊢; rw [h1]; exact h
  | some g => unfold VG at h ⊢; exact ⟨by rw [h1]; exact h.1, h.2.1, fun T a b => h.2.2 T (by rw [a, h1]) (by rw [b, h2])⟩
theorem VC.go {V : Vy} {v : Nat} {S S' : St} (h : VC V v S) (hk : ∀ a, v ≤ a → a ≤ v + 13 → a ≠ v + 12 → S' a = S a) : VC V v S' := by
  obtain ⟨h0, hv, h1, h2, h3, h4, h5, h6, h7, h8⟩ := h
  have e0 := hk v (by omega) (by omega) (by omega)
  have e6 := hk (v + 6) (by omega) (by omega) (by omega)
  have e4 := hk (v + 4) (by omega) (by omega) (by omega)
  have e5 := hk (v + 5) (by omega) (by omega) (by omega)
  have e1 := hk (v + 1) (by omega) (by omega) (by omega)
  have e2 := hk (v + 2) (by omega) (by omega) (by omega)
  exact ⟨h0, hv, by rw [e0]; exact h1, by rw [e0]; exact h2, by rw [e6]; exact h3, by rw [e4]; exact h4, by rw [e5]; exact h5, by rw [e1, e2]; exact h6, h7.go (hk _ (by omega) (by omega) (by omega)) (hk _ (by omega) (by omega) (by omega)), h8.go (hk _ (by omega) (by omega) (by omega)) (hk _ (by omega) (by omega) (by omega))⟩
/-- what an hour's course may touch -/
abbrev cFr (S S' : St) : Prop := ∀ a, (a < 130 ∨ 136 < a) → a ≠ 14 → a ≠ 16 → a ≠ 29 → a ≠ 31 → S' a = S a
theorem VC.fr {V : Vy} {v : Nat} {S S' : St} (h : VC V v S) (hf : cFr S S') : VC V v S' := by
  have hv := h.2.1
  exact h.go (fun a h1 h2 h3 => hf a (by omega) (by omega) (by omega) (by omega) (by omega))
/-! places -/
theorem C_placeOf {V : Vy} {hm : Nat} {v a1 : Nat} {S : St} (hC : VC V v S) (hr : ROk V hm (S a1)) (hm9 : hm ≤ 20000) (hl : ln a1 = 106) {s : Nat} (hs : s < vS' V) : fX8_placeOf v a1 (nI s) S = some (pl V (S a1) s, S) := by
  obtain ⟨hV, hv, h1, h2, h3, -⟩ := hC
  obtain ⟨w0, w6⟩ := hV.2.2.1 s hs
  have hS6 := hV.2.1
  obtain ⟨⟨h, hh, e0⟩, -⟩ := hr
  have hmod := Nat.mod_lt h w0
  unfold fX8_placeOf
  simp (disch := omega) only [bd_s, bv_s, bt_s, bt_x, vl_s, pf_s, ri_s, rz_0, rz_1, tri_s, trz_0, trz_1, trx_s, pz_0, pz_1, nI_add, pk_mul, up_at, la2, la5, la6, la8, la14, la62, la64, la98, la700, ra1, ra2, ra6, ra8, ra12, ra20, ra36, ra48, lm6, lm8, lm10, lm100, lm106, rm6, rm8, rm10, rm100, rm106, srv3, srv4, srv5, srv6, srv7, srv8, srv9, srv10, srv11, srv12, srv13, rdv1, rdv2, rdv3, rdv4, rdv5, rdv6, rdv7, rdv8, rdv9, rdv10, rdv12, rdv14, nI_leE, nI_ltE, nI_eqE, nI_m1, c0a, c0b, c0c, c0d, c0e, c1a, c1b, c1c, c1d, c1e, c2a, c2b, c2c, c2d, c2e, c3a, c3b, c3c, c3d, c3e, c4a, c4b, c4c, c4d, c4e, c5a, c5b, c5c, c5d, c5e, c6a, c6b, c6c, c6d, c6e, c7a, c7b, c7c, c7d, c7e, c8a, c8b, c8c, c8d, c8e, c9a, c9b, c9c, c9d, c9e, c10a, c10b, c10c, c10d, c10e, c12a, c12b, c12c, c12d, c12e, c14a, c14b, c14c, c14d, c14e, c16a, c16b, c16c, c16d, c16e, c20a, c20b, c20c, c20d, c20e, c30a, c30b, c30c, c30d, c30e, c32a, c32b, c32c, c32d, c32e, c36a, c36b, c36c, c36d, c36e, c40a, c40b, c40c, c40d, c40e, c41a, c41b, c41c, c41d, c41e, c42a, c42b, c42c, c42d, c42e, c43a, c43b, c43c, c43d, c43e, c45a, c45b, c45c, c45d, c45e, c47a, c47b, c47c, c47d, c47e, c48a, c48b, c48c, c48d, c48e, c57a, c57b, c57c, c57d, c57e, c59a, c59b, c59c, c59d, c59e, c60a, c60b, c60c, c60d, c60e, c61a, c61b, c61c, c61d, c61e, c62a, c62b, c62c, c62d, c62e, c64a, c64b, c64c, c64d, c64e, c96a, c96b, c96c, c96d, c96e, c97a, c97b, c97c, c97d, c97e, c98a, c98b, c98c, c98d, c98e, c99a, c99b, c99c, c99d, c99e, c100a, c100b, c100c, c100d, c100e, c122a, c122b, c122c, c122d, c122e, c700a, c700b, c700c, c700d, c700e, c4240a, c4240b, c4240c, c4240d, c4240e, c9999a, c9999b, c9999c, c9999d, c9999e, c100000a, c100000b, c100000c, c100000d, c100000e, c1000000a, c1000000b, c1000000c, c1000000d, c1000000e, h3, if_T]
  rw [show (0 : Int32) = nI 0 from rfl, rd_g (by omega), e0, rm_n (by omega) (by omega) (by omega)]
  simp (disch := omega) only [bd_s, bv_s, bt_s, bt_x, vl_s, pf_s, ri_s, rz_0, rz_1, tri_s, trz_0, trz_1, trx_s, pz_0, pz_1, nI_add, pk_mul, up_at, la2, la5, la6, la8, la14, la62, la64, la98, la700, ra1, ra2, ra6, ra8, ra12, ra20, ra36, ra48, lm6, lm8, lm10, lm100, lm106, rm6, rm8, rm10, rm100, rm106]
  rw [rd_g (by omega)]
  unfold pl
  rw [e0, nI_clamp (by omega)]
theorem C_fill {a : Nat} {x : Int32} {S : St} : ok (fJ7_fill_53178 a x S) (fun S' => (∀ i, i < ln a → S' a i = x) ∧ ∀ b, b ≠ a → S' b = S b) := by
  have hl := ln_lt a
  unfold fJ7_fill_53178
  refine ok_for (fun n i T => LJ7_fill_53178_5 n a x (nI i) (nI (ln a)) T) _ (fun i T => (∀ j, j < i → T a j = x) ∧ ∀ b, b ≠ a → T b = S b) (ln a) ?_ ?_ FU 0 S (by omega) hl ⟨fun j h => absurd h (by omega), fun _ _ => rfl⟩
  · intro n T hI
    simp (disch := omega) only [LJ7_fill_53178_5, KJ7_fill_53178_5, nI_leE, nI_ltE, nI_eqE, nI_m1, c0a, c0b, c0c, c0d, c0e, c1a, c1b, c1c, c1d, c1e, c2a, c2b, c2c, c2d, c2e, c3a, c3b, c3c, c3d, c3e, c4a, c4b, c4c, c4d, c4e, c5a, c5b, c5c, c5d, c5e, c6a, c6b, c6c, c6d, c6e, c7a, c7b, c7c, c7d, c7e, c8a, c8b, c8c, c8d, c8e, c9a, c9b, c9c, c9d, c9e, c10a, c10b, c10c, c10d, c10e, c12a, c12b, c12c, c12d, c12e, c14a, c14b, c14c, c14d, c14e, c16a, c16b, c16c, c16d, c16e, c20a, c20b, c20c, c20d, c20e, c30a, c30b, c30c, c30d, c30e, c32a, c32b, c32c, c32d, c32e, c36a, c36b, c36c, c36d, c36e, c40a, c40b, c40c, c40d, c40e, c41a, c41b, c41c, c41d, c41e, c42a, c42b, c42c, c42d, c42e, c43a, c43b, c43c, c43d, c43e, c45a, c45b, c45c, c45d, c45e, c47a, c47b, c47c, c47d, c47e, c48a, c48b, c48c, c48d, c48e, c57a, c57b, c57c, c57d, c57e, c59a, c59b, c59c, c59d, c59e, c60a, c60b, c60c, c60d, c60e, c61a, c61b, c61c, c61d, c61e, c62a, c62b, c62c, c62d, c62e, c64a, c64b, c64c, c64d, c64e, c96a, c96b, c96c, c96d, c96e, c97a, c97b, c97c, c97d, c97e, c98a, c98b, c98c, c98d, c98e, c99a, c99b, c99c, c99d, c99e, c100a, c100b, c100c, c100d, c100e, c122a, c122b, c122c, c122d, c122e, c700a, c700b, c700c, c700d, c700e, c4240a, c4240b, c4240c, c4240d, c4240e, c9999a, c9999b, c9999c, c9999d, c9999e, c100000a, c100000b, c100000c, c100000d, c100000e, c1000000a, c1000000b, c1000000c, c1000000d, c1000000e, if_T]
    exact ok_some hI
  · intro n i T hi hI ih
    simp (disch := omega) only [LJ7_fill_53178_5, KJ7_fill_53178_5, nI_leE, nI_ltE, nI_eqE, nI_m1, c0a, c0b, c0c, c0d, c0e, c1a, c1b, c1c, c1d, c1e, c2a, c2b, c2c, c2d, c2e, c3a, c3b, c3c, c3d, c3e, c4a, c4b, c4c, c4d, c4e, c5a, c5b, c5c, c5d, c5e, c6a, c6b, c6c, c6d, c6e, c7a, c7b, c7c, c7d, c7e, c8a, c8b, c8c, c8d, c8e, c9a, c9b, c9c, c9d, c9e, c10a, c10b, c10c, c10d, c10e, c12a, c12b, c12c, c12d, c12e, c14a, c14b, c14c, c14d, c14e, c16a, c16b, c16c, c16d, c16e, c20a, c20b, c20c, c20d, c20e, c30a, c30b, c30c, c30d, c30e, c32a, c32b, c32c, c32d, c32e, c36a, c36b, c36c, c36d, c36e, c40a, c40b, c40c, c40d, c40e, c41a, c41b, c41c, c41d, c41e, c42a, c42b, c42c, c42d, c42e, c43a, c43b, c43c, c43d, c43e, c45a, c45b, c45c, c45d, c45e, c47a, c47b, c47c, c47d, c47e, c48a, c48b, c48c, c48d, c48e, c57a, c57b, c57c, c57d, c57e, c59a, c59b, c59c, c59d, c59e, c60a, c60b, c60c, c60d, c60e, c61a, c61b, c61c, c61d, c61e, c62a, c62b, c62c, c62d, c62e, c64a, c64b, c64c, c64d, c64e, c96a, c96b, c96c, c96d, c96e, c97a, c97b, c97c, c97d, c97e, c98a, c98b, c98c, c98d, c98e, c99a, c99b, c99c, c99d, c99e, c100a, c100b, c100c, c100d, c100e, c122a, c122b, c122c, c122d, c122e, c700a, c700b, c700c, c700d, c700e, c4240a, c4240b, c4240c, c4240d, c4240e, c9999a, c9999b, c9999c, c9999d, c9999e, c100000a, c100000b, c100000c, c100000d, c100000e, c1000000a, c1000000b, c1000000c, c1000000d, c1000000e, if_F, wr_g, bd_s, bv_s, bt_s, bt_x, vl_s, pf_s, ri_s, rz_0, rz_1, tri_s, trz_0, trz_1, trx_s, pz_0, pz_1, nI_add, pk_mul, up_at, la2, la5, la6, la8, la14, la62, la64, la98, la700, ra1, ra2, ra6, ra8, ra12, ra20, ra36, ra48, lm6, lm8, lm10, lm100, lm106, rm6, rm8, rm10, rm100, rm106]
    refine ih _ ⟨fun j hj => ?_, fun b hb => ?_⟩
    · rw [up_2]
      split
      · rfl
      · exact hI.1 j (by omega)
    · rw [up_ne hb]; exact hI.2 b hb
theorem C_findPlaces {V : Vy} {hm v : Nat} {S : St} (hC : VC V v S) (h0 : S 130 0 = nI v) (hr : ROk V hm (S 131)) (hm9 : hm ≤ 20000) : ok (fX0_findPlaces S) (fun S' => (∀ s, s < vS' V → S' 132 s = pl V (S 131) s) ∧ ∀ a, a ≠ 132 → S' a = S a) := by
  have hv := hC.2.1
  have hS6 := hC.1.2.1
  unfold fX0_findPlaces
  refine ok_for (fun n i T => LX0_findPlaces_2 n (nI i) T) _ (fun i T => (∀ s, s < i → T 132 s = pl V (S 131) s) ∧ ∀ a, a ≠ 132 → T a = S a) (vS' V) ?_ ?_ FU 0 S (by omega) (by unfold FU; omega) ⟨fun j h => absurd h (by omega), fun _ _ => rfl⟩
  · intro n T hI
    have e0 : T 130 0 = nI v := by rw [hI.2 130 (by decide)]; exact h0
    have e2 : T v 2 = nI (vS' V) := by rw [hI.2 v (by omega)]; exact hC.2.2.2.1
    simp (disch := omega) only [LX0_findPlaces_2, KX0_findPlaces_2, gm_v e0 hv, e2, nI_leE, nI_ltE, nI_eqE, nI_m1, c0a, c0b, c0c, c0d, c0e, c1a, c1b, c1c, c1d, c1e, c2a, c2b, c2c, c2d, c2e, c3a, c3b, c3c, c3d, c3e, c4a, c4b, c4c, c4d, c4e, c5a, c5b, c5c, c5d, c5e, c6a, c6b, c6c, c6d, c6e, c7a, c7b, c7c, c7d, c7e, c8a, c8b, c8c, c8d, c8e, c9a, c9b, c9c, c9d, c9e, c10a, c10b, c10c, c10d, c10e, c12a, c12b, c12c, c12d, c12e, c14a, c14b, c14c, c14d, c14e, c16a, c16b, c16c, c16d, c16e, c20a, c20b, c20c, c20d, c20e, c30a, c30b, c30c, c30d, c30e, c32a, c32b, c32c, c32d, c32e, c36a, c36b, c36c, c36d, c36e, c40a, c40b, c40c, c40d, c40e, c41a, c41b, c41c, c41d, c41e, c42a, c42b, c42c, c42d, c42e, c43a, c43b, c43c, c43d, c43e, c45a, c45b, c45c, c45d, c45e, c47a, c47b, c47c, c47d, c47e, c48a, c48b, c48c, c48d, c48e, c57a, c57b, c57c, c57d, c57e, c59a, c59b, c59c, c59d, c59e, c60a, c60b, c60c, c60d, c60e, c61a, c61b, c61c, c61d, c61e, c62a, c62b, c62c, c62d, c62e, c64a, c64b, c64c, c64d, c64e, c96a, c96b, c96c, c96d, c96e, c97a, c97b, c97c, c97d, c97e, c98a, c98b, c98c, c98d, c98e, c99a, c99b, c99c, c99d, c99e, c100a, c100b, c100c, c100d, c100e, c122a, c122b, c122c, c122d, c122e, c700a, c700b, c700c, c700d, c700e, c4240a, c4240b, c4240c, c4240d, c4240e, c9999a, c9999b, c9999c, c9999d, c9999e, c100000a, c100000b, c100000c, c100000d, c100000e, c1000000a, c1000000b, c1000000c, c1000000d, c1000000e, if_T]
    exact ok_some hI
  · intro n i T hi hI ih
    have e0 : T 130 0 = nI v := by rw [hI.2 130 (by decide)]; exact h0
    have e2 : T v 2 = nI (vS' V) := by rw [hI.2 v (by omega)]; exact hC.2.2.2.1
    have e1 : T 131 = S 131 := hI.2 131 (by decide)
    have hC' : VC V v T := hC.go (fun a h1 h2 h3 => hI.2 a (by omega))
    have ep := C_placeOf (a1 := 131) hC' (by rw [e1]; exact hr) hm9 rfl hi
    simp (disch := omega) only [LX0_findPlaces_2, KX0_findPlaces_2, gm_v e0 hv, e2, nI_leE, nI_ltE, nI_eqE, nI_m1, c0a, c0b, c0c, c0d, c0e, c1a, c1b, c1c, c1d, c1e, c2a, c2b, c2c, c2d, c2e, c3a, c3b, c3c, c3d, c3e, c4a, c4b, c4c, c4d, c4e, c5a, c5b, c5c, c5d, c5e, c6a, c6b, c6c, c6d, c6e, c7a, c7b, c7c, c7d, c7e, c8a, c8b, c8c, c8d, c8e, c9a, c9b, c9c, c9d, c9e, c10a, c10b, c10c, c10d, c10e, c12a, c12b, c12c, c12d, c12e, c14a, c14b, c14c, c14d, c14e, c16a, c16b, c16c, c16d, c16e, c20a, c20b, c20c, c20d, c20e, c30a, c30b, c30c, c30d, c30e, c32a, c32b, c32c, c32d, c32e, c36a, c36b, c36c, c36d, c36e, c40a, c40b, c40c, c40d, c40e, c41a, c41b, c41c, c41d, c41e, c42a, c42b, c42c, c42d, c42e, c43a, c43b, c43c, c43d, c43e, c45a, c45b, c45c, c45d, c45e, c47a, c47b, c47c, c47d, c47e, c48a, c48b, c48c, c48d, c48e, c57a, c57b, c57c, c57d, c57e, c59a, c59b, c59c, c59d, c59e, c60a, c60b, c60c, c60d, c60e, c61a, c61b, c61c, c61d, c61e, c62a, c62b, c62c, c62d, c62e, c64a, c64b, c64c, c64d, c64e, c96a, c96b, c96c, c96d, c96e, c97a, c97b, c97c, c97d, c97e, c98a, c98b, c98c, c98d, c98e, c99a, c99b, c99c, c99d, c99e, c100a, c100b, c100c, c100d, c100e, c122a, c122b, c122c, c122d, c122e, c700a, c700b, c700c, c700d, c700e, c4240a, c4240b, c4240c, c4240d, c4240e, c9999a, c9999b, c9999c, c9999d, c9999e, c100000a, c100000b, c100000c, c100000d, c100000e, c1000000a, c1000000b, c1000000c, c1000000d, c1000000e, if_F, ep, bd_s, bv_s, bt_s, bt_x, vl_s, pf_s, ri_s, rz_0, rz_1, tri_s, trz_0, trz_1, trx_s, pz_0, pz_1, nI_add, pk_mul, up_at, la2, la5, la6, la8, la14, la62, la64, la98, la700, ra1, ra2, ra6, ra8, ra12, ra20, ra36, ra48, lm6, lm8, lm10, lm100, lm106, rm6, rm8, rm10, rm100, rm106, wr131, wr132, wr133, wr134, wr135, wr136, wr131_0, wr131_1, wr136_0, wr136_1, wr136_2, wr136_3, wr136_4]
    refine ih _ ⟨fun j hj => ?_, fun b hb => ?_⟩
    · rw [up_2, e1]
      split
      · rename_i q; rw [q.2]
      · exact hI.1 j (by omega)
    · rw [up_ne hb]; exact hI.2 b hb
/-- the course stands at a row -/
def Cs (V : Vy) (v hm : Nat) (S : St) : Prop := VC V v S ∧ S 130 0 = nI v ∧ ROk V hm (S 131) ∧ hm ≤ 20000 ∧ ∀ s, s < vS' V → S 132 s = pl V (S 131) s
theorem row5_upd {w : Rw} {a b c d e : Int32} : ∀ i, i < 5 → upd (upd (upd (upd (upd w 0 a) 1 b) 2 c) 3 d) 4 e i = row5 a b c d e i := by
  intro i hi
  have : i = 0 ∨ i = 1 ∨ i = 2 ∨ i = 3 ∨ i = 4 := by omega
  rcases this with rfl | rfl | rfl | rfl | rfl <;> rfl
theorem C_tune118 {V : Vy} {v hm : Nat} {S : St} (hc : Cs V v hm S) {s : Nat} (hs : s < vS' V) {x : Int32} : BX0_tuneOf_118 (nI s) x S = some (if bit (S 131 (2 + s)) x then x else -1, S) := by
  have hS6 := hc.1.1.2.1
  unfold BX0_tuneOf_118
  simp (disch := omega) only [bd_s, bv_s, bt_s, bt_x, vl_s, pf_s, ri_s, rz_0, rz_1, tri_s, trz_0, trz_1, trx_s, pz_0, pz_1, nI_add, pk_mul, up_at, la2, la5, la6, la8, la14, la62, la64, la98, la700, ra1, ra2, ra6, ra8, ra12, ra20, ra36, ra48, lm6, lm8, lm10, lm100, lm106, rm6, rm8, rm10, rm100, rm106, rd131, rd132, rd133, rd134, rd135, rd136, rd131_0, rd131_1, rd131_8]
  by_cases q : ((S 131 (2 + s) >>> (x &&& 31)) &&& 1) = 0
  · rw [if_pos q, bit_f q]; rfl
  · rw [if_neg q, bit_t q]; rfl
theorem C_tuneOf {V : Vy} {v hm : Nat} {S : St} (hc : Cs V v hm S) {s : Nat} (hs : s < vS' V) : ok (fX0_tuneOf (nI s) S) (fun q => q.1 = tuI V (S 131) s ∧ ∀ a, a ≠ 136 → a ≠ v + 12 → q.2 a = S a) := by
  obtain ⟨hC, h0, hr, hm9, hp⟩ := hc
  have hv := hC.2.1
  have hV := hC.1
  have hS6 := hV.2.1
  have hF0 := hV.2.2.2.1 (by omega)
  have hF8 := hV.1
  obtain ⟨k, hk, ek⟩ := hr.2.1 s hs
  have hk8 : k < 256 := Nat.lt_of_lt_of_le hk (Nat.pow_le_pow_right (by decide) hF8 : 2 ^ vF V ≤ 2 ^ 8)
  have hG := hC.2.2.2.2.2.2.2.2.1
  have hE := hp s hs
  have hF := hC.2.2.1
  cases hg : vG V with
  | none =>
    rw [hg] at hG
    unfold VG at hG
    have hG2 : S (v + 11) 0 = 0 := hG
    unfold fX0_tuneOf
    simp (disch := omega) only [bd_s, bv_s, bt_s, bt_x, vl_s, pf_s, ri_s, rz_0, rz_1, tri_s, trz_0, trz_1, trx_s, pz_0, pz_1, nI_add, pk_mul, up_at, la2, la5, la6, la8, la14, la62, la64, la98, la700, ra1, ra2, ra6, ra8, ra12, ra20, ra36, ra48, lm6, lm8, lm10, lm100, lm106, rm6, rm8, rm10, rm100, rm106, rd131, rd132, rd133, rd134, rd135, rd136, rd131_0, rd131_1, rd131_8, gm_v h0 hv, srv3, srv4, srv5, srv6, srv7, srv8, srv9, srv10, srv11, srv12, srv13, hG2, if_T]
    rw [if_pos trivial, C_tune118 ⟨hC, h0, hr, hm9, hp⟩ hs]
    refine ok_some ⟨?_, fun _ _ _ => rfl⟩
    unfold tuI tuA
    rw [hg, hE]
  | some g =>
    rw [hg] at hG
    obtain ⟨hG2, hg5, hRC⟩ := hG
    generalize hT : up (up (up (up (up S 136 0 (S 131 0)) 136 1 (nI s)) 136 2 (S 132 s)) 136 3 (popI (nI k))) 136 4 (S 131 (8 + s)) = T
    have hT1 : ∀ a, a ≠ 136 → T a = S a := fun a ha => by subst hT; simp only [up_ne ha]
    obtain ⟨T2, e2, hT2⟩ := hRC T (hT1 _ (by omega)) (hT1 _ (by omega))
    have hT3 : ∀ a, a ≠ 136 → a ≠ v + 12 → T2 a = S a := fun a h1 h2 => by rw [hT2 a h2, hT1 a h1]
    have a0 : T2 130 0 = nI v := by rw [hT3 130 (by decide) (by omega)]; exact h0
    have a1 : T2 v 0 = nI (vF V) := by rw [hT3 v (by omega) (by omega)]; exact hF
    have hc2 : Cs V v hm T2 := by
      refine ⟨hC.go (fun a h1 h2 h3 => hT3 a (by omega) (by omega)), a0, ?_, hm9, fun q hq => ?_⟩
      · rw [hT3 131 (by decide) (by omega)]; exact hr
      · rw [hT3 131 (by decide) (by omega), hT3 132 (by decide) (by omega)]; exact hp q hq
    have hvals : g (T 136) = g (row5 (S 131 0) (nI s) (pl V (S 131) s) (popI (S 131 (2 + s))) (S 131 (8 + s))) := by
      apply hg5
      intro i hi
      rw [ek, ← hE, ← hT]
      simp only [up_row]
      exact row5_upd i hi
    unfold fX0_tuneOf
    simp (disch := omega) only [bd_s, bv_s, bt_s, bt_x, vl_s, pf_s, ri_s, rz_0, rz_1, tri_s, trz_0, trz_1, trx_s, pz_0, pz_1, nI_add, pk_mul, up_at, la2, la5, la6, la8, la14, la62, la64, la98, la700, ra1, ra2, ra6, ra8, ra12, ra20, ra36, ra48, lm6, lm8, lm10, lm100, lm106, rm6, rm8, rm10, rm100, rm106, rd131, rd132, rd133, rd134, rd135, rd136, rd131_0, rd131_1, rd131_8, gm_v h0 hv, srv3, srv4, srv5, srv6, srv7, srv8, srv9, srv10, srv11, srv12, srv13, hG2, if_F, hF, nI_leE, nI_ltE, nI_eqE, nI_m1, c0a, c0b, c0c, c0d, c0e, c1a, c1b, c1c, c1d, c1e, c2a, c2b, c2c, c2d, c2e, c3a, c3b, c3c, c3d, c3e, c4a, c4b, c4c, c4d, c4e, c5a, c5b, c5c, c5d, c5e, c6a, c6b, c6c, c6d, c6e, c7a, c7b, c7c, c7d, c7e, c8a, c8b, c8c, c8d, c8e, c9a, c9b, c9c, c9d, c9e, c10a, c10b, c10c, c10d, c10e, c12a, c12b, c12c, c12d, c12e, c14a, c14b, c14c, c14d, c14e, c16a, c16b, c16c, c16d, c16e, c20a, c20b, c20c, c20d, c20e, c30a, c30b, c30c, c30d, c30e, c32a, c32b, c32c, c32d, c32e, c36a, c36b, c36c, c36d, c36e, c40a, c40b, c40c, c40d, c40e, c41a, c41b, c41c, c41d, c41e, c42a, c42b, c42c, c42d, c42e, c43a, c43b, c43c, c43d, c43e, c45a, c45b, c45c, c45d, c45e, c47a, c47b, c47c, c47d, c47e, c48a, c48b, c48c, c48d, c48e, c57a, c57b, c57c, c57d, c57e, c59a, c59b, c59c, c59d, c59e, c60a, c60b, c60c, c60d, c60e, c61a, c61b, c61c, c61d, c61e, c62a, c62b, c62c, c62d, c62e, c64a, c64b, c64c, c64d, c64e, c96a, c96b, c96c, c96d, c96e, c97a, c97b, c97c, c97d, c97e, c98a, c98b, c98c, c98d, c98e, c99a, c99b, c99c, c99d, c99e, c100a, c100b, c100c, c100d, c100e, c122a, c122b, c122c, c122d, c122e, c700a, c700b, c700c, c700d, c700e, c4240a, c4240b, c4240c, c4240d, c4240e, c9999a, c9999b, c9999c, c9999d, c9999e, c100000a, c100000b, c100000c, c100000d, c100000e, c1000000a, c1000000b, c1000000c, c1000000d, c1000000e, wr131, wr132, wr133, wr134, wr135, wr136, wr131_0, wr131_1, wr136_0, wr136_1, wr136_2, wr136_3, wr136_4, up_ne, ek, bc_n]
    have u0 : up (up (up (up (up S 136 0 (S 131 0)) 136 1 (nI s)) 136 2 (S 132 s)) 136 3 (popI (nI k))) 136 4 (S 131 (8 + s)) 130 0 = nI v := by rw [hT, hT1 130 (by decide)]; exact h0
    rw [gm_v u0 hv]
    simp (disch := omega) only [srv3, srv4, srv5, srv6, srv7, srv8, srv9, srv10, srv11, srv12, srv13, hT, e2, bd_s, bv_s, bt_s, bt_x, vl_s, pf_s, ri_s, rz_0, rz_1, tri_s, trz_0, trz_1, trx_s, pz_0, pz_1, nI_add, pk_mul, up_at, la2, la5, la6, la8, la14, la62, la64, la98, la700, ra1, ra2, ra6, ra8, ra12, ra20, ra36, ra48, lm6, lm8, lm10, lm100, lm106, rm6, rm8, rm10, rm100, rm106]
    rw [gm_v a0 hv, a1, fm_n hF0 (by omega)]
    simp only [bd_s]
    rw [C_tune118 hc2 hs]
    refine ok_some ⟨?_, hT3⟩
    show _ = tuI V (S 131) s
    unfold tuI tuA
    rw [hg, hT3 131 (by decide) (by omega), hvals]
