/-! whether all that is heard would be so: the class -/
def oFr (S S' : St) : Prop := ∀ a, (a < 130 ∨ 136 < a) → a ≠ 139 → a ≠ 14 → a ≠ 16 → a ≠ 29 → a ≠ 31 → S' a = S a
theorem oFr.rf {S : St} : oFr S S := fun _ _ _ _ _ _ _ => rfl
theorem oFr.tr {S T U : St} (h : oFr S T) (g : oFr T U) : oFr S U := fun a h1 h2 h3 h4 h5 h6 => (g a h1 h2 h3 h4 h5 h6).trans (h a h1 h2 h3 h4 h5 h6)
theorem oFr.of {S T : St} (h : cFr S T) : oFr S T := fun a h1 _ h3 h4 h5 h6 => h a h1 h3 h4 h5 h6
theorem oFr.k {S T : St} (h : oFr S T) : cK S T := fun a h1 h2 h3 h4 h5 => h a (by omega) (by omega) h2 h3 h4 h5
theorem oFr.up {S T : St} (h : oFr S T) {i : Nat} {x : Int32} : oFr S (up T 139 i x) := fun b h1 h2 h3 h4 h5 h6 => by rw [up_ne h2]; exact h b h1 h2 h3 h4 h5 h6
theorem VC.o {V : Vy} {v : Nat} {S S' : St} (h : VC V v S) (hf : oFr S S') : VC V v S' := by
  have hv := h.2.1
  exact h.go (fun a h1 h2 h3 => hf a (by omega) (by omega) (by omega) (by omega) (by omega) (by omega))
theorem Sn.up {V : Vy} {v : Nat} {r : Rw} {S T : St} (h : Sn V v r S) (hT : ∀ a, a ≠ 139 → T a = S a) : Sn V v r T := by
  obtain ⟨hC, h0, hp, hg, hpo, hso⟩ := h
  have hv := hC.2.1
  exact ⟨hC.go (fun a h1 h2 _ => hT a (by omega)), by rw [hT 130 (by decide)]; exact h0, by rw [hT 132 (by decide)]; exact hp, by rw [hT 133 (by decide)]; exact hg, hpo, hso⟩
theorem C_hold48 {V : Vy} {v : Nat} {S S1 : St} {r : Rw} {m : Nat} {hF hK : Nat → Nat} {hT : Nat → Int32} (hh : Hd V m hF hK hT) (hc : HdC m hF hK hT S) (h5 : S 137 5 = nI (vF V)) (f1 : oFr S S1) (hC : VC V v S1) (h0 : S1 130 0 = nI v) (hr : ROk V 10000 r) (ha : ag (S1 131) r) {L : Nat} (L1 : 1 ≤ L) (L30 : L ≤ 30) (hL : ∀ i, i < m → hK i ≤ L) :
    ok (LX1_holds_48 FU 36 (nI L) 1 S1) (fun q => q.1 = b2i (asH V r m hF hK hT) ∧ oFr S q.2 ∧ (asH V r m hF hK hT = true → ∀ f, f < vF V → q.2 139 f = lsI V r f)) := by
  have hV := hC.1
  have hS6 := hV.2.1
  have hF8 := hV.1
  have hv := hC.2.1
  have hr1 : ROk V 10000 (S1 131) := ag_ROk hV ha.sm hr
  have m8 := hh.1
  refine ok_for (fun k h T => LX1_holds_48 k 36 (nI L) (nI h) T) _ (fun h T => 1 ≤ h ∧ T 131 = hrs V (S1 131) (h - 1) ∧ VC V v T ∧ T 130 0 = nI v ∧ oFr S T ∧ (∀ i, i < m → hK i < h → hdB V (hrs V r (hK i - 1)) (hF i) (hT i) = true) ∧ (1 < h → ∀ f, f < vF V → T 139 f = lsI V r f)) (L + 1) ?_ ?_ FU 1 S1 (by omega) (by unfold FU; omega) ⟨by omega, rfl, hC, h0, f1, fun i hi hk => ?_, fun z => absurd z (by omega)⟩
  · intro k T hI
    simp (disch := omega) only [LX1_holds_48, KX1_holds_48, nI_leE, nI_ltE, nI_eqE, nI_m1, c0a, c0b, c0c, c0d, c0e, c1a, c1b, c1c, c1d, c1e, c2a, c2b, c2c, c2d, c2e, c3a, c3b, c3c, c3d, c3e, c4a, c4b, c4c, c4d, c4e, c5a, c5b, c5c, c5d, c5e, c6a, c6b, c6c, c6d, c6e, c7a, c7b, c7c, c7d, c7e, c8a, c8b, c8c, c8d, c8e, c9a, c9b, c9c, c9d, c9e, c10a, c10b, c10c, c10d, c10e, c12a, c12b, c12c, c12d, c12e, c14a, c14b, c14c, c14d, c14e, c16a, c16b, c16c, c16d, c16e, c20a, c20b, c20c, c20d, c20e, c30a, c30b, c30c, c30d, c30e, c32a, c32b, c32c, c32d, c32e, c36a, c36b, c36c, c36d, c36e, c40a, c40b, c40c, c40d, c40e, c41a, c41b, c41c, c41d, c41e, c42a, c42b, c42c, c42d, c42e, c43a, c43b, c43c, c43d, c43e, c45a, c45b, c45c, c45d, c45e, c47a, c47b, c47c, c47d, c47e, c48a, c48b, c48c, c48d, c48e, c57a, c57b, c57c, c57d, c57e, c59a, c59b, c59c, c59d, c59e, c60a, c60b, c60c, c60d, c60e, c61a, c61b, c61c, c61d, c61e, c62a, c62b, c62c, c62d, c62e, c64a, c64b, c64c, c64d, c64e, c96a, c96b, c96c, c96d, c96e, c97a, c97b, c97c, c97d, c97e, c98a, c98b, c98c, c98d, c98e, c99a, c99b, c99c, c99d, c99e, c100a, c100b, c100c, c100d, c100e, c122a, c122b, c122c, c122d, c122e, c700a, c700b, c700c, c700d, c700e, c4240a, c4240b, c4240c, c4240d, c4240e, c9999a, c9999b, c9999c, c9999d, c9999e, c100000a, c100000b, c100000c, c100000d, c100000e, c1000000a, c1000000b, c1000000c, c1000000d, c1000000e, if_T, rz_1]
    have hall : asH V r m hF hK hT = true := (allB_t _).mpr (fun i hi => hI.2.2.2.2.2.1 i hi (by have := hL i hi; omega))
    refine ok_some ⟨by rw [hall]; rfl, hI.2.2.2.2.1, fun _ => hI.2.2.2.2.2.2 (by omega)⟩
  · intro k h T hhL hI ih
    obtain ⟨h1, e131, hCT, h0T, frT, hdn, hls⟩ := hI
    have roT := (hrs_ok hr1 hV (h - 1) (by omega)).1
    obtain ⟨T1, e1, g1, g2, g3, -, -, g6, g7⟩ := C_goHour hCT h0T (by rw [e131]; exact roT) (by omega)
    have agh : ag (T 131) (hrs V r (h - 1)) := by rw [e131]; exact ag_hrs hV ha hr1 (h - 1) (by omega)
    have roT' : ROk V (10000 + (h - 1)) (T 131) := by rw [e131]; exact roT
    have sn1 : Sn V v (T 131) T1 := ⟨hCT.fr g7, by rw [g6]; exact h0T, g2, g3, fun s hs => pl_ok roT' hV (by omega) hs, fun s hs => sg_ok roT' hV (by omega) hs⟩
    have fr1 : oFr S T1 := frT.tr (oFr.of g7)
    have hc1 : HdC m hF hK hT T1 := by
      unfold HdC at hc ⊢
      rw [fr1 36 (by decide) (by decide) (by decide) (by decide) (by decide) (by decide), fr1 79 (by decide) (by decide) (by decide) (by decide) (by decide) (by decide), fr1 80 (by decide) (by decide) (by decide) (by decide) (by decide) (by decide), fr1 81 (by decide) (by decide) (by decide) (by decide) (by decide) (by decide)]
      exact hc
    have e5 : T1 137 5 = nI (vF V) := by rw [fr1 137 (by decide) (by decide) (by decide) (by decide) (by decide) (by decide)]; exact h5
    simp (disch := omega) only [LX1_holds_48, KX1_holds_48, nI_leE, nI_ltE, nI_eqE, nI_m1, c0a, c0b, c0c, c0d, c0e, c1a, c1b, c1c, c1d, c1e, c2a, c2b, c2c, c2d, c2e, c3a, c3b, c3c, c3d, c3e, c4a, c4b, c4c, c4d, c4e, c5a, c5b, c5c, c5d, c5e, c6a, c6b, c6c, c6d, c6e, c7a, c7b, c7c, c7d, c7e, c8a, c8b, c8c, c8d, c8e, c9a, c9b, c9c, c9d, c9e, c10a, c10b, c10c, c10d, c10e, c12a, c12b, c12c, c12d, c12e, c14a, c14b, c14c, c14d, c14e, c16a, c16b, c16c, c16d, c16e, c20a, c20b, c20c, c20d, c20e, c30a, c30b, c30c, c30d, c30e, c32a, c32b, c32c, c32d, c32e, c36a, c36b, c36c, c36d, c36e, c40a, c40b, c40c, c40d, c40e, c41a, c41b, c41c, c41d, c41e, c42a, c42b, c42c, c42d, c42e, c43a, c43b, c43c, c43d, c43e, c45a, c45b, c45c, c45d, c45e, c47a, c47b, c47c, c47d, c47e, c48a, c48b, c48c, c48d, c48e, c57a, c57b, c57c, c57d, c57e, c59a, c59b, c59c, c59d, c59e, c60a, c60b, c60c, c60d, c60e, c61a, c61b, c61c, c61d, c61e, c62a, c62b, c62c, c62d, c62e, c64a, c64b, c64c, c64d, c64e, c96a, c96b, c96c, c96d, c96e, c97a, c97b, c97c, c97d, c97e, c98a, c98b, c98c, c98d, c98e, c99a, c99b, c99c, c99d, c99e, c100a, c100b, c100c, c100d, c100e, c122a, c122b, c122c, c122d, c122e, c700a, c700b, c700c, c700d, c700e, c4240a, c4240b, c4240c, c4240d, c4240e, c9999a, c9999b, c9999c, c9999d, c9999e, c100000a, c100000b, c100000c, c100000d, c100000e, c1000000a, c1000000b, c1000000c, c1000000d, c1000000e, if_F, e1, bv_s]
    refine ok_for (σ := Unit) (fun k2 i _ => LX1_holds_65 (LX1_holds_48 k) k2 36 (nI L) (nI h) (nI i) T1) _ (fun i _ => ∀ j, j < i → hK j = h → hdB V (hrs V r (hK j - 1)) (hF j) (hT j) = true) m ?_ ?_ FU 0 () (by omega) (by unfold FU; omega) (fun j hj => absurd hj (by omega))
    · intro k2 _ hI2
      simp (disch := omega) only [LX1_holds_65, KX1_holds_65, hc1.1, nI_leE, nI_ltE, nI_eqE, nI_m1, c0a, c0b, c0c, c0d, c0e, c1a, c1b, c1c, c1d, c1e, c2a, c2b, c2c, c2d, c2e, c3a, c3b, c3c, c3d, c3e, c4a, c4b, c4c, c4d, c4e, c5a, c5b, c5c, c5d, c5e, c6a, c6b, c6c, c6d, c6e, c7a, c7b, c7c, c7d, c7e, c8a, c8b, c8c, c8d, c8e, c9a, c9b, c9c, c9d, c9e, c10a, c10b, c10c, c10d, c10e, c12a, c12b, c12c, c12d, c12e, c14a, c14b, c14c, c14d, c14e, c16a, c16b, c16c, c16d, c16e, c20a, c20b, c20c, c20d, c20e, c30a, c30b, c30c, c30d, c30e, c32a, c32b, c32c, c32d, c32e, c36a, c36b, c36c, c36d, c36e, c40a, c40b, c40c, c40d, c40e, c41a, c41b, c41c, c41d, c41e, c42a, c42b, c42c, c42d, c42e, c43a, c43b, c43c, c43d, c43e, c45a, c45b, c45c, c45d, c45e, c47a, c47b, c47c, c47d, c47e, c48a, c48b, c48c, c48d, c48e, c57a, c57b, c57c, c57d, c57e, c59a, c59b, c59c, c59d, c59e, c60a, c60b, c60c, c60d, c60e, c61a, c61b, c61c, c61d, c61e, c62a, c62b, c62c, c62d, c62e, c64a, c64b, c64c, c64d, c64e, c96a, c96b, c96c, c96d, c96e, c97a, c97b, c97c, c97d, c97e, c98a, c98b, c98c, c98d, c98e, c99a, c99b, c99c, c99d, c99e, c100a, c100b, c100c, c100d, c100e, c122a, c122b, c122c, c122d, c122e, c700a, c700b, c700c, c700d, c700e, c4240a, c4240b, c4240c, c4240d, c4240e, c9999a, c9999b, c9999c, c9999d, c9999e, c100000a, c100000b, c100000c, c100000d, c100000e, c1000000a, c1000000b, c1000000c, c1000000d, c1000000e, if_T]
      have nxt : ∀ U, (∀ a, a ≠ 139 → U a = T1 a) → (∀ f, f < vF V → U 139 f = lsI V r f) → ok (BX1_holds_158 (LX1_holds_48 k) 36 (nI L) (nI h) U) (fun q => q.1 = b2i (asH V r m hF hK hT) ∧ oFr S q.2 ∧ (asH V r m hF hK hT = true → ∀ f, f < vF V → q.2 139 f = lsI V r f)) := by
        intro U hU hU2
        unfold BX1_holds_158
        rw [vl_s, nI_1]
        refine ih U ⟨by omega, ?_, (sn1.up hU).1, (sn1.up hU).2.1, fun a h1 h2 h3 h4 h5 h6 => by rw [hU a h2]; exact fr1 a h1 h2 h3 h4 h5 h6, fun i hi hk => ?_, fun _ => hU2⟩
        · rw [hU 131 (by decide), g1, e131, show h + 1 - 1 = (h - 1) + 1 by omega]; rfl
        · by_cases c : hK i = h
          · exact hI2 i hi c
          · exact hdn i hi (by omega)
      by_cases c1 : h = 1
      · subst c1
        refine ok_for (fun k3 f U => LX1_holds_121 (LX1_holds_48 k) k3 36 (nI L) (nI 1) (nI f) U) _ (fun f U => (∀ a, a ≠ 139 → U a = T1 a) ∧ ∀ f', f' < f → U 139 f' = lsI V r f') (vF V) ?_ ?_ FU 0 T1 (by omega) (by unfold FU; omega) ⟨fun _ _ => rfl, fun f' hf' => absurd hf' (by omega)⟩
        · intro k3 U hU
          have e5U : U 137 5 = nI (vF V) := by rw [hU.1 137 (by decide)]; exact e5
          show ok (KX1_holds_121 (LX1_holds_48 k) (LX1_holds_121 (LX1_holds_48 k) k3) 36 (nI L) (nI 1) (nI (vF V)) U) _
          unfold KX1_holds_121
          rw [if_pos (show nI 1 = 1 from rfl), e5U, if_pos (nI_le (Nat.le_refl _) (by omega))]
          exact nxt U hU.1 hU.2
        · intro k3 f U hf hU ih3
          have e5U : U 137 5 = nI (vF V) := by rw [hU.1 137 (by decide)]; exact e5
          have lsr : lsI V (T 131) f = lsI V r f := rg_lsI hV (agh.w hV) roT' (by omega)
          show ok (KX1_holds_121 (LX1_holds_48 k) (LX1_holds_121 (LX1_holds_48 k) k3) 36 (nI L) (nI 1) (nI f) U) _
          unfold KX1_holds_121
          rw [if_pos (show nI 1 = 1 from rfl), e5U, if_neg (by rw [nI_leI (by omega) (by omega)]; omega), C_least (sn1.up hU.1) hf, bd_s, wr139 (by omega), vl_s, nI_1]
          refine ih3 _ ⟨fun a ha => by rw [up_ne ha]; exact hU.1 a ha, fun f' hf' => ?_⟩
          rw [up_row]
          by_cases c : f' = f
          · subst c; rw [upd_at]; exact lsr
          · rw [upd_ne c]; exact hU.2 f' (by omega)
      · have hne : ¬ nI h = 1 := by rw [show (1 : Int32) = nI 1 from rfl, nI_eq (by omega) (by omega)]; exact c1
        rw [FU_s]
        show ok (KX1_holds_121 (LX1_holds_48 k) (LX1_holds_121 (LX1_holds_48 k) 4999) 36 (nI L) (nI h) 0 T1) _
        unfold KX1_holds_121
        rw [if_neg hne]
        refine nxt T1 (fun _ _ => rfl) (fun f hf => ?_)
        have : T1 139 = T 139 := g7 139 (by decide) (by decide) (by decide) (by decide) (by decide)
        rw [this]
        exact hls (by omega) f hf
    · intro k2 i _ hi hI2 ih2
      obtain ⟨x1, x2, x3⟩ := hc1.2 i hi
      obtain ⟨y1, y2, y3, y4⟩ := hh.2 i hi
      have nxt2 : (hK i = h → hdB V (hrs V r (hK i - 1)) (hF i) (hT i) = true) → ∀ j, j < i + 1 → hK j = h → hdB V (hrs V r (hK j - 1)) (hF j) (hT j) = true := by
        intro hi1 j hj hjh
        by_cases c : j = i
        · subst c; exact hi1 hjh
        · exact hI2 j (by omega) hjh
      simp (disch := omega) only [LX1_holds_65, KX1_holds_65, hc1.1, nI_leE, nI_ltE, nI_eqE, nI_m1, c0a, c0b, c0c, c0d, c0e, c1a, c1b, c1c, c1d, c1e, c2a, c2b, c2c, c2d, c2e, c3a, c3b, c3c, c3d, c3e, c4a, c4b, c4c, c4d, c4e, c5a, c5b, c5c, c5d, c5e, c6a, c6b, c6c, c6d, c6e, c7a, c7b, c7c, c7d, c7e, c8a, c8b, c8c, c8d, c8e, c9a, c9b, c9c, c9d, c9e, c10a, c10b, c10c, c10d, c10e, c12a, c12b, c12c, c12d, c12e, c14a, c14b, c14c, c14d, c14e, c16a, c16b, c16c, c16d, c16e, c20a, c20b, c20c, c20d, c20e, c30a, c30b, c30c, c30d, c30e, c32a, c32b, c32c, c32d, c32e, c36a, c36b, c36c, c36d, c36e, c40a, c40b, c40c, c40d, c40e, c41a, c41b, c41c, c41d, c41e, c42a, c42b, c42c, c42d, c42e, c43a, c43b, c43c, c43d, c43e, c45a, c45b, c45c, c45d, c45e, c47a, c47b, c47c, c47d, c47e, c48a, c48b, c48c, c48d, c48e, c57a, c57b, c57c, c57d, c57e, c59a, c59b, c59c, c59d, c59e, c60a, c60b, c60c, c60d, c60e, c61a, c61b, c61c, c61d, c61e, c62a, c62b, c62c, c62d, c62e, c64a, c64b, c64c, c64d, c64e, c96a, c96b, c96c, c96d, c96e, c97a, c97b, c97c, c97d, c97e, c98a, c98b, c98c, c98d, c98e, c99a, c99b, c99c, c99d, c99e, c100a, c100b, c100c, c100d, c100e, c122a, c122b, c122c, c122d, c122e, c700a, c700b, c700c, c700d, c700e, c4240a, c4240b, c4240c, c4240d, c4240e, c9999a, c9999b, c9999c, c9999d, c9999e, c100000a, c100000b, c100000c, c100000d, c100000e, c1000000a, c1000000b, c1000000c, c1000000d, c1000000e, if_F, show sr 36 6 = 80 from rfl, show sr 36 5 = 79 from rfl, show sr 36 7 = 81 from rfl, rd79, rd80, rd81, x1, x2, x3, C_was sn1 y1 y4, bd_s, BX1_holds_112, vl_s, ra1]
      by_cases c : hK i = h
      · rw [if_pos c]
        have e : hdB V (T 131) (hF i) (hT i) = hdB V (hrs V r (hK i - 1)) (hF i) (hT i) := by rw [c]; exact rg_hdB hV (agh.w hV) roT' (by omega)
        rw [e]
        cases hb : hdB V (hrs V r (hK i - 1)) (hF i) (hT i) with
        | true =>
          rw [if_neg (show ¬ b2i true = 0 by decide)]
          exact ih2 () (nxt2 (fun _ => hb))
        | false =>
          rw [if_pos (show b2i false = 0 from rfl)]
          have hall : asH V r m hF hK hT = false := allB_f (i := i) hb _ hi
          exact ok_some ⟨by rw [hall]; rfl, fr1, fun z => by rw [hall] at z; cases z⟩
      · rw [if_neg c]
        exact ih2 () (nxt2 (fun z => absurd z c))
  · have := (hh.2 i hi).2.1
    omega
theorem C_holds {V : Vy} {v d : Nat} {S : St} (hR : Rl V v d S) {m : Nat} {hF hK : Nat → Nat} {hT : Nat → Int32} (hh : Hd V m hF hK hT) (hc : HdC m hF hK hT S) (h5 : S 137 5 = nI (vF V)) {a3 a4 : Int32} {r : Rw} (hca : (a3 = -1 ∧ r = S 37) ∨ (∃ j f, 62 ≤ j ∧ j < 98 ∧ a3 = nI j ∧ a4 = nI f ∧ r = upd (S 37) j (nI f))) (hr : ROk V 10000 r) : ok (fX1_holds v 36 a3 a4 S) (fun q => q.1 = b2i (asH V r m hF hK hT) ∧ oFr S q.2 ∧ (asH V r m hF hK hT = true → ∀ f, f < vF V → q.2 139 f = lsI V r f)) := by
  have hV := hR.vk
  obtain ⟨S1, e1, b1, b2, -, -, b5⟩ := C_begin (a2 := 37) hR.C rfl (by decide) hR.rok (by decide)
  have hv := hR.hv
  have m8 := hh.1
  have fin : ∀ T, (∀ a, a ≠ 131 → T a = S1 a) → ag (T 131) r → ok (BX1_holds_35 36 T) (fun q => q.1 = b2i (asH V r m hF hK hT) ∧ oFr S q.2 ∧ (asH V r m hF hK hT = true → ∀ f, f < vF V → q.2 139 f = lsI V r f)) := by
    intro T hT1 hag
    have frT : oFr S T := fun a h1 h2 h3 h4 h5 h6 => by rw [hT1 a (by omega)]; exact b5 a h1 h3 h4 h5 h6
    have hcT : HdC m hF hK hT T := by
      unfold HdC at hc ⊢
      rw [frT 36 (by decide) (by decide) (by decide) (by decide) (by decide) (by decide), frT 79 (by decide) (by decide) (by decide) (by decide) (by decide) (by decide), frT 80 (by decide) (by decide) (by decide) (by decide) (by decide) (by decide), frT 81 (by decide) (by decide) (by decide) (by decide) (by decide) (by decide)]
      exact hc
    obtain ⟨⟨x, T'⟩, e2, q1, L, L30, q2, q3⟩ := C_last m8 (fun i hi => (hh.2 i hi).2.2.1) hcT
    have q1' : T' = T := q1
    have q2' : x = nI L := q2
    subst q1'; subst q2'
    have hCT : VC V v T' := b2.1.go (fun a h1 h2 _ => hT1 a (by omega))
    have h0T : T' 130 0 = nI v := by rw [hT1 130 (by decide)]; exact b2.2.1
    unfold BX1_holds_35
    rw [e2, bd_s, vl_s]
    by_cases c : 1 < L
    · rw [if_pos (show (1 : Int32) < nI L from nI_lt c (by omega))]
      exact C_hold48 hh hc h5 frT hCT h0T hr hag (by omega) L30 q3
    · rw [if_neg (show ¬ (1 : Int32) < nI L by rw [show (1 : Int32) = nI 1 from rfl, nI_ltI (by decide) (by omega)]; exact c)]
      exact C_hold48 (L := 1) hh hc h5 frT hCT h0T hr hag (by omega) (by omega) (fun i hi => by have := q3 i hi; omega)
  unfold fX1_holds
  rw [show sr 36 0 = 37 from rfl, e1, bv_s]
  rcases hca with ⟨rfl, rfl⟩ | ⟨j, f, j1, j2, rfl, rfl, rfl⟩
  · rw [if_pos (by decide)]
    exact fin S1 (fun _ _ => rfl) b1
  · rw [show (62 : Int32) = nI 62 from rfl, show (98 : Int32) = nI 98 from rfl, if_neg (by rw [nI_ltI (by omega) (by omega)]; omega), if_neg (by rw [nI_leI (by omega) (by omega)]; omega), wr131 (by omega)]
    exact fin _ (fun a ha => up_ne ha) (by rw [up_row]; exact ag_upd b1)
