/-! the steps that were otherwise: the reference -/
theorem gd_r {L : List Nat} {c : Nat} : (L ++ [c]).getD L.length 0 = c := by simp [List.getD_eq_getElem?_getD]
theorem gd_l {L : List Nat} {c j : Nat} (h : j < L.length) : (L ++ [c]).getD j 0 = L.getD j 0 := by rw [List.getD_eq_getElem?_getD, List.getD_eq_getElem?_getD, List.getElem?_append_left h]
def tFr (S S' : St) : Prop := (∀ a, (a < 142 ∨ 168 < a ∨ (142 < a ∧ a < 158) ∨ a = 163 ∨ a = 164) → a ≠ 176 → a ≠ 177 → a ≠ 178 → S' a = S a) ∧ ∀ j, j ≠ 34 → j ≠ 35 → j ≠ 55 → S' 142 j = S 142 j
theorem tFr.rf {S : St} : tFr S S := ⟨fun _ _ _ _ _ => rfl, fun _ _ _ _ => rfl⟩
theorem tFr.k {S T U : St} (h : tFr S T) (g : kFr T U) : tFr S U := ⟨fun a h1 h2 h3 h4 => (g.1 a h1 h2 h3).trans (h.1 a h1 h2 h3 h4), fun j h1 h2 h3 => (g.2 j h1 h2).trans (h.2 j h1 h2 h3)⟩
theorem tFr.up {S T : St} (h : tFr S T) {a i : Nat} {x : Int32} (ha : a = 161 ∨ a = 178 ∨ (a = 142 ∧ i = 55)) : tFr S (up T a i x) := by
  refine ⟨fun b h1 h2 h3 h4 => ?_, fun j h1 h2 h3 => ?_⟩
  · rw [up_ne (by omega)]; exact h.1 b h1 h2 h3 h4
  · rw [up_2, if_neg (by omega)]; exact h.2 j h1 h2 h3
theorem VM.t {V : Vy} {S S' : St} (h : VM V S) (hf : tFr S S') : VM V S' := h.go (fun a ha => hf.1 a (by omega) (by omega) (by omega) (by omega))
theorem HdM.t {S S' : St} {m : Nat} {hF hK : Nat → Nat} {hT : Nat → Int32} (hc : HdM m hF hK hT S) (hf : tFr S S') : HdM m hF hK hT S' := by
  unfold HdM at hc ⊢
  rw [hf.2 37 (by decide) (by decide) (by decide), hf.1 173 (by decide) (by decide) (by decide) (by decide), hf.1 174 (by decide) (by decide) (by decide) (by decide), hf.1 175 (by decide) (by decide) (by decide) (by decide)]
  exact hc
def Fx (S : St) (L : List Nat) (T : St) : Prop := T 142 55 = nI L.length ∧ (∀ j, j < L.length → T 178 j = nI (L.getD j 0)) ∧ tFr S T
theorem ag_upd2 {r r' : Rw} {j : Nat} {x y : Int32} (h : ag r (upd r' j x)) : ag (upd r j y) (upd r' j y) := by
  intro i hi
  unfold upd
  split
  · rfl
  · rename_i c; rw [h i hi, upd_ne c]
theorem M_fits {V : Vy} {S : St} {r : Rw} (hM : VM V S) (hr : ROk V 10000 r) (har : ag (mr S) r) (hz : S 142 41 = -1) {m : Nat} {hF hK : Nat → Nat} {hT : Nat → Int32} (hh : Hd V m hF hK hT) (hc : HdM m hF hK hT S) : ok (fX10_tellFits S) (fun T => Fx S (fnd V r m hF hK hT) T ∧ ag (mr T) r) := by
  have hV := hM.1
  have hS6 := hV.2.1
  have hF8 := hV.1
  have hW := hV.2.2.1
  generalize hPe : stP V r m hF hK hT = P
  unfold fX10_tellFits
  rw [pf_s]
  have start : Fx S [] (up S 142 55 0) ∧ ag (mr (up S 142 55 0)) r := ⟨⟨by rw [up_at]; rfl, fun j hj => absurd hj (by show ¬ j < 0; omega), tFr.rf.up (by omega)⟩, by rw [mr_up (by omega) (by omega)]; exact har⟩
  refine ok_for (fun k s T => LX10_tellFits_7 k (nI s) T) _ (fun s T => Fx S (fdS P (vF V) (vW V) s) T ∧ ag (mr T) r) (vS' V) ?_ ?_ FU 0 _ (by omega) (by unfold FU; omega) start
  · intro k T hI
    have MT := hM.t hI.1.2.2
    simp (disch := omega) only [LX10_tellFits_7, KX10_tellFits_7, rd145_2, MT.2.2.1, nI_leE, nI_ltE, nI_eqE, nI_m1, c0a, c0b, c0c, c0d, c0e, c1a, c1b, c1c, c1d, c1e, c2a, c2b, c2c, c2d, c2e, c3a, c3b, c3c, c3d, c3e, c4a, c4b, c4c, c4d, c4e, c5a, c5b, c5c, c5d, c5e, c6a, c6b, c6c, c6d, c6e, c7a, c7b, c7c, c7d, c7e, c8a, c8b, c8c, c8d, c8e, c9a, c9b, c9c, c9d, c9e, c10a, c10b, c10c, c10d, c10e, c12a, c12b, c12c, c12d, c12e, c14a, c14b, c14c, c14d, c14e, c16a, c16b, c16c, c16d, c16e, c20a, c20b, c20c, c20d, c20e, c30a, c30b, c30c, c30d, c30e, c32a, c32b, c32c, c32d, c32e, c36a, c36b, c36c, c36d, c36e, c40a, c40b, c40c, c40d, c40e, c41a, c41b, c41c, c41d, c41e, c42a, c42b, c42c, c42d, c42e, c43a, c43b, c43c, c43d, c43e, c45a, c45b, c45c, c45d, c45e, c47a, c47b, c47c, c47d, c47e, c48a, c48b, c48c, c48d, c48e, c57a, c57b, c57c, c57d, c57e, c59a, c59b, c59c, c59d, c59e, c60a, c60b, c60c, c60d, c60e, c61a, c61b, c61c, c61d, c61e, c62a, c62b, c62c, c62d, c62e, c64a, c64b, c64c, c64d, c64e, c96a, c96b, c96c, c96d, c96e, c97a, c97b, c97c, c97d, c97e, c98a, c98b, c98c, c98d, c98e, c99a, c99b, c99c, c99d, c99e, c100a, c100b, c100c, c100d, c100e, c122a, c122b, c122c, c122d, c122e, c700a, c700b, c700c, c700d, c700e, c4240a, c4240b, c4240c, c4240d, c4240e, c9999a, c9999b, c9999c, c9999d, c9999e, c100000a, c100000b, c100000c, c100000d, c100000e, c1000000a, c1000000b, c1000000c, c1000000d, c1000000e, if_T]
    refine ok_some ?_
    show Fx S (fdS (stP V r m hF hK hT) (vF V) (vW V) (vS' V)) T ∧ _
    rw [hPe]; exact hI
  · intro k s T hs hI ih
    have MT := hM.t hI.1.2.2
    obtain ⟨w0, w6⟩ := hW s hs
    simp (disch := omega) only [LX10_tellFits_7, KX10_tellFits_7, rd145_2, MT.2.2.1, nI_leE, nI_ltE, nI_eqE, nI_m1, c0a, c0b, c0c, c0d, c0e, c1a, c1b, c1c, c1d, c1e, c2a, c2b, c2c, c2d, c2e, c3a, c3b, c3c, c3d, c3e, c4a, c4b, c4c, c4d, c4e, c5a, c5b, c5c, c5d, c5e, c6a, c6b, c6c, c6d, c6e, c7a, c7b, c7c, c7d, c7e, c8a, c8b, c8c, c8d, c8e, c9a, c9b, c9c, c9d, c9e, c10a, c10b, c10c, c10d, c10e, c12a, c12b, c12c, c12d, c12e, c14a, c14b, c14c, c14d, c14e, c16a, c16b, c16c, c16d, c16e, c20a, c20b, c20c, c20d, c20e, c30a, c30b, c30c, c30d, c30e, c32a, c32b, c32c, c32d, c32e, c36a, c36b, c36c, c36d, c36e, c40a, c40b, c40c, c40d, c40e, c41a, c41b, c41c, c41d, c41e, c42a, c42b, c42c, c42d, c42e, c43a, c43b, c43c, c43d, c43e, c45a, c45b, c45c, c45d, c45e, c47a, c47b, c47c, c47d, c47e, c48a, c48b, c48c, c48d, c48e, c57a, c57b, c57c, c57d, c57e, c59a, c59b, c59c, c59d, c59e, c60a, c60b, c60c, c60d, c60e, c61a, c61b, c61c, c61d, c61e, c62a, c62b, c62c, c62d, c62e, c64a, c64b, c64c, c64d, c64e, c96a, c96b, c96c, c96d, c96e, c97a, c97b, c97c, c97d, c97e, c98a, c98b, c98c, c98d, c98e, c99a, c99b, c99c, c99d, c99e, c100a, c100b, c100c, c100d, c100e, c122a, c122b, c122c, c122d, c122e, c700a, c700b, c700c, c700d, c700e, c4240a, c4240b, c4240c, c4240d, c4240e, c9999a, c9999b, c9999c, c9999d, c9999e, c100000a, c100000b, c100000c, c100000d, c100000e, c1000000a, c1000000b, c1000000c, c1000000d, c1000000e, if_F]
    refine ok_for (fun k2 i T => LX10_tellFits_19 (LX10_tellFits_7 k) k2 (nI s) (nI i) T) _ (fun i T => Fx S (fdS P (vF V) (vW V) s ++ fdI P (vF V) s i) T ∧ ag (mr T) r) (vW V s) ?_ ?_ FU 0 T (by omega) (by unfold FU; omega) (by show Fx S (_ ++ []) T ∧ _; rw [List.append_nil]; exact hI)
    · intro k2 U hU
      have MU := hM.t hU.1.2.2
      simp (disch := omega) only [LX10_tellFits_19, KX10_tellFits_19, rd151, MU.2.2.2.1 s hs, nI_leE, nI_ltE, nI_eqE, nI_m1, c0a, c0b, c0c, c0d, c0e, c1a, c1b, c1c, c1d, c1e, c2a, c2b, c2c, c2d, c2e, c3a, c3b, c3c, c3d, c3e, c4a, c4b, c4c, c4d, c4e, c5a, c5b, c5c, c5d, c5e, c6a, c6b, c6c, c6d, c6e, c7a, c7b, c7c, c7d, c7e, c8a, c8b, c8c, c8d, c8e, c9a, c9b, c9c, c9d, c9e, c10a, c10b, c10c, c10d, c10e, c12a, c12b, c12c, c12d, c12e, c14a, c14b, c14c, c14d, c14e, c16a, c16b, c16c, c16d, c16e, c20a, c20b, c20c, c20d, c20e, c30a, c30b, c30c, c30d, c30e, c32a, c32b, c32c, c32d, c32e, c36a, c36b, c36c, c36d, c36e, c40a, c40b, c40c, c40d, c40e, c41a, c41b, c41c, c41d, c41e, c42a, c42b, c42c, c42d, c42e, c43a, c43b, c43c, c43d, c43e, c45a, c45b, c45c, c45d, c45e, c47a, c47b, c47c, c47d, c47e, c48a, c48b, c48c, c48d, c48e, c57a, c57b, c57c, c57d, c57e, c59a, c59b, c59c, c59d, c59e, c60a, c60b, c60c, c60d, c60e, c61a, c61b, c61c, c61d, c61e, c62a, c62b, c62c, c62d, c62e, c64a, c64b, c64c, c64d, c64e, c96a, c96b, c96c, c96d, c96e, c97a, c97b, c97c, c97d, c97e, c98a, c98b, c98c, c98d, c98e, c99a, c99b, c99c, c99d, c99e, c100a, c100b, c100c, c100d, c100e, c122a, c122b, c122c, c122d, c122e, c700a, c700b, c700c, c700d, c700e, c4240a, c4240b, c4240c, c4240d, c4240e, c9999a, c9999b, c9999c, c9999d, c9999e, c100000a, c100000b, c100000c, c100000d, c100000e, c1000000a, c1000000b, c1000000c, c1000000d, c1000000e, if_T, vl_s, ra1]
      exact ih U hU
    · intro k2 i U hi hU ih2
      have MU := hM.t hU.1.2.2
      have hi6 : i < 6 := by omega
      have was : U 161 (6 * s + i) = r (62 + s * 6 + i) := by rw [← mr_w (S := U) (q := s) (t := i) (by omega)]; exact hU.2 _ (by omega)
      simp (disch := omega) only [LX10_tellFits_19, KX10_tellFits_19, rd151, MU.2.2.2.1 s hs, nI_leE, nI_ltE, nI_eqE, nI_m1, c0a, c0b, c0c, c0d, c0e, c1a, c1b, c1c, c1d, c1e, c2a, c2b, c2c, c2d, c2e, c3a, c3b, c3c, c3d, c3e, c4a, c4b, c4c, c4d, c4e, c5a, c5b, c5c, c5d, c5e, c6a, c6b, c6c, c6d, c6e, c7a, c7b, c7c, c7d, c7e, c8a, c8b, c8c, c8d, c8e, c9a, c9b, c9c, c9d, c9e, c10a, c10b, c10c, c10d, c10e, c12a, c12b, c12c, c12d, c12e, c14a, c14b, c14c, c14d, c14e, c16a, c16b, c16c, c16d, c16e, c20a, c20b, c20c, c20d, c20e, c30a, c30b, c30c, c30d, c30e, c32a, c32b, c32c, c32d, c32e, c36a, c36b, c36c, c36d, c36e, c40a, c40b, c40c, c40d, c40e, c41a, c41b, c41c, c41d, c41e, c42a, c42b, c42c, c42d, c42e, c43a, c43b, c43c, c43d, c43e, c45a, c45b, c45c, c45d, c45e, c47a, c47b, c47c, c47d, c47e, c48a, c48b, c48c, c48d, c48e, c57a, c57b, c57c, c57d, c57e, c59a, c59b, c59c, c59d, c59e, c60a, c60b, c60c, c60d, c60e, c61a, c61b, c61c, c61d, c61e, c62a, c62b, c62c, c62d, c62e, c64a, c64b, c64c, c64d, c64e, c96a, c96b, c96c, c96d, c96e, c97a, c97b, c97c, c97d, c97e, c98a, c98b, c98c, c98d, c98e, c99a, c99b, c99c, c99d, c99e, c100a, c100b, c100c, c100d, c100e, c122a, c122b, c122c, c122d, c122e, c700a, c700b, c700c, c700d, c700e, c4240a, c4240b, c4240c, c4240d, c4240e, c9999a, c9999b, c9999c, c9999d, c9999e, c100000a, c100000b, c100000c, c100000d, c100000e, c1000000a, c1000000b, c1000000c, c1000000d, c1000000e, if_F, lm6, nI_add, rd161, was]
      have agU : ∃ x, ag (mr U) (upd r (62 + s * 6 + i) x) := ⟨r (62 + s * 6 + i), fun q hq => by
        rw [hU.2 q hq]; unfold upd; split
        · rename_i c; rw [c]
        · rfl⟩
      refine ok_for (fun k3 f X => LX10_tellFits_44 (LX10_tellFits_7 k) (LX10_tellFits_19 (LX10_tellFits_7 k) k2) k3 (nI s) (nI i) (r (62 + s * 6 + i)) (nI f) X) _ (fun f X => Fx S (fdS P (vF V) (vW V) s ++ fdI P (vF V) s i ++ fdF P (s * 100 + i * 10) f) X ∧ ∃ x, ag (mr X) (upd r (62 + s * 6 + i) x)) (vF V) ?_ ?_ FU 0 U (by omega) (by unfold FU; omega) (by show Fx S (_ ++ []) U ∧ _; rw [List.append_nil]; exact ⟨hU.1, agU⟩)
      · intro k3 X hX
        have MX := hM.t hX.1.2.2
        obtain ⟨⟨x1, x2, x3⟩, x, hx⟩ := hX
        simp (disch := omega) only [LX10_tellFits_44, KX10_tellFits_44, rd145_0, MX.2.1, nI_leE, nI_ltE, nI_eqE, nI_m1, c0a, c0b, c0c, c0d, c0e, c1a, c1b, c1c, c1d, c1e, c2a, c2b, c2c, c2d, c2e, c3a, c3b, c3c, c3d, c3e, c4a, c4b, c4c, c4d, c4e, c5a, c5b, c5c, c5d, c5e, c6a, c6b, c6c, c6d, c6e, c7a, c7b, c7c, c7d, c7e, c8a, c8b, c8c, c8d, c8e, c9a, c9b, c9c, c9d, c9e, c10a, c10b, c10c, c10d, c10e, c12a, c12b, c12c, c12d, c12e, c14a, c14b, c14c, c14d, c14e, c16a, c16b, c16c, c16d, c16e, c20a, c20b, c20c, c20d, c20e, c30a, c30b, c30c, c30d, c30e, c32a, c32b, c32c, c32d, c32e, c36a, c36b, c36c, c36d, c36e, c40a, c40b, c40c, c40d, c40e, c41a, c41b, c41c, c41d, c41e, c42a, c42b, c42c, c42d, c42e, c43a, c43b, c43c, c43d, c43e, c45a, c45b, c45c, c45d, c45e, c47a, c47b, c47c, c47d, c47e, c48a, c48b, c48c, c48d, c48e, c57a, c57b, c57c, c57d, c57e, c59a, c59b, c59c, c59d, c59e, c60a, c60b, c60c, c60d, c60e, c61a, c61b, c61c, c61d, c61e, c62a, c62b, c62c, c62d, c62e, c64a, c64b, c64c, c64d, c64e, c96a, c96b, c96c, c96d, c96e, c97a, c97b, c97c, c97d, c97e, c98a, c98b, c98c, c98d, c98e, c99a, c99b, c99c, c99d, c99e, c100a, c100b, c100c, c100d, c100e, c122a, c122b, c122c, c122d, c122e, c700a, c700b, c700c, c700d, c700e, c4240a, c4240b, c4240c, c4240d, c4240e, c9999a, c9999b, c9999c, c9999d, c9999e, c100000a, c100000b, c100000c, c100000d, c100000e, c1000000a, c1000000b, c1000000c, c1000000d, c1000000e, if_T, lm6, nI_add, wr161, vl_s, ra1]
        refine ih2 _ ⟨?_, ?_⟩
        · show Fx S (_ ++ (_ ++ _)) _
          rw [← List.append_assoc]
          exact ⟨by rw [up_ne (by decide)]; exact x1, fun j hj => by rw [up_ne (by decide)]; exact x2 j hj, x3.up (by omega)⟩
        · rw [mr_uW (by omega), show 62 + (6 * s + i) = 62 + s * 6 + i by omega]
          refine (ag_upd2 hx).tr (fun q _ => ?_)
          unfold upd; split
          · rename_i c; rw [c]
          · rfl
      · intro k3 f X hf hX ih3
        have MX := hM.t hX.1.2.2
        obtain ⟨⟨x1, x2, x3⟩, x, hx⟩ := hX
        obtain ⟨d1, d2, d3⟩ := code_d (s := s) (f := f) hi6 (by omega : f < 8)
        have eP : P (s * 100 + i * 10 + f) = (decide (¬ nI f = r (62 + s * 6 + i)) && asH V (upd r (62 + s * 6 + i) (nI f)) m hF hK hT) := by
          rw [← hPe]; unfold stP rwC; rw [d1, d2, d3]
        simp (disch := omega) only [LX10_tellFits_44, KX10_tellFits_44, rd145_0, MX.2.1, nI_leE, nI_ltE, nI_eqE, nI_m1, c0a, c0b, c0c, c0d, c0e, c1a, c1b, c1c, c1d, c1e, c2a, c2b, c2c, c2d, c2e, c3a, c3b, c3c, c3d, c3e, c4a, c4b, c4c, c4d, c4e, c5a, c5b, c5c, c5d, c5e, c6a, c6b, c6c, c6d, c6e, c7a, c7b, c7c, c7d, c7e, c8a, c8b, c8c, c8d, c8e, c9a, c9b, c9c, c9d, c9e, c10a, c10b, c10c, c10d, c10e, c12a, c12b, c12c, c12d, c12e, c14a, c14b, c14c, c14d, c14e, c16a, c16b, c16c, c16d, c16e, c20a, c20b, c20c, c20d, c20e, c30a, c30b, c30c, c30d, c30e, c32a, c32b, c32c, c32d, c32e, c36a, c36b, c36c, c36d, c36e, c40a, c40b, c40c, c40d, c40e, c41a, c41b, c41c, c41d, c41e, c42a, c42b, c42c, c42d, c42e, c43a, c43b, c43c, c43d, c43e, c45a, c45b, c45c, c45d, c45e, c47a, c47b, c47c, c47d, c47e, c48a, c48b, c48c, c48d, c48e, c57a, c57b, c57c, c57d, c57e, c59a, c59b, c59c, c59d, c59e, c60a, c60b, c60c, c60d, c60e, c61a, c61b, c61c, c61d, c61e, c62a, c62b, c62c, c62d, c62e, c64a, c64b, c64c, c64d, c64e, c96a, c96b, c96c, c96d, c96e, c97a, c97b, c97c, c97d, c97e, c98a, c98b, c98c, c98d, c98e, c99a, c99b, c99c, c99d, c99e, c100a, c100b, c100c, c100d, c100e, c122a, c122b, c122c, c122d, c122e, c700a, c700b, c700c, c700d, c700e, c4240a, c4240b, c4240c, c4240d, c4240e, c9999a, c9999b, c9999c, c9999d, c9999e, c100000a, c100000b, c100000c, c100000d, c100000e, c1000000a, c1000000b, c1000000c, c1000000d, c1000000e, if_F, lm6, lm10, lm100, nI_add, wr161, BX10_tellFits_115, vl_s, ra1]
        generalize hX1 : up X 161 (6 * s + i) (nI f) = X1
        have agX : ag (mr X1) (upd r (62 + s * 6 + i) (nI f)) := by
          rw [← hX1, mr_uW (by omega), show 62 + (6 * s + i) = 62 + s * 6 + i by omega]
          exact ag_upd2 hx
        have fxX : Fx S (fdS P (vF V) (vW V) s ++ fdI P (vF V) s i ++ fdF P (s * 100 + i * 10) f) X1 := by
          rw [← hX1]
          exact ⟨by rw [up_ne (by decide)]; exact x1, fun j hj => by rw [up_ne (by decide)]; exact x2 j hj, x3.up (by omega)⟩
        have skip : ∀ Y, P (s * 100 + i * 10 + f) = false → Fx S (fdS P (vF V) (vW V) s ++ fdI P (vF V) s i ++ fdF P (s * 100 + i * 10) f) Y → ag (mr Y) (upd r (62 + s * 6 + i) (nI f)) → ok (LX10_tellFits_44 (LX10_tellFits_7 k) (LX10_tellFits_19 (LX10_tellFits_7 k) k2) k3 (nI s) (nI i) (r (62 + s * 6 + i)) (nI (f + 1)) Y) (fun T => Fx S (fnd V r m hF hK hT) T ∧ ag (mr T) r) := by
          intro Y hPf hY hY2
          refine ih3 Y ⟨?_, _, hY2⟩
          show Fx S (_ ++ (_ ++ (if P (s * 100 + i * 10 + f) then _ else _))) Y
          rw [hPf, if_neg (by decide), List.append_nil]; exact hY
        by_cases c : nI f = r (62 + s * 6 + i)
        · rw [if_pos c]
          exact skip X1 (by rw [eP]; simp [c]) fxX agX
        · rw [if_neg c]
          have ro := ROk_w hV hr (s := s) (i := i) (f := f) (by omega) hi6 hf
          obtain ⟨⟨y, Y⟩, e2, q1, q2, q3⟩ := M_asH (hM.t fxX.2.2) (ag_ROk hV agX.sm ro) (by rw [fxX.2.2.2 41 (by decide) (by decide) (by decide)]; exact hz) hh (hc.t fxX.2.2)
          have q2' : ag (mr Y) (mr X1) := q2
          have q3' : kFr X1 Y := q3
          have e0 : asH V (mr X1) m hF hK hT = asH V (upd r (62 + s * 6 + i) (nI f)) m hF hK hT := rg_asH hV (agX.w hV) (ag_ROk hV agX.sm ro) hh
          have fxY : Fx S (fdS P (vF V) (vW V) s ++ fdI P (vF V) s i ++ fdF P (s * 100 + i * 10) f) Y := ⟨by rw [q3'.2 55 (by decide) (by decide)]; exact fxX.1, fun j hj => by rw [q3'.1 178 (by decide) (by decide) (by decide)]; exact fxX.2.1 j hj, fxX.2.2.k q3'⟩
          rw [e2, bd_s, show y = _ from q1, e0]
          cases hb : asH V (upd r (62 + s * 6 + i) (nI f)) m hF hK hT with
          | false =>
            rw [if_pos (show b2i false = 0 from rfl)]
            exact skip Y (by rw [eP, hb]; simp) fxY (q2'.tr agX)
          | true =>
            rw [if_neg (show ¬ b2i true = 0 by decide)]
            have len1 := fdS_len (P := P) (w := vW V) hF8 s (fun q hq => (hW q (by omega)).2)
            have len2 := fdI_len (P := P) (F := vF V) (s := s) i
            have len3 := fdF_len (P := P) (c0 := s * 100 + i * 10) f
            have len4 : i * vF V ≤ 5 * 8 := Nat.mul_le_mul (by omega) hF8
            have lenA : (fdS P (vF V) (vW V) s ++ fdI P (vF V) s i ++ fdF P (s * 100 + i * 10) f).length < 288 := by
              rw [List.length_append, List.length_append]; omega
            have hPt : P (s * 100 + i * 10 + f) = true := by rw [eP, hb]; simp [c]
            obtain ⟨y1, y2, y3⟩ := fxY
            rw [y1, wr178 lenA, pf_s, up_ne (by decide), y1, nI_1, show 100 * s + 10 * i + f = s * 100 + i * 10 + f by omega]
            refine ih3 _ ⟨?_, nI f, ?_⟩
            · show Fx S (_ ++ (_ ++ (if P (s * 100 + i * 10 + f) then _ else _))) _
              rw [hPt, if_pos rfl, ← List.append_assoc]
              generalize hLe : fdS P (vF V) (vW V) s ++ fdI P (vF V) s i ++ fdF P (s * 100 + i * 10) f = L at *
              refine ⟨by rw [up_at, List.length_append]; rfl, fun j hj => ?_, (y3.up (by omega)).up (by omega)⟩
              rw [List.length_append] at hj
              have hj' : j < L.length + 1 := hj
              rw [up_ne (by decide), up_row]
              by_cases cj : j = L.length
              · rw [cj, upd_at, gd_r]
              · rw [upd_ne cj, gd_l (by omega)]; exact y2 j (by omega)
            · rw [mr_up (by omega) (by omega), mr_up (by omega) (by omega)]; exact q2'.tr agX
theorem fnd_len {V : Vy} (hV : VOk V) {r : Rw} {m : Nat} {hF hK : Nat → Nat} {hT : Nat → Int32} : (fnd V r m hF hK hT).length ≤ 288 := by
  have := fdS_len (P := stP V r m hF hK hT) (w := vW V) hV.1 (vS' V) (fun q hq => (hV.2.2.1 q hq).2)
  have h6 := hV.2.1
  unfold fnd
  omega
theorem fdF_congr {P P' : Nat → Bool} {c0 : Nat} : ∀ F, (∀ f, f < F → P (c0 + f) = P' (c0 + f)) → fdF P c0 F = fdF P' c0 F := by
  intro F
  induction F with
  | zero => intro _; rfl
  | succ F ih => intro h; show fdF P c0 F ++ _ = fdF P' c0 F ++ _; rw [ih (fun f hf => h f (by omega)), h F (by omega)]
theorem fdI_congr {P P' : Nat → Bool} {F s : Nat} : ∀ w, (∀ i f, i < w → f < F → P (s * 100 + i * 10 + f) = P' (s * 100 + i * 10 + f)) → fdI P F s w = fdI P' F s w := by
  intro w
  induction w with
  | zero => intro _; rfl
  | succ w ih => intro h; show fdI P F s w ++ _ = fdI P' F s w ++ _; rw [ih (fun i f hi hf => h i f (by omega) hf), fdF_congr F (fun f hf => h w f (by omega) hf)]
theorem fdS_congr {P P' : Nat → Bool} {F : Nat} {w : Nat → Nat} : ∀ n, (∀ s i f, s < n → i < w s → f < F → P (s * 100 + i * 10 + f) = P' (s * 100 + i * 10 + f)) → fdS P F w n = fdS P' F w n := by
  intro n
  induction n with
  | zero => intro _; rfl
  | succ n ih => intro h; show fdS P F w n ++ _ = fdS P' F w n ++ _; rw [ih (fun s i f hs hi hf => h s i f (by omega) hi hf), fdI_congr (w n) (fun i f hi hf => h n i f (by omega) hi hf)]
theorem rg_fnd {V : Vy} (hV : VOk V) {r r' : Rw} (h : rg V r r') (hr : ROk V 10000 r) {m : Nat} {hF hK : Nat → Nat} {hT : Nat → Int32} (hh : Hd V m hF hK hT) : fnd V r m hF hK hT = fnd V r' m hF hK hT := by
  refine fdS_congr _ (fun s i f hs hi hf => ?_)
  have h6 := hV.2.1
  have h8 := hV.1
  have w6 := (hV.2.2.1 s hs).2
  obtain ⟨d1, d2, d3⟩ := code_d (s := s) (i := i) (f := f) (by omega) (by omega)
  unfold stP rwC
  rw [d1, d2, d3, h _ (rl_w hs hi), rg_asH hV (rg_upd h) (ROk_w hV hr (by omega) (by omega) hf) hh]
theorem hdL_at {L : List Nat} (h : L.length ≠ 0) : hdL L = nI (L.getD 0 0) := by
  cases L with
  | nil => exact absurd rfl h
  | cons a b => rfl
theorem mK_t {S T : St} (h : tFr (up S 142 3 0) T) (ha : ag (mr T) (mr S)) : mK S T ∧ T 142 3 = 0 := by
  refine ⟨⟨ha, fun a h1 => ?_, fun j hj => ?_⟩, ?_⟩
  · rw [h.1 a (by omega) (by omega) (by omega) (by omega), up_ne (by omega)]
  · rw [h.2 j (by omega) (by omega) (by omega), up_off (by omega)]
  · rw [h.2 3 (by decide) (by decide) (by decide), up_at]
theorem A_otherwise {nX : Int32} (a1 : Int32) : Agr nX (fX9_otherwise a1) (fX10_otherwise a1) := by
  refine look (fun S V v d hR => ?_)
  have hV := hR.vk
  have hF8 := hV.1
  have hv := hR.hv
  obtain ⟨m, hF, hK, hT, hh, hcC, hcM⟩ := hR.hd
  have ref0 : ∀ T, cK S T → VM V (up T 142 3 0) ∧ rg V (mr (up T 142 3 0)) (S 37) ∧ (up T 142 3 0) 142 41 = -1 ∧ HdM m hF hK hT (up T 142 3 0) ∧ mr (up T 142 3 0) = mr T := by
    intro T hT1
    refine ⟨(hR.c hT1).M.go (fun a ha => up_ne (by omega)), ?_, ?_, ?_, mr_up (by omega) (by omega)⟩
    · rw [mr_up (by omega) (by omega), hT1.mr]; exact hR.rag.sm
    · rw [up_off (by decide)]; exact (hR.c hT1).z
    · unfold HdM at hcM ⊢
      rw [up_off (by decide), up_ne (by decide), up_ne (by decide), up_ne (by decide), hT1 142 (by decide) (by decide) (by decide) (by decide) (by decide), hT1 173 (by decide) (by decide) (by decide) (by decide) (by decide), hT1 174 (by decide) (by decide) (by decide) (by decide) (by decide), hT1 175 (by decide) (by decide) (by decide) (by decide) (by decide)]
      exact hcM
  rcases arg2 a1 (lo := 0) (hi := 2) (by decide) (by decide) with ⟨w, -, hw, rfl⟩ | h4
  · have needs : fX9_needWhat (nI w) 2 S = some (.inl 0, S) := C_nW_t (m := 2) hw (by decide)
    have isin : ∀ T : St, fX10_isIn (nI w).toInt64 0 2 T = some (1, T) := fun T => M_in_t (lo := 0) (hi := 2) (by omega) hw (by decide) T
    by_cases c2 : w = 2
    · subst c2
      refine ⟨.inl (b2i (asH V (S 37) m hF hK hT)), ?_, fun T hT1 => ?_⟩
      · have v0 : up S 137 5 (S v 0) 0 3 = nI v := by rw [up_ne (by decide)]; exact hR.2.1
        have rS : Rl V v d (up S 137 5 (S v 0)) := hR.c (cK.rf.up (by omega))
        obtain ⟨⟨x, S2⟩, e2, q1, q2, -⟩ := C_holds rS (m := m) (hF := hF) (hK := hK) (hT := hT) hh (by unfold HdC at hcC ⊢; rw [up_ne (by decide), up_ne (by decide), up_ne (by decide), up_ne (by decide)]; exact hcC) (by rw [up_at]; exact hR.C.2.2.1) (a3 := -1) (a4 := -1) (r := S 37) (Or.inl ⟨rfl, by rw [up_ne (by decide)]⟩) hR.rok
        have q2' : oFr (up S 137 5 (S v 0)) S2 := q2
        have kS : cK S S2 := (cK.rf.up (by omega)).tr q2'.k
        unfold fX9_otherwise
        rw [needs, bt_s, if_pos (show nI 2 = 2 from rfl), gm_v hR.2.1 hv]
        unfold fX1_holdsAsItIs
        rw [pf_s, e2, bd_s, show x = _ from q1]
        cases asH V (S 37) m hF hK hT with
        | true => exact ok_some ⟨rfl, kS⟩
        | false => exact ok_some ⟨rfl, kS⟩
      · obtain ⟨M0, ag0, z0, hd0, m0⟩ := ref0 T hT1
        obtain ⟨⟨x, T2⟩, e2, q1, q2, q3⟩ := M_asH M0 (rg_ROk hV ag0.sm hR.rok) z0 hh hd0
        have q2' : ag (mr T2) (mr (up T 142 3 0)) := q2
        have q3' : kFr (up T 142 3 0) T2 := q3
        have eq : asH V (mr (up T 142 3 0)) m hF hK hT = asH V (S 37) m hF hK hT := rg_asH hV ag0 (rg_ROk hV ag0.sm hR.rok) hh
        have fin := mK_t (S := T) (tFr.rf.k q3') (by rw [← m0]; exact q2')
        unfold fX10_otherwise
        rw [pf_s, isin, bd_s, if_neg (by decide), if_pos (show nI 2 = 2 from rfl), e2, bd_s, show x = _ from q1, eq]
        cases asH V (S 37) m hF hK hT with
        | true => exact ok_some ⟨fin.1, fin.2, rfl⟩
        | false => exact ok_some ⟨fin.1, fin.2, rfl⟩
    · obtain ⟨S1, e1, x1, x2, x3, x4, x5⟩ := C_explore hR hh hcC
      have lenL := fnd_len hV (r := S 37) (m := m) (hF := hF) (hK := hK) (hT := hT)
      generalize hL : fnd V (S 37) m hF hK hT = L at *
      have ne2 : ¬ nI w = 2 := by rw [show (2 : Int32) = nI 2 from rfl, nI_eq (by omega) (by omega)]; exact c2
      refine ⟨.inl (if w = 0 then nI L.length else hdL L), ?_, fun T hT1 => ?_⟩
      · unfold fX9_otherwise
        rw [needs, bt_s, if_neg ne2, gm_v hR.2.1 hv, e1, bv_s, x1, x2]
        by_cases c0 : w = 0
        · subst c0
          rw [if_pos (show nI 0 = 0 from rfl), if_pos rfl]; exact ok_some ⟨rfl, x5⟩
        · rw [if_neg (by rw [show (0 : Int32) = nI 0 from rfl, nI_eq (by omega) (by omega)]; exact c0), if_neg c0]; exact ok_some ⟨rfl, x5⟩
      · obtain ⟨M0, ag0, z0, hd0, m0⟩ := ref0 T hT1
        obtain ⟨T2, e2, ⟨q1, q2, q3⟩, q4⟩ := M_fits M0 (rg_ROk hV ag0.sm hR.rok) ag.rf z0 hh hd0
        rw [rg_fnd hV ag0 (rg_ROk hV ag0.sm hR.rok) hh, hL] at q1 q2
        have fin := mK_t (S := T) q3 (by rw [← m0]; exact q4)
        unfold fX10_otherwise
        rw [pf_s, isin, bd_s, if_neg (by decide), if_neg ne2, e2, bv_s, q1]
        by_cases c0 : w = 0
        · subst c0
          rw [if_pos (show nI 0 = 0 from rfl)]
          exact ok_some ⟨fin.1, fin.2, (if_pos rfl).symm⟩
        · rw [if_neg (by rw [show (0 : Int32) = nI 0 from rfl, nI_eq (by omega) (by omega)]; exact c0)]
          by_cases cl : L.length = 0
          · rw [cl, if_pos (show nI 0 = 0 from rfl)]
            refine ok_some ⟨fin.1, fin.2, ?_⟩
            show (-1 : Int32) = if w = 0 then nI 0 else hdL L
            rw [if_neg c0, List.length_eq_zero_iff.mp cl]; rfl
          · rw [if_neg (by rw [show (0 : Int32) = nI 0 from rfl, nI_eq (by omega) (by omega)]; exact cl), rd178_0]
            refine ok_some ⟨fin.1, fin.2, ?_⟩
            show T2 178 0 = if w = 0 then nI L.length else hdL L
            rw [if_neg c0, hdL_at cl, q2 0 (by omega)]
  · refine ⟨.inr 1, ?_, fun T hT1 => ?_⟩
    · unfold fX9_otherwise
      rw [show fX9_needWhat a1 2 S = some (.inr 1, S) from C_nW_f (m := 2) (by decide) h4, bt_x]
      exact ok_some ⟨rfl, cK.rf⟩
    · unfold fX10_otherwise
      rw [pf_s, show fX10_isIn a1.toInt64 0 2 (up T 142 3 0) = some (0, up T 142 3 0) from M_in_f (lo := 0) (hi := 2) (by decide) h4 (by decide) _, bd_s, if_pos rfl, m_fail]
      exact ok_some ⟨mKx, Or.inl ⟨rfl, rfl⟩⟩
