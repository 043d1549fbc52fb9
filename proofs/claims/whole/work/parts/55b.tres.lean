/-- so many, by one or against one -/
def trW (V : Vy) (r : Rw) (s : Nat) (w n : Nat) : Nat := if w = 0 then trB V r s n else trA V r s n
theorem M_tres {V : Vy} {v d : Nat} {S : St} (h : Rl V v d S) {s n w : Nat} (hs : s < vS' V) (hn : n ≤ 60) (hw : w ≤ 1) : ∃ T1, fX10_pack 169 0 (up S 142 3 0) = some T1 ∧ ok (LX10_trespasses_61 FU (nI s) (nI n) (nI w) 0 0 T1) (fun q => q.1 = nI (trW V (S 37) s w n) ∧ mK S q.2 ∧ q.2 142 3 = 0) := by
  have hV := h.vk
  have hS6 := hV.2.1
  have hF8 := hV.1
  obtain ⟨T1, e1, e1', m1, m2, m3, m4, m5⟩ := M_lay h
  have ha : rg V (mr T1) (S 37) := by rw [m2]; exact h.rag.sm
  refine ⟨T1, e1, ?_⟩
  refine ok_for (σ := Int32 × St) (fun k i T => LX10_trespasses_61 k (nI s) (nI n) (nI w) T.1 (nI i) T.2) _ (fun i T => T.1 = nI (trW V (mr T1) s w i) ∧ mr T.2 = hrs V (mr T1) i ∧ mFr T1 T.2) n ?_ ?_ FU 0 (0, T1) (by omega) (by unfold FU; omega) ⟨?_, rfl, mFr.rf⟩
  · intro k T hI
    obtain ⟨i1, i2, i3⟩ := hI
    rw [e1'] at i3
    obtain ⟨T3, e3, c1, c2, c3⟩ := M_back i3
    simp (disch := omega) only [LX10_trespasses_61, KX10_trespasses_61, nI_leE, nI_ltE, nI_eqE, nI_m1, c0a, c0b, c0c, c0d, c0e, c1a, c1b, c1c, c1d, c1e, c2a, c2b, c2c, c2d, c2e, c3a, c3b, c3c, c3d, c3e, c4a, c4b, c4c, c4d, c4e, c5a, c5b, c5c, c5d, c5e, c6a, c6b, c6c, c6d, c6e, c7a, c7b, c7c, c7d, c7e, c8a, c8b, c8c, c8d, c8e, c9a, c9b, c9c, c9d, c9e, c10a, c10b, c10c, c10d, c10e, c12a, c12b, c12c, c12d, c12e, c14a, c14b, c14c, c14d, c14e, c16a, c16b, c16c, c16d, c16e, c20a, c20b, c20c, c20d, c20e, c30a, c30b, c30c, c30d, c30e, c32a, c32b, c32c, c32d, c32e, c36a, c36b, c36c, c36d, c36e, c40a, c40b, c40c, c40d, c40e, c41a, c41b, c41c, c41d, c41e, c42a, c42b, c42c, c42d, c42e, c43a, c43b, c43c, c43d, c43e, c45a, c45b, c45c, c45d, c45e, c47a, c47b, c47c, c47d, c47e, c48a, c48b, c48c, c48d, c48e, c57a, c57b, c57c, c57d, c57e, c59a, c59b, c59c, c59d, c59e, c60a, c60b, c60c, c60d, c60e, c61a, c61b, c61c, c61d, c61e, c62a, c62b, c62c, c62d, c62e, c64a, c64b, c64c, c64d, c64e, c96a, c96b, c96c, c96d, c96e, c97a, c97b, c97c, c97d, c97e, c98a, c98b, c98c, c98d, c98e, c99a, c99b, c99c, c99d, c99e, c100a, c100b, c100c, c100d, c100e, c122a, c122b, c122c, c122d, c122e, c700a, c700b, c700c, c700d, c700e, c4240a, c4240b, c4240c, c4240d, c4240e, c9999a, c9999b, c9999c, c9999d, c9999e, c100000a, c100000b, c100000c, c100000d, c100000e, c1000000a, c1000000b, c1000000c, c1000000d, c1000000e, if_T, e3, bd_s, bv_s, bt_s, bt_x, vl_s, pf_s, ri_s, rz_0, rz_1, tri_s, trz_0, trz_1, trx_s, pz_0, pz_1, nI_add, pk_mul, up_at, la2, la5, la6, la8, la14, la62, la64, la98, la700, ra1, ra2, ra6, ra8, ra12, ra20, ra36, ra48, lm6, lm8, lm10, lm100, lm106, rm6, rm8, rm10, rm100, rm106]
    refine ok_some ⟨?_, mK0.tr c1, ?_⟩
    · show T.1 = _
      rw [i1]
      refine congrArg nI ?_
      unfold trW
      split
      · exact rg_trB hV ha m3 hs n (by omega)
      · unfold trA
        apply sm_congr
        intro f hf
        rw [ha (98 + f) (rl_a (by omega) (by omega) (by omega)), rg_trT hV ha m3 n (by omega)]
    · show T3 142 3 = 0
      rw [c3 3 (by decide) (by decide), i3.2 3 (by decide) (by decide), row_ne (by decide), up_at]
  · intro k i T hi hI ih
    obtain ⟨i1, i2, i3⟩ := hI
    obtain ⟨ro, ro2, -⟩ := hrs_ok m3 hV i (by omega)
    have hM : VM V T.2 := m1.fr i3
    obtain ⟨T2, e2, g1, -, g3, g4⟩ := M_hour hM (by rw [i2]; exact ro) (by omega) (by rw [i3.2 41 (by decide) (by decide)]; exact m4)
    have hM2 : VM V T2 := hM.fr g4
    have hS := hM2.2.2.1
    have ow : ∀ t, t < vF V → T2 162 t = mr T1 (98 + t) := fun t ht => by
      rw [← mr_o (S := T2) (t := t), g1, i2, (hr1_ok ro hV (by omega)).2.1 _ (by omega), ro2 _ (by omega)]
    simp (disch := omega) only [LX10_trespasses_61, KX10_trespasses_61, nI_leE, nI_ltE, nI_eqE, nI_m1, c0a, c0b, c0c, c0d, c0e, c1a, c1b, c1c, c1d, c1e, c2a, c2b, c2c, c2d, c2e, c3a, c3b, c3c, c3d, c3e, c4a, c4b, c4c, c4d, c4e, c5a, c5b, c5c, c5d, c5e, c6a, c6b, c6c, c6d, c6e, c7a, c7b, c7c, c7d, c7e, c8a, c8b, c8c, c8d, c8e, c9a, c9b, c9c, c9d, c9e, c10a, c10b, c10c, c10d, c10e, c12a, c12b, c12c, c12d, c12e, c14a, c14b, c14c, c14d, c14e, c16a, c16b, c16c, c16d, c16e, c20a, c20b, c20c, c20d, c20e, c30a, c30b, c30c, c30d, c30e, c32a, c32b, c32c, c32d, c32e, c36a, c36b, c36c, c36d, c36e, c40a, c40b, c40c, c40d, c40e, c41a, c41b, c41c, c41d, c41e, c42a, c42b, c42c, c42d, c42e, c43a, c43b, c43c, c43d, c43e, c45a, c45b, c45c, c45d, c45e, c47a, c47b, c47c, c47d, c47e, c48a, c48b, c48c, c48d, c48e, c57a, c57b, c57c, c57d, c57e, c59a, c59b, c59c, c59d, c59e, c60a, c60b, c60c, c60d, c60e, c61a, c61b, c61c, c61d, c61e, c62a, c62b, c62c, c62d, c62e, c64a, c64b, c64c, c64d, c64e, c96a, c96b, c96c, c96d, c96e, c97a, c97b, c97c, c97d, c97e, c98a, c98b, c98c, c98d, c98e, c99a, c99b, c99c, c99d, c99e, c100a, c100b, c100c, c100d, c100e, c122a, c122b, c122c, c122d, c122e, c700a, c700b, c700c, c700d, c700e, c4240a, c4240b, c4240c, c4240d, c4240e, c9999a, c9999b, c9999c, c9999d, c9999e, c100000a, c100000b, c100000c, c100000d, c100000e, c1000000a, c1000000b, c1000000c, c1000000d, c1000000e, if_F, e2, bd_s, bv_s, bt_s, bt_x, vl_s, pf_s, ri_s, rz_0, rz_1, tri_s, trz_0, trz_1, trx_s, pz_0, pz_1, nI_add, pk_mul, up_at, la2, la5, la6, la8, la14, la62, la64, la98, la700, ra1, ra2, ra6, ra8, ra12, ra20, ra36, ra48, lm6, lm8, lm10, lm100, lm106, rm6, rm8, rm10, rm100, rm106]
    refine ok_for (σ := Int32) (fun m q x => LX10_trespasses_74 (LX10_trespasses_61 k) m (nI s) (nI n) (nI w) x (nI i) (nI q) T2) _ (fun q x => x = nI (trW V (mr T1) s w i + cnt (fun q => if w = 0 then decide (¬ trI V (hrs V (mr T1) i) q = -1) && decide (q = s) else trH V (hrs V (mr T1) i) s q) q)) (vS' V) ?_ ?_ FU 0 _ (by omega) (by unfold FU; omega) i1
    · intro m x hx
      simp (disch := omega) only [LX10_trespasses_74, KX10_trespasses_74, rd145, rd146, rd147, rd148, rd149, rd150, rd151, rd152, rd153, rd154, rd155, rd156, rd157, rd158, rd159, rd160, rd161, rd162, rd163, rd164, rd165, rd166, rd167, rd168, rd169, rd170, rd171, rd172, rd173, rd174, rd175, rd176, rd177, rd178, rd179, rd180, rd181, rd182, rd183, rd184, rd185, rd145_0, rd145_2, rd145_3, rd145_4, rd145_5, rd145_6, rd145_7, rd156_0, rd156_1, rd166_0, rd178_0, hS, nI_leE, nI_ltE, nI_eqE, nI_m1, c0a, c0b, c0c, c0d, c0e, c1a, c1b, c1c, c1d, c1e, c2a, c2b, c2c, c2d, c2e, c3a, c3b, c3c, c3d, c3e, c4a, c4b, c4c, c4d, c4e, c5a, c5b, c5c, c5d, c5e, c6a, c6b, c6c, c6d, c6e, c7a, c7b, c7c, c7d, c7e, c8a, c8b, c8c, c8d, c8e, c9a, c9b, c9c, c9d, c9e, c10a, c10b, c10c, c10d, c10e, c12a, c12b, c12c, c12d, c12e, c14a, c14b, c14c, c14d, c14e, c16a, c16b, c16c, c16d, c16e, c20a, c20b, c20c, c20d, c20e, c30a, c30b, c30c, c30d, c30e, c32a, c32b, c32c, c32d, c32e, c36a, c36b, c36c, c36d, c36e, c40a, c40b, c40c, c40d, c40e, c41a, c41b, c41c, c41d, c41e, c42a, c42b, c42c, c42d, c42e, c43a, c43b, c43c, c43d, c43e, c45a, c45b, c45c, c45d, c45e, c47a, c47b, c47c, c47d, c47e, c48a, c48b, c48c, c48d, c48e, c57a, c57b, c57c, c57d, c57e, c59a, c59b, c59c, c59d, c59e, c60a, c60b, c60c, c60d, c60e, c61a, c61b, c61c, c61d, c61e, c62a, c62b, c62c, c62d, c62e, c64a, c64b, c64c, c64d, c64e, c96a, c96b, c96c, c96d, c96e, c97a, c97b, c97c, c97d, c97e, c98a, c98b, c98c, c98d, c98e, c99a, c99b, c99c, c99d, c99e, c100a, c100b, c100c, c100d, c100e, c122a, c122b, c122c, c122d, c122e, c700a, c700b, c700c, c700d, c700e, c4240a, c4240b, c4240c, c4240d, c4240e, c9999a, c9999b, c9999c, c9999d, c9999e, c100000a, c100000b, c100000c, c100000d, c100000e, c1000000a, c1000000b, c1000000c, c1000000d, c1000000e, if_T, bd_s, bv_s, bt_s, bt_x, vl_s, pf_s, ri_s, rz_0, rz_1, tri_s, trz_0, trz_1, trx_s, pz_0, pz_1, nI_add, pk_mul, up_at, la2, la5, la6, la8, la14, la62, la64, la98, la700, ra1, ra2, ra6, ra8, ra12, ra20, ra36, ra48, lm6, lm8, lm10, lm100, lm106, rm6, rm8, rm10, rm100, rm106]
      refine ih (x, T2) ⟨?_, by rw [g1, i2]; rfl, i3.tr g4⟩
      show x = _
      rw [hx]
      refine congrArg nI ?_
      unfold trW
      by_cases c : w = 0
      · simp only [if_pos c]
        show _ = trB V (mr T1) s i + if trI V (hrs V (mr T1) i) s = -1 then 0 else 1
        rw [cnt_one (s := s) _ hs (fun j hj hne => by simp [hne])]
        refine congrArg (trB V (mr T1) s i + ·) ?_
        by_cases c2 : trI V (hrs V (mr T1) i) s = -1 <;> simp [c2]
      · simp only [if_neg c]
        rw [trA_s m3 hV (by omega)]
    · intro m q x hq hx ih2
      subst hx
      have e168 := g3 q hq
      rw [i2] at e168
      simp (disch := omega) only [LX10_trespasses_74, KX10_trespasses_74, rd145, rd146, rd147, rd148, rd149, rd150, rd151, rd152, rd153, rd154, rd155, rd156, rd157, rd158, rd159, rd160, rd161, rd162, rd163, rd164, rd165, rd166, rd167, rd168, rd169, rd170, rd171, rd172, rd173, rd174, rd175, rd176, rd177, rd178, rd179, rd180, rd181, rd182, rd183, rd184, rd185, rd145_0, rd145_2, rd145_3, rd145_4, rd145_5, rd145_6, rd145_7, rd156_0, rd156_1, rd166_0, rd178_0, hS, nI_leE, nI_ltE, nI_eqE, nI_m1, c0a, c0b, c0c, c0d, c0e, c1a, c1b, c1c, c1d, c1e, c2a, c2b, c2c, c2d, c2e, c3a, c3b, c3c, c3d, c3e, c4a, c4b, c4c, c4d, c4e, c5a, c5b, c5c, c5d, c5e, c6a, c6b, c6c, c6d, c6e, c7a, c7b, c7c, c7d, c7e, c8a, c8b, c8c, c8d, c8e, c9a, c9b, c9c, c9d, c9e, c10a, c10b, c10c, c10d, c10e, c12a, c12b, c12c, c12d, c12e, c14a, c14b, c14c, c14d, c14e, c16a, c16b, c16c, c16d, c16e, c20a, c20b, c20c, c20d, c20e, c30a, c30b, c30c, c30d, c30e, c32a, c32b, c32c, c32d, c32e, c36a, c36b, c36c, c36d, c36e, c40a, c40b, c40c, c40d, c40e, c41a, c41b, c41c, c41d, c41e, c42a, c42b, c42c, c42d, c42e, c43a, c43b, c43c, c43d, c43e, c45a, c45b, c45c, c45d, c45e, c47a, c47b, c47c, c47d, c47e, c48a, c48b, c48c, c48d, c48e, c57a, c57b, c57c, c57d, c57e, c59a, c59b, c59c, c59d, c59e, c60a, c60b, c60c, c60d, c60e, c61a, c61b, c61c, c61d, c61e, c62a, c62b, c62c, c62d, c62e, c64a, c64b, c64c, c64d, c64e, c96a, c96b, c96c, c96d, c96e, c97a, c97b, c97c, c97d, c97e, c98a, c98b, c98c, c98d, c98e, c99a, c99b, c99c, c99d, c99e, c100a, c100b, c100c, c100d, c100e, c122a, c122b, c122c, c122d, c122e, c700a, c700b, c700c, c700d, c700e, c4240a, c4240b, c4240c, c4240d, c4240e, c9999a, c9999b, c9999c, c9999d, c9999e, c100000a, c100000b, c100000c, c100000d, c100000e, c1000000a, c1000000b, c1000000c, c1000000d, c1000000e, if_F, BX10_trespasses_131, BX10_trespasses_127, BX10_trespasses_132, e168, bd_s, bv_s, bt_s, bt_x, vl_s, pf_s, ri_s, rz_0, rz_1, tri_s, trz_0, trz_1, trx_s, pz_0, pz_1, nI_add, pk_mul, up_at, la2, la5, la6, la8, la14, la62, la64, la98, la700, ra1, ra2, ra6, ra8, ra12, ra20, ra36, ra48, lm6, lm8, lm10, lm100, lm106, rm6, rm8, rm10, rm100, rm106]
      have nxt : ∀ (y : Int32) (b : Bool), (if w = 0 then decide (¬ trI V (hrs V (mr T1) i) q = -1) && decide (q = s) else trH V (hrs V (mr T1) i) s q) = b → y = nI (trW V (mr T1) s w i + cnt (fun q => if w = 0 then decide (¬ trI V (hrs V (mr T1) i) q = -1) && decide (q = s) else trH V (hrs V (mr T1) i) s q) q) + (if b then 1 else 0) → ok (LX10_trespasses_74 (LX10_trespasses_61 k) m (nI s) (nI n) (nI w) y (nI i) (nI (q + 1)) T2) (fun q => q.1 = nI (trW V (S 37) s w n) ∧ mK S q.2 ∧ q.2 142 3 = 0) := by
        intro y b hb hy
        refine ih2 _ ?_
        show _ = nI (trW V (mr T1) s w i + (cnt _ q + if (if w = 0 then decide (¬ trI V (hrs V (mr T1) i) q = -1) && decide (q = s) else trH V (hrs V (mr T1) i) s q) = true then 1 else 0))
        rw [hb, hy]
        cases b with
        | true => simp only [if_true]; rw [nI_1, Nat.add_assoc]
        | false => simp
      rcases trI_ok ro hV (by omega) hq with hn1 | ⟨t, ht, et⟩
      · rw [if_pos hn1]
        refine nxt _ false ?_ rfl
        split
        · simp [hn1]
        · unfold trH; simp [hn1]
      · have hxn : ¬ nI t = -1 := nI_ne_m1 (by omega)
        rw [et, if_neg hxn]
        by_cases c : w = 0
        · subst c
          rw [if_pos (by rfl)]
          by_cases c2 : q = s
          · subst c2
            rw [if_pos rfl]
            exact nxt _ true (by simp [et, hxn]) (nI_1 _).symm
          · rw [if_neg c2]
            exact nxt _ false (by simp [c2]) rfl
        · have : w = 1 := by omega
          subst this
          rw [if_neg (by decide)]
          simp (disch := omega) only [rd145, rd146, rd147, rd148, rd149, rd150, rd151, rd152, rd153, rd154, rd155, rd156, rd157, rd158, rd159, rd160, rd161, rd162, rd163, rd164, rd165, rd166, rd167, rd168, rd169, rd170, rd171, rd172, rd173, rd174, rd175, rd176, rd177, rd178, rd179, rd180, rd181, rd182, rd183, rd184, rd185, rd145_0, rd145_2, rd145_3, rd145_4, rd145_5, rd145_6, rd145_7, rd156_0, rd156_1, rd166_0, rd178_0, ow t ht]
          have eo : hrs V (mr T1) i (98 + t) = mr T1 (98 + t) := ro2 _ (by omega)
          by_cases c2 : mr T1 (98 + t) = nI s
          · rw [if_pos c2]
            refine nxt _ true ?_ (nI_1 _).symm
            unfold trH
            rw [et, nI_clamp (by omega), eo]
            simp [hxn, c2]
          · rw [if_neg c2]
            refine nxt _ false ?_ rfl
            unfold trH
            rw [et, nI_clamp (by omega), eo]
            simp [c2]
  · unfold trW
    split
    · rfl
    · unfold trA
      rw [sm_zero _ (fun i _ => by split <;> rfl)]; rfl
