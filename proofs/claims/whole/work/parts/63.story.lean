theorem lnBf : ∀ z, z < 40 → ln (39 + z) = 106 ∧ ln (86 + z) = 106 := by decide +kernel
theorem A_undo : Ag1 fX9_undo fX10_undo := by
  rintro S ⟨V, v, d, hR⟩
  have hV := hR.vk
  obtain ⟨n, h, n4, ⟨o, o4, e3, e2, ej⟩, ⟨q1, q2⟩, q3⟩ := hR.st.2.2.1
  have ej' : ∀ j, j < n → ag (S (39 + (o + j) % 40)) (h j) := ej
  rcases Nat.eq_zero_or_pos n with c | c
  · subst c
    refine ⟨-1, S, up S 142 3 0, ?_, ?_, ⟨V, v, d, hR.m mK0⟩⟩
    · unfold fX9_undo fX4_undoAct
      rw [e3]; rfl
    · unfold fX10_undo
      rw [pf_s, up_off (by decide), q1]; rfl
  · obtain ⟨m, rfl⟩ : ∃ m, n = m + 1 := ⟨n - 1, by omega⟩
    have hm := Nat.mod_lt (o + m) (by decide : 40 > 0)
    have hl := (lnBf ((o + m) % 40) hm).1
    generalize hS1 : cpy (up S 36 3 (nI m)) (39 + (o + m) % 40) 0 37 0 106 = S1
    have s1 : ∀ a, a ≠ 36 → a ≠ 37 → S1 a = S a := fun a h1 h2 => by rw [← hS1, cpy_ne h2, up_ne h1]
    have s36 : S1 36 3 = nI m ∧ ∀ j, j ≠ 3 → S1 36 j = S 36 j := by
      rw [← hS1]
      exact ⟨by rw [cpy_ne (by decide), up_at], fun j hj => by rw [cpy_ne (by decide), up_off hj]⟩
    have s37 : ag (S1 37) (h m) := by
      intro i hi
      rw [← hS1, cpy_row, pk_cpy_in (by omega) (by omega), up_ne (by omega), show 0 + (i - 0) = i by omega]
      exact ej' m (by omega) i hi
    have ec : fX9_undo S = some (nI m, S1) := by
      unfold fX9_undo fX4_undoAct
      rw [e3, if_pos (by rw [show (1 : Int32) = nI 1 from rfl]; exact nI_le (by omega) (by omega)), nI_pred, pf_s, up_off (by decide), up_at, e2, nI_add, show (40 : Int32) = nI 40 from rfl, rm_n (by omega) (by decide) (by decide)]
      show bd (rr 38 (nI ((o + m) % 40)) fun q4 => ac (up S 36 3 (nI m)) q4 0 37 0 106 fun S => rz 1 S) _ = _
      rw [rr_g (by show _ < 40; omega), show 38 + 1 + (o + m) % 40 = 39 + (o + m) % 40 by omega, show (0 : Int32) = nI 0 from rfl, show (106 : Int32) = nI 106 from rfl, ac_g (by omega) (by decide), hS1]
      show some (S1 36 3, S1) = _
      rw [s36.1]
    generalize hT0 : up (up S1 142 3 0) 142 36 (nI m) = T0
    obtain ⟨M, eM, u1, u2, u3⟩ := M_unpack (S := T0) (a := 163) (f := 106 * m) (by omega) (by rw [ln163]; omega)
    have t0 : ∀ a, a ≠ 142 → T0 a = S1 a := fun a ha => by rw [← hT0, up_ne ha, up_ne ha]
    have e163 : ∀ i, rl V i → T0 163 (106 * m + i) = h m i := fun i hi => by rw [t0 163 (by decide), s1 163 (by decide) (by decide)]; exact q2 m (by omega) i hi
    have M36 : M 142 36 = nI m := by rw [u3 36 (by decide) (by decide), ← hT0, up_at]
    refine ⟨nI m, S1, M, ec, ?_, ⟨V, v, d, ?_⟩⟩
    · unfold fX10_undo
      rw [pf_s, up_off (by decide), s1 142 (by decide) (by decide), q1, if_neg (nI_ne0 (by omega) (by omega)), nI_pred, pf_s, hT0]
      have : T0 142 36 = nI m := by rw [← hT0, up_at]
      rw [this, show (106 : Int32) = nI 106 from rfl, pk_mul, eM, bv_s, M36]
      rfl
    · have mc : ∀ a, a < 142 ∨ (142 < a ∧ a < 158) ∨ 162 < a → M a = S1 a := fun a ha => by rw [u2 a (by omega) (by omega), t0 a (by omega)]
      refine hR.act (n := m) (hh := h) (fun a h1 h2 h3 h4 h5 h6 h7 h8 => by rw [mc a (by omega), s1 a h6 h7]) (by rw [mc 36 (by omega)]; exact s36.2 4 (by decide)) (fun a ha => by rw [mc a (by omega), s1 a (by omega) (by omega)]) (fun j hj => ?_) ?_ ?_ (by omega) ⟨o, o4, ?_, ?_, fun j hj => ?_⟩ ⟨M36, fun j hj i hi => ?_⟩ (fun j hj => q3 j (by omega))
      · rw [u3 j (by omega) (by omega), ← hT0, up_off (by omega), up_off (by omega), s1 142 (by decide) (by decide)]
      · intro i hi
        rw [mc 37 (by omega), s37 i (rl_lt hV hi), u1 i (rl_lt hV hi), e163 i hi]
      · rw [mc 37 (by omega)]; exact ag_ROk hV s37.sm (q3 m (by omega))
      · rw [mc 36 (by omega)]; exact s36.1
      · rw [mc 36 (by omega), s36.2 2 (by decide)]; exact e2
      · have := Nat.mod_lt (o + j) (by decide : 40 > 0)
        rw [mc _ (by omega), s1 _ (by omega) (by omega)]; exact ej j (by omega)
      · rw [mc 163 (by omega), s1 163 (by decide) (by decide)]; exact q2 j (by omega) i hi
/-- what is heard -/
theorem Rl.heard {V : Vy} {v d : Nat} {S S' : St} (h : Rl V v d S) (hc : ∀ a, a < 130 → a ≠ 14 → a ≠ 16 → a ≠ 29 → a ≠ 31 → a ≠ 36 → a ≠ 79 → a ≠ 80 → a ≠ 81 → S' a = S a) (h36 : ∀ j, j ≠ 4 → S' 36 j = S 36 j) (hm : ∀ a, ((142 < a ∧ a < 158) ∨ a = 163 ∨ a = 164 ∨ (179 < a ∧ a < 186)) → S' a = S a) (h142 : ∀ j, (j = 17 ∨ j = 26 ∨ j = 36 ∨ j = 41 ∨ j = 57 ∨ j = 58 ∨ j = 59) → S' 142 j = S 142 j) (hr : mr S' = mr S) {m : Nat} (m8 : m ≤ 8) (e1 : S' 36 4 = nI m) (e2 : S' 142 37 = nI m) (ei : ∀ i, i < m → S' 79 i = S' 173 i ∧ S' 80 i = S' 174 i ∧ S' 81 i = S' 175 i ∧ (∃ f, f < vF V ∧ S' 173 i = nI f) ∧ (∃ k, 1 ≤ k ∧ k ≤ 30 ∧ S' 174 i = nI k) ∧ (S' 175 i = -1 ∨ ∃ t, t < vF V ∧ S' 175 i = nI t)) : Rl V v d S' := by
  obtain ⟨hv, e3, e4, hVV, hS, hT, hf, hz, hI⟩ := h
  have c0 : S' 0 = S 0 := hc 0 (by decide) (by decide) (by decide) (by decide) (by decide) (by decide) (by decide) (by decide) (by decide)
  obtain ⟨a1, a2, ⟨n, hh, n4, q1, q2, q3⟩, -, q5⟩ := hS
  have c37 : S' (36 + 1) = S (36 + 1) := hc 37 (by decide) (by decide) (by decide) (by decide) (by decide) (by decide) (by decide) (by decide) (by decide)
  have c82 : S' (36 + 46) = S (36 + 46) := hc 82 (by decide) (by decide) (by decide) (by decide) (by decide) (by decide) (by decide) (by decide) (by decide)
  refine ⟨hv, by rw [c0]; exact e3, by rw [c0]; exact e4, hVV.go (fun a h1 h2 h3 => hc a (by omega) (by omega) (by omega) (by omega) (by omega) (by omega) (by omega) (by omega) (by omega)) (fun a ha => hm a (by omega)), ⟨by rw [c37, hr]; exact a1, by rw [c37]; exact a2, ⟨n, hh, n4, q1.go (h36 2 (by decide)) (h36 3 (by decide)) (fun a h1 h2 => hc a (by omega) (by omega) (by omega) (by omega) (by omega) (by omega) (by omega) (by omega) (by omega)), by rw [hm 163 (by omega), h142 36 (by omega)]; exact q2, q3⟩, ⟨m, m8, e1, e2, ei⟩, fun i hi => by rw [c82, hm 156 (by omega)]; exact q5 i hi⟩, hT.go (by rw [c0]) (h142 17 (by omega)) (hm 157 (by omega)) (hc 1 (by decide) (by decide) (by decide) (by decide) (by decide) (by decide) (by decide) (by decide) (by decide)), by rw [c0, h142 26 (by omega)]; exact hf, by rw [h142 41 (by omega)]; exact hz, hI.go (by rw [c0]) (fun a h1 h2 => hc a (by omega) (by omega) (by omega) (by omega) (by omega) (by omega) (by omega) (by omega) (by omega)) (fun a h1 h2 => hm a (by omega)) (fun j hj => h142 j (by omega))⟩
theorem A_forget : Ag0 fX9_forget fX10_forget := by
  rintro S ⟨V, v, d, hR⟩
  refine ⟨up S 36 4 0, up (up (up S 36 4 0) 142 3 0) 142 37 0, rfl, rfl, ⟨V, v, d, ?_⟩⟩
  refine hR.heard (m := 0) (fun a h1 h2 h3 h4 h5 h6 h7 h8 h9 => ?_) (fun j hj => ?_) (fun a ha => ?_) (fun j hj => ?_) ?_ (by decide) ?_ up_at (fun i hi => absurd hi (by omega))
  · rw [up_ne (by omega), up_ne (by omega), up_ne h6]
  · rw [up_ne (by decide), up_ne (by decide), up_off hj]
  · rw [up_ne (by omega), up_ne (by omega), up_ne (by omega)]
  · rw [up_off (by omega), up_off (by omega), up_ne (by decide)]
  · rw [mr_up (by omega) (by omega), mr_up (by omega) (by omega), mr_up (by omega) (by omega)]
  · rw [up_ne (by decide), up_ne (by decide), up_at]; rfl
theorem A_fault : Ag1 fX9_fault fX10_fault := by
  rintro S ⟨V, v, d, hR⟩
  refine ⟨S 0 2, S, up S 142 3 0, rfl, ?_, ⟨V, v, d, hR.m mK0⟩⟩
  unfold fX10_fault
  rw [pf_s, up_off (by decide), ← hR.2.2.2.2.2.2.1]
  rfl
theorem A_hear {nX : Int32} (a1 a2 a3 : Int32) : Agr nX (fX9_hear a1 a2 a3) (fX10_hear a1 a2 a3) := by
  rintro S ⟨V, v, d, hR⟩
  show AgrAt nX _ _ S
  have hV := hR.vk
  have hF8 := hV.1
  have hM0 : ∀ T, (∀ a, 141 < a → a < 186 → T a = S a) → VM V (up T 142 3 0) := fun T hT => hR.M.go (fun a ha => by rw [up_ne (by omega), hT a (by omega) (by omega)])
  obtain ⟨m, m8, q4, qm, qi⟩ := hR.st.2.2.2.1
  rcases arg a1 (n := vF V) (by omega) with ⟨f, hf, rfl⟩ | h1
  · have main : (a3 = -1 ∨ ∃ t, t < vF V ∧ a3 = nI t) → (fX9_hear (nI f) a2 a3 S = BX9_hear_15 (nI f) a2 a3 S) → (∀ T, (∀ a, 141 < a → a < 186 → T a = S a) → fX10_hear (nI f) a2 a3 T = BX10_hear_32 (nI f) a2 a3 (up T 142 3 0)) → AgrAt nX (fX9_hear (nI f) a2 a3) (fX10_hear (nI f) a2 a3) S := by
      intro ha3 z1 z2
      have refs : (BX9_hear_15 (nI f) a2 a3 S = BX9_hear_38 S) → (∀ T, (∀ a, 141 < a → a < 186 → T a = S a) → BX10_hear_32 (nI f) a2 a3 (up T 142 3 0) = BX10_hear_53 (up T 142 3 0)) → AgrAt nX (fX9_hear (nI f) a2 a3) (fX10_hear (nI f) a2 a3) S := by
        intro y1 y2
        refine refused_at hR 2 (by decide) (-1) ?_ (fun T hT => ?_)
        · rw [z1, y1]; unfold BX9_hear_38
          rw [show fX4_refuse 36 2 S = _ from C_refuse (k := 2) (by decide)]; rfl
        · rw [z2 T hT, y2 T hT]; unfold BX10_hear_53
          rw [show ∀ X, fX10_refuse 2 X = _ from fun X => M_refuse (S := X) (k := 2) (by decide), bd_s, up_ne (by decide), hT 156 (by decide) (by decide)]
          rfl
      have e37 : ∀ T, (∀ a, 141 < a → a < 186 → T a = S a) → up T 142 3 0 142 37 = nI m := fun T hT => by rw [up_off (by decide), hT 142 (by decide) (by decide)]; exact qm
      by_cases c8 : m = 8
      · subst c8
        refine refs ?_ (fun T hT => ?_)
        · unfold BX9_hear_15
          rw [q4, if_neg (show ¬ nI 8 < 8 by decide)]
          split
          · rfl
          · split <;> rfl
        · unfold BX10_hear_32
          rw [e37 T hT, if_pos (by rfl)]
      · rcases arg2 a2 (lo := 1) (hi := 30) (by decide) (by decide) with ⟨k, k1, k3, rfl⟩ | h2
        · generalize hS1 : up (up (up (up S 79 m (nI f)) 80 m (nI k)) 81 m a3) 36 4 (nI (m + 1)) = S1
          refine ⟨.inl (nI (m + 1)), S1, ?_, fun x => ?_⟩
          · rw [z1]
            unfold BX9_hear_15 fX4_addHeard
            show (if nI k < 1 then _ else if 30 < nI k then _ else if S 36 4 < 8 then bv (if 8 ≤ S 36 4 then some S else wr S 79 (S 36 4) (nI f) fun S => wr S 80 (S 36 4) (nI k) fun S => wr S 81 (S 36 4) a3 fun S => pf S 36 4 ((S 36 4) + 1) fun S => some S) _ else _) = _
            simp (disch := omega) only [nI_leE, nI_ltE, nI_eqE, nI_m1, c0a, c0b, c0c, c0d, c0e, c1a, c1b, c1c, c1d, c1e, c2a, c2b, c2c, c2d, c2e, c3a, c3b, c3c, c3d, c3e, c4a, c4b, c4c, c4d, c4e, c5a, c5b, c5c, c5d, c5e, c6a, c6b, c6c, c6d, c6e, c7a, c7b, c7c, c7d, c7e, c8a, c8b, c8c, c8d, c8e, c9a, c9b, c9c, c9d, c9e, c10a, c10b, c10c, c10d, c10e, c12a, c12b, c12c, c12d, c12e, c14a, c14b, c14c, c14d, c14e, c16a, c16b, c16c, c16d, c16e, c20a, c20b, c20c, c20d, c20e, c30a, c30b, c30c, c30d, c30e, c32a, c32b, c32c, c32d, c32e, c36a, c36b, c36c, c36d, c36e, c40a, c40b, c40c, c40d, c40e, c41a, c41b, c41c, c41d, c41e, c42a, c42b, c42c, c42d, c42e, c43a, c43b, c43c, c43d, c43e, c45a, c45b, c45c, c45d, c45e, c47a, c47b, c47c, c47d, c47e, c48a, c48b, c48c, c48d, c48e, c57a, c57b, c57c, c57d, c57e, c59a, c59b, c59c, c59d, c59e, c60a, c60b, c60c, c60d, c60e, c61a, c61b, c61c, c61d, c61e, c62a, c62b, c62c, c62d, c62e, c64a, c64b, c64c, c64d, c64e, c96a, c96b, c96c, c96d, c96e, c97a, c97b, c97c, c97d, c97e, c98a, c98b, c98c, c98d, c98e, c99a, c99b, c99c, c99d, c99e, c100a, c100b, c100c, c100d, c100e, c122a, c122b, c122c, c122d, c122e, c700a, c700b, c700c, c700d, c700e, c4240a, c4240b, c4240c, c4240d, c4240e, c9999a, c9999b, c9999c, c9999d, c9999e, c100000a, c100000b, c100000c, c100000d, c100000e, c1000000a, c1000000b, c1000000c, c1000000d, c1000000e, if_F, q4, if_T, wr79, wr80, wr81, up_ne, bd_s, bv_s, bt_s, bt_x, vl_s, pf_s, ri_s, rz_0, rz_1, tri_s, trz_0, trz_1, trx_s, pz_0, pz_1, nI_add, pk_mul, up_at, la2, la5, la6, la8, la14, la62, la64, la98, la700, ra1, ra2, ra6, ra8, ra12, ra20, ra36, ra48, lm6, lm8, lm10, lm100, lm106, rm6, rm8, rm10, rm100, rm106, hS1]
            rw [← hS1, up_at]
          · have hT : ∀ a, 141 < a → a < 186 → up S1 186 0 x a = S a := fun a b1 b2 => by rw [← hS1, up_ne (by omega), up_ne (by omega), up_ne (by omega), up_ne (by omega), up_ne (by omega)]
            generalize hT0 : up (up S1 186 0 x) 142 3 0 = T0
            have e37' := e37 (up S1 186 0 x) hT
            rw [hT0] at e37'
            generalize hM : up (up (up (up T0 173 m (nI f)) 174 m (nI k)) 175 m a3) 142 37 (nI (m + 1)) = M
            refine ⟨nI (m + 1), M, ?_, ⟨V, v, d, ?_⟩, ?_, rfl⟩
            · rw [z2 _ hT, hT0]
              unfold BX10_hear_32
              simp (disch := omega) only [nI_leE, nI_ltE, nI_eqE, nI_m1, c0a, c0b, c0c, c0d, c0e, c1a, c1b, c1c, c1d, c1e, c2a, c2b, c2c, c2d, c2e, c3a, c3b, c3c, c3d, c3e, c4a, c4b, c4c, c4d, c4e, c5a, c5b, c5c, c5d, c5e, c6a, c6b, c6c, c6d, c6e, c7a, c7b, c7c, c7d, c7e, c8a, c8b, c8c, c8d, c8e, c9a, c9b, c9c, c9d, c9e, c10a, c10b, c10c, c10d, c10e, c12a, c12b, c12c, c12d, c12e, c14a, c14b, c14c, c14d, c14e, c16a, c16b, c16c, c16d, c16e, c20a, c20b, c20c, c20d, c20e, c30a, c30b, c30c, c30d, c30e, c32a, c32b, c32c, c32d, c32e, c36a, c36b, c36c, c36d, c36e, c40a, c40b, c40c, c40d, c40e, c41a, c41b, c41c, c41d, c41e, c42a, c42b, c42c, c42d, c42e, c43a, c43b, c43c, c43d, c43e, c45a, c45b, c45c, c45d, c45e, c47a, c47b, c47c, c47d, c47e, c48a, c48b, c48c, c48d, c48e, c57a, c57b, c57c, c57d, c57e, c59a, c59b, c59c, c59d, c59e, c60a, c60b, c60c, c60d, c60e, c61a, c61b, c61c, c61d, c61e, c62a, c62b, c62c, c62d, c62e, c64a, c64b, c64c, c64d, c64e, c96a, c96b, c96c, c96d, c96e, c97a, c97b, c97c, c97d, c97e, c98a, c98b, c98c, c98d, c98e, c99a, c99b, c99c, c99d, c99e, c100a, c100b, c100c, c100d, c100e, c122a, c122b, c122c, c122d, c122e, c700a, c700b, c700c, c700d, c700e, c4240a, c4240b, c4240c, c4240d, c4240e, c9999a, c9999b, c9999c, c9999d, c9999e, c100000a, c100000b, c100000c, c100000d, c100000e, c1000000a, c1000000b, c1000000c, c1000000d, c1000000e, if_F, e37']
              rw [show (1 : Int64) = (nI 1).toInt64 from rfl, show (30 : Int64) = (nI 30).toInt64 from rfl, M_in_t k1 k3 (by decide), bd_s, if_neg (by decide)]
              simp (disch := omega) only [wr145, wr146, wr147, wr148, wr149, wr150, wr151, wr152, wr153, wr154, wr155, wr156, wr157, wr158, wr159, wr160, wr161, wr162, wr163, wr164, wr165, wr166, wr167, wr168, wr169, wr170, wr171, wr172, wr173, wr174, wr175, wr176, wr177, wr178, wr179, wr180, wr181, wr182, wr183, wr184, wr185, wr145_5, wr145_6, wr145_7, wr156_0, wr156_1, wr165_0, wr165_1, wr165_2, wr165_3, wr165_4, up_ne, e37', bd_s, bv_s, bt_s, bt_x, vl_s, pf_s, ri_s, rz_0, rz_1, tri_s, trz_0, trz_1, trx_s, pz_0, pz_1, nI_add, pk_mul, up_at, la2, la5, la6, la8, la14, la62, la64, la98, la700, ra1, ra2, ra6, ra8, ra12, ra20, ra36, ra48, lm6, lm8, lm10, lm100, lm106, rm6, rm8, rm10, rm100, rm106, hM]
            · have mc : ∀ a, a ≠ 142 → a ≠ 173 → a ≠ 174 → a ≠ 175 → a ≠ 186 → M a = S1 a := fun a b1 b2 b3 b4 b5 => by rw [← hM, up_ne b1, up_ne b4, up_ne b3, up_ne b2, ← hT0, up_ne b1, up_ne b5]
              have sc : ∀ a, a ≠ 36 → a ≠ 79 → a ≠ 80 → a ≠ 81 → S1 a = S a := fun a b1 b2 b3 b4 => by rw [← hS1, up_ne b1, up_ne b4, up_ne b3, up_ne b2]
              have m173 : M 173 = upd (S 173) m (nI f) := by rw [← hM, up_ne (by decide), up_ne (by decide), up_ne (by decide), up_row, ← hT0, up_ne (by decide), hT 173 (by decide) (by decide)]
              have m174 : M 174 = upd (S 174) m (nI k) := by rw [← hM, up_ne (by decide), up_ne (by decide), up_row, up_ne (by decide), ← hT0, up_ne (by decide), hT 174 (by decide) (by decide)]
              have m175 : M 175 = upd (S 175) m a3 := by rw [← hM, up_ne (by decide), up_row, up_ne (by decide), up_ne (by decide), ← hT0, up_ne (by decide), hT 175 (by decide) (by decide)]
              have m79 : M 79 = upd (S 79) m (nI f) := by rw [mc 79 (by decide) (by decide) (by decide) (by decide) (by decide), ← hS1, up_ne (by decide), up_ne (by decide), up_ne (by decide), up_row]
              have m80 : M 80 = upd (S 80) m (nI k) := by rw [mc 80 (by decide) (by decide) (by decide) (by decide) (by decide), ← hS1, up_ne (by decide), up_ne (by decide), up_row, up_ne (by decide)]
              have m81 : M 81 = upd (S 81) m a3 := by rw [mc 81 (by decide) (by decide) (by decide) (by decide) (by decide), ← hS1, up_ne (by decide), up_row, up_ne (by decide), up_ne (by decide)]
              refine hR.heard (m := m + 1) (fun a h1 h2 h3 h4 h5 h6 h7 h8 h9 => by rw [mc a (by omega) (by omega) (by omega) (by omega) (by omega), sc a h6 h7 h8 h9]) (fun j hj => ?_) (fun a ha => by rw [mc a (by omega) (by omega) (by omega) (by omega) (by omega), sc a (by omega) (by omega) (by omega) (by omega)]) (fun j hj => ?_) ?_ (by omega) ?_ ?_ (fun i hi => ?_)
              · rw [mc 36 (by decide) (by decide) (by decide) (by decide) (by decide), ← hS1, up_off hj, up_ne (by decide), up_ne (by decide), up_ne (by decide)]
              · rw [← hM, up_off (by omega), up_ne (by decide), up_ne (by decide), up_ne (by decide), ← hT0, up_off (by omega), hT 142 (by decide) (by decide)]
              · rw [← hM, mr_up (by omega) (by omega), mr_up (by omega) (by omega), mr_up (by omega) (by omega), mr_up (by omega) (by omega), ← hT0, mr_up (by omega) (by omega)]
                exact mr_cell (fun a ha => hT a (by omega) (by omega))
              · rw [mc 36 (by decide) (by decide) (by decide) (by decide) (by decide), ← hS1, up_at]
              · rw [← hM, up_at]
              · rw [m173, m174, m175, m79, m80, m81]
                unfold upd
                by_cases c : i = m
                · simp only [if_pos c]
                  exact ⟨trivial, trivial, trivial, ⟨f, hf, rfl⟩, ⟨k, k1, k3, rfl⟩, ha3⟩
                · simp only [if_neg c]
                  exact qi i (by omega)
            · rw [← hM, up_off (by decide), up_ne (by decide), up_ne (by decide), up_ne (by decide), ← hT0, up_at]
        · refine refs ?_ (fun T hT => ?_)
          · unfold BX9_hear_15
            by_cases c : a2 < 1
            · rw [if_pos c]
            · rw [if_neg c, if_pos]
              rcases h2 with h2 | h2
              · exact absurd h2 c
              · exact h2
          · unfold BX10_hear_32
            rw [e37 T hT, show (8 : Int32) = nI 8 from rfl, if_neg (by rw [nI_eq (by omega) (by decide)]; exact c8), show (1 : Int64) = (nI 1).toInt64 from rfl, show (30 : Int64) = (nI 30).toInt64 from rfl, M_in_f (by decide) h2 (by decide), bd_s, if_pos rfl]
    by_cases c3 : a3 = -1
    · refine main (Or.inl c3) ?_ (fun T hT => ?_)
      · unfold fX9_hear; rw [C_nF_t hR hf, bt_s, if_pos c3]
      · unfold fX10_hear; rw [pf_s, M_isF_t (hM0 T hT) hf, bd_s, if_neg (by decide), if_pos c3]
    · rcases arg a3 (n := vF V) (by omega) with ⟨t, ht, rfl⟩ | h3
      · refine main (Or.inr ⟨t, ht, rfl⟩) ?_ (fun T hT => ?_)
        · unfold fX9_hear; rw [C_nF_t hR hf, bt_s, if_neg c3, C_nF_t hR ht, bt_s]
        · unfold fX10_hear; rw [pf_s, M_isF_t (hM0 T hT) hf, bd_s, if_neg (by decide), if_neg c3, M_isF_t (hM0 T hT) ht, bd_s, if_neg (by decide)]
      · refine thrown_at hR 1 ?_ 1 (Or.inl ⟨rfl, rfl⟩) (fun T hT => ?_)
        · unfold fX9_hear
          rw [C_nF_t hR hf, bt_s, if_neg c3, C_nF_f hR h3, bt_x]
        · have hm := hM0 T (fun a b1 b2 => hT.at a (by omega) (by omega) (by omega) (by omega) (by omega))
          unfold fX10_hear BX10_hear_26
          rw [pf_s, M_isF_t hm hf, bd_s, if_neg (by decide), if_neg c3, M_isF_f hm h3, bd_s, if_pos rfl]
          rfl
  · refine thrown_at hR 1 ?_ 1 (Or.inl ⟨rfl, rfl⟩) (fun T hT => ?_)
    · unfold fX9_hear
      rw [C_nF_f hR h1, bt_x]
    · have hm := hM0 T (fun a b1 b2 => hT.at a (by omega) (by omega) (by omega) (by omega) (by omega))
      unfold fX10_hear BX10_hear_26
      rw [pf_s, M_isF_f hm h1, bd_s, if_pos rfl]
      rfl
