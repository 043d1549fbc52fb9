theorem A_count {nX : Int32} (a1 : Int32) : Agr nX (fX9_count a1) (fX10_count a1) := by
  refine look (fun S V v d hR => ?_)
  have hv := hR.hv
  obtain ⟨n, hh, n4, ⟨o, o4, q3, q2, -⟩, ⟨qn, -⟩, -⟩ := hR.st.2.2.1
  obtain ⟨m, m8, q4, qm, -⟩ := hR.st.2.2.2.1
  have qs := hR.st.2.2.2.2
  obtain ⟨k, k7, t1, t2, -⟩ := hR.2.2.2.2.2.1
  have val : ∀ (x y : Int32), x = y → ∀ T, cK S T → (fX9_count a1 S = some (.inl x, S)) → (fX10_count a1 T = some (y, up T 142 3 0)) → ok (fX9_count a1 S) (fun q => q.1 = .inl x ∧ cK S q.2) ∧ ok (fX10_count a1 T) (fun q => mK T q.2 ∧ q.2 142 3 = 0 ∧ q.1 = x) := by
    intro x y hxy T hT e1 e2
    rw [e1, e2]
    exact ⟨ok_some ⟨rfl, cK.rf⟩, ok_some ⟨mK0, rfl, hxy.symm⟩⟩
  have fin1 : ∀ x : Int32, (fX9_count a1 S = some (.inl x, S)) → (∀ T, cK S T → ∃ y, fX10_count a1 T = some (y, up T 142 3 0) ∧ x = y) → ∃ w : Int32 ⊕ Nat, ok (fX9_count a1 S) (fun q => q.1 = w ∧ cK S q.2) ∧ ∀ T, cK S T → ok (fX10_count a1 T) (fun q => mK T q.2 ∧ match w with
      | .inl r => q.2 142 3 = 0 ∧ q.1 = r
      | .inr n => (n = 1 ∧ q.2 142 3 = 1) ∨ (n = 2 ∧ q.2 142 3 = nX)) := by
    intro x e1 h2
    refine ⟨.inl x, by rw [e1]; exact ok_some ⟨rfl, cK.rf⟩, fun T hT => ?_⟩
    obtain ⟨y, e2, e3⟩ := h2 T hT
    rw [e2]; exact ok_some ⟨mK0, rfl, e3.symm⟩
  by_cases c0 : a1 = 0
  · subst c0
    refine fin1 (S v 0) ?_ (fun T hT => ⟨T 145 0, ?_, ?_⟩)
    · unfold fX9_count; rw [if_pos rfl, gm_v hR.2.1 hv]; rfl
    · unfold fX10_count; rw [pf_s, if_pos rfl, rd145_0, up_ne (by decide)]; rfl
    · rw [hR.C.2.2.1, (hR.c hT).M.2.1]
  by_cases c1 : a1 = 1
  · subst c1
    refine fin1 (S v 1) ?_ (fun T hT => ⟨T 145 1, ?_, ?_⟩)
    · unfold fX9_count; rw [if_neg (by decide), if_pos rfl, gm_v hR.2.1 hv]; rfl
    · unfold fX10_count; rw [pf_s, if_neg (by decide), if_pos rfl, show (1 : Int32) = nI 1 from rfl, rd145 (by decide), up_ne (by decide)]; rfl
    · rw [hT.at 145 (by decide) (by decide) (by decide) (by decide) (by decide)]; exact hR.X.1
  by_cases c2 : a1 = 2
  · subst c2
    refine fin1 (S v 2) ?_ (fun T hT => ⟨T 145 2, ?_, ?_⟩)
    · unfold fX9_count; rw [if_neg (by decide), if_neg (by decide), if_pos rfl, gm_v hR.2.1 hv]; rfl
    · unfold fX10_count; rw [pf_s, if_neg (by decide), if_neg (by decide), if_pos rfl, rd145_2, up_ne (by decide)]; rfl
    · rw [hR.C.2.2.2.1, (hR.c hT).M.2.2.1]
  by_cases c3 : a1 = 3
  · subst c3
    refine fin1 (S 37 0) ?_ (fun T hT => ⟨T 142 34, ?_, ?_⟩)
    · unfold fX9_count; rw [if_neg (by decide), if_neg (by decide), if_neg (by decide), if_pos rfl, rd37_0]; rfl
    · unfold fX10_count; rw [pf_s, if_neg (by decide), if_neg (by decide), if_neg (by decide), if_pos rfl, up_off (by decide)]; rfl
    · rw [hR.rag 0 (rl_a (by omega) (by omega) (by omega)), ← hT.mr]; rfl
  by_cases c4 : a1 = 4
  · subst c4
    refine fin1 (S 37 1) ?_ (fun T hT => ⟨T 142 35, ?_, ?_⟩)
    · unfold fX9_count; rw [if_neg (by decide), if_neg (by decide), if_neg (by decide), if_neg (by decide), if_pos rfl, rd37_1]; rfl
    · unfold fX10_count; rw [pf_s, if_neg (by decide), if_neg (by decide), if_neg (by decide), if_neg (by decide), if_pos rfl, up_off (by decide)]; rfl
    · rw [hR.rag 1 (rl_a (by omega) (by omega) (by omega)), ← hT.mr]; rfl
  by_cases c5 : a1 = 5
  · subst c5
    refine fin1 (S 36 3) ?_ (fun T hT => ⟨T 142 36, ?_, ?_⟩)
    · unfold fX9_count; rw [if_neg (by decide), if_neg (by decide), if_neg (by decide), if_neg (by decide), if_neg (by decide), if_pos rfl]; rfl
    · unfold fX10_count; rw [pf_s, if_neg (by decide), if_neg (by decide), if_neg (by decide), if_neg (by decide), if_neg (by decide), if_pos rfl, up_off (by decide)]; rfl
    · rw [hT.at 142 (by decide) (by decide) (by decide) (by decide) (by decide), q3, qn]
  by_cases c6 : a1 = 6
  · subst c6
    refine fin1 (S 36 4) ?_ (fun T hT => ⟨T 142 37, ?_, ?_⟩)
    · unfold fX9_count; rw [if_neg (by decide), if_neg (by decide), if_neg (by decide), if_neg (by decide), if_neg (by decide), if_neg (by decide), if_pos rfl]; rfl
    · unfold fX10_count; rw [pf_s, if_neg (by decide), if_neg (by decide), if_neg (by decide), if_neg (by decide), if_neg (by decide), if_neg (by decide), if_pos rfl, up_off (by decide)]; rfl
    · rw [hT.at 142 (by decide) (by decide) (by decide) (by decide) (by decide), q4, qm]
  by_cases c7 : a1 = 7
  · subst c7
    refine fin1 (S 0 1) ?_ (fun T hT => ⟨T 142 17, ?_, ?_⟩)
    · unfold fX9_count; rw [if_neg (by decide), if_neg (by decide), if_neg (by decide), if_neg (by decide), if_neg (by decide), if_neg (by decide), if_neg (by decide), if_pos rfl]; rfl
    · unfold fX10_count; rw [pf_s, if_neg (by decide), if_neg (by decide), if_neg (by decide), if_neg (by decide), if_neg (by decide), if_neg (by decide), if_neg (by decide), if_pos rfl, up_off (by decide)]; rfl
    · rw [hT.at 142 (by decide) (by decide) (by decide) (by decide) (by decide), t1, t2]
  by_cases c8 : a1 = 8
  · subst c8
    refine fin1 (S 82 0) ?_ (fun T hT => ⟨T 156 0, ?_, ?_⟩)
    · unfold fX9_count BX9_count_125; simp only [if_neg c0, if_neg c1, if_neg c2, if_neg c3, if_neg c4, if_neg c5, if_neg c6, if_neg c7, if_true]; rw [show (8 : Int32) - 8 = nI 0 from rfl, rd82 (by decide)]; rfl
    · unfold fX10_count BX10_count_96; simp only [pf_s, if_neg c0, if_neg c1, if_neg c2, if_neg c3, if_neg c4, if_neg c5, if_neg c6, if_neg c7, if_true]; rw [show (8 : Int32) - 8 = nI 0 from rfl, rd156 (by decide), up_ne (by decide)]; rfl
    · rw [hT.at 156 (by decide) (by decide) (by decide) (by decide) (by decide)]; exact qs 0 (by decide)
  by_cases c9 : a1 = 9
  · subst c9
    refine fin1 (S 82 1) ?_ (fun T hT => ⟨T 156 1, ?_, ?_⟩)
    · unfold fX9_count BX9_count_125; simp only [if_neg c0, if_neg c1, if_neg c2, if_neg c3, if_neg c4, if_neg c5, if_neg c6, if_neg c7, if_neg c8, if_true]; rw [show (9 : Int32) - 8 = nI 1 from rfl, rd82 (by decide)]; rfl
    · unfold fX10_count BX10_count_96; simp only [pf_s, if_neg c0, if_neg c1, if_neg c2, if_neg c3, if_neg c4, if_neg c5, if_neg c6, if_neg c7, if_neg c8, if_true]; rw [show (9 : Int32) - 8 = nI 1 from rfl, rd156 (by decide), up_ne (by decide)]; rfl
    · rw [hT.at 156 (by decide) (by decide) (by decide) (by decide) (by decide)]; exact qs 1 (by decide)
  by_cases c10 : a1 = 10
  · subst c10
    refine fin1 (S 82 2) ?_ (fun T hT => ⟨T 156 2, ?_, ?_⟩)
    · unfold fX9_count BX9_count_125; simp only [if_neg c0, if_neg c1, if_neg c2, if_neg c3, if_neg c4, if_neg c5, if_neg c6, if_neg c7, if_neg c8, if_neg c9, if_true]; rw [show (10 : Int32) - 8 = nI 2 from rfl, rd82 (by decide)]; rfl
    · unfold fX10_count BX10_count_96; simp only [pf_s, if_neg c0, if_neg c1, if_neg c2, if_neg c3, if_neg c4, if_neg c5, if_neg c6, if_neg c7, if_neg c8, if_neg c9, if_true]; rw [show (10 : Int32) - 8 = nI 2 from rfl, rd156 (by decide), up_ne (by decide)]; rfl
    · rw [hT.at 156 (by decide) (by decide) (by decide) (by decide) (by decide)]; exact qs 2 (by decide)
  refine ⟨.inr 1, ?_, fun T hT => ?_⟩
  · unfold fX9_count; rw [if_neg c0, if_neg c1, if_neg c2, if_neg c3, if_neg c4, if_neg c5, if_neg c6, if_neg c7, if_neg c8, if_neg c9, if_neg c10]
    exact ok_some ⟨rfl, cK.rf⟩
  · unfold fX10_count; rw [pf_s, if_neg c0, if_neg c1, if_neg c2, if_neg c3, if_neg c4, if_neg c5, if_neg c6, if_neg c7, if_neg c8, if_neg c9, if_neg c10]
    rw [m_fail]
    exact ok_some ⟨mKx, Or.inl ⟨rfl, rfl⟩⟩
/-! sets that are gathered bit by bit -/
theorem hb_t {p : Nat → Bool} {i : Nat} (h : i < 8) (hp : p i = true) : nI (hbits p i) ||| pw (nI i) = nI (hbits p (i + 1)) := by
  show _ = nI (hbits p i + if p i then 2 ^ i else 0)
  rw [hp, pw_N i h, or_N, or_add i h _ (hb_lt i)]; rfl
theorem hb_f {p : Nat → Bool} {i : Nat} (hp : p i = false) : nI (hbits p i) = nI (hbits p (i + 1)) := by
  show _ = nI (hbits p i + if p i then 2 ^ i else 0)
  rw [hp]; rfl
theorem or0 (x : Int32) : x ||| 0 = x := by simp
theorem hbits_congr {p p' : Nat → Bool} : ∀ n, (∀ i, i < n → p i = p' i) → hbits p n = hbits p' n := by
  intro n
  induction n with
  | zero => intro _; rfl
  | succ n ih => intro h; show hbits p n + _ = hbits p' n + _; rw [ih (fun i hi => h i (by omega)), h n (by omega)]
def freeB (V : Vy) (r : Rw) (s t : Nat) : Bool := bit (r (2 + s)) (nI t) && !(tre V r s t)
theorem C_free {V : Vy} {v hm : Nat} {S : St} (hc : Cs V v hm S) {s : Nat} (hs : s < vS' V) : fX0_freeTunes (nI s) S = some (nI (hbits (freeB V (S 131) s) (vF V)), S) := by
  have hV := hc.1.1
  have hS6 := hV.2.1
  have hF8 := hV.1
  have hv := hc.1.2.1
  have h0 := hc.2.1
  have hF := hc.1.2.2.1
  have : ok (fX0_freeTunes (nI s) S) (fun q => q = (nI (hbits (freeB V (S 131) s) (vF V)), S)) := by
    unfold fX0_freeTunes
    refine ok_for (σ := Int32) (fun n i x => LX0_freeTunes_4 n (nI s) x (nI i) S) _ (fun i x => x = nI (hbits (freeB V (S 131) s) i)) (vF V) ?_ ?_ FU 0 0 (by omega) (by unfold FU; omega) rfl
    · intro n x hI
      subst hI
      simp (disch := omega) only [LX0_freeTunes_4, KX0_freeTunes_4, gm_v h0 hv, hF, nI_leE, nI_ltE, nI_eqE, nI_m1, c0a, c0b, c0c, c0d, c0e, c1a, c1b, c1c, c1d, c1e, c2a, c2b, c2c, c2d, c2e, c3a, c3b, c3c, c3d, c3e, c4a, c4b, c4c, c4d, c4e, c5a, c5b, c5c, c5d, c5e, c6a, c6b, c6c, c6d, c6e, c7a, c7b, c7c, c7d, c7e, c8a, c8b, c8c, c8d, c8e, c9a, c9b, c9c, c9d, c9e, c10a, c10b, c10c, c10d, c10e, c12a, c12b, c12c, c12d, c12e, c14a, c14b, c14c, c14d, c14e, c16a, c16b, c16c, c16d, c16e, c20a, c20b, c20c, c20d, c20e, c30a, c30b, c30c, c30d, c30e, c32a, c32b, c32c, c32d, c32e, c36a, c36b, c36c, c36d, c36e, c40a, c40b, c40c, c40d, c40e, c41a, c41b, c41c, c41d, c41e, c42a, c42b, c42c, c42d, c42e, c43a, c43b, c43c, c43d, c43e, c45a, c45b, c45c, c45d, c45e, c47a, c47b, c47c, c47d, c47e, c48a, c48b, c48c, c48d, c48e, c57a, c57b, c57c, c57d, c57e, c59a, c59b, c59c, c59d, c59e, c60a, c60b, c60c, c60d, c60e, c61a, c61b, c61c, c61d, c61e, c62a, c62b, c62c, c62d, c62e, c64a, c64b, c64c, c64d, c64e, c96a, c96b, c96c, c96d, c96e, c97a, c97b, c97c, c97d, c97e, c98a, c98b, c98c, c98d, c98e, c99a, c99b, c99c, c99d, c99e, c100a, c100b, c100c, c100d, c100e, c122a, c122b, c122c, c122d, c122e, c700a, c700b, c700c, c700d, c700e, c4240a, c4240b, c4240c, c4240d, c4240e, c9999a, c9999b, c9999c, c9999d, c9999e, c100000a, c100000b, c100000c, c100000d, c100000e, c1000000a, c1000000b, c1000000c, c1000000d, c1000000e, if_T, ri_s]
      exact ok_some rfl
    · intro n i x hi hI ih
      subst hI
      have ew := C_would hc hs hi
      simp (disch := omega) only [LX0_freeTunes_4, KX0_freeTunes_4, gm_v h0 hv, hF, nI_leE, nI_ltE, nI_eqE, nI_m1, c0a, c0b, c0c, c0d, c0e, c1a, c1b, c1c, c1d, c1e, c2a, c2b, c2c, c2d, c2e, c3a, c3b, c3c, c3d, c3e, c4a, c4b, c4c, c4d, c4e, c5a, c5b, c5c, c5d, c5e, c6a, c6b, c6c, c6d, c6e, c7a, c7b, c7c, c7d, c7e, c8a, c8b, c8c, c8d, c8e, c9a, c9b, c9c, c9d, c9e, c10a, c10b, c10c, c10d, c10e, c12a, c12b, c12c, c12d, c12e, c14a, c14b, c14c, c14d, c14e, c16a, c16b, c16c, c16d, c16e, c20a, c20b, c20c, c20d, c20e, c30a, c30b, c30c, c30d, c30e, c32a, c32b, c32c, c32d, c32e, c36a, c36b, c36c, c36d, c36e, c40a, c40b, c40c, c40d, c40e, c41a, c41b, c41c, c41d, c41e, c42a, c42b, c42c, c42d, c42e, c43a, c43b, c43c, c43d, c43e, c45a, c45b, c45c, c45d, c45e, c47a, c47b, c47c, c47d, c47e, c48a, c48b, c48c, c48d, c48e, c57a, c57b, c57c, c57d, c57e, c59a, c59b, c59c, c59d, c59e, c60a, c60b, c60c, c60d, c60e, c61a, c61b, c61c, c61d, c61e, c62a, c62b, c62c, c62d, c62e, c64a, c64b, c64c, c64d, c64e, c96a, c96b, c96c, c96d, c96e, c97a, c97b, c97c, c97d, c97e, c98a, c98b, c98c, c98d, c98e, c99a, c99b, c99c, c99d, c99e, c100a, c100b, c100c, c100d, c100e, c122a, c122b, c122c, c122d, c122e, c700a, c700b, c700c, c700d, c700e, c4240a, c4240b, c4240c, c4240d, c4240e, c9999a, c9999b, c9999c, c9999d, c9999e, c100000a, c100000b, c100000c, c100000d, c100000e, c1000000a, c1000000b, c1000000c, c1000000d, c1000000e, if_F, bd_s, bv_s, bt_s, bt_x, vl_s, pf_s, ri_s, rz_0, rz_1, tri_s, trz_0, trz_1, trx_s, pz_0, pz_1, nI_add, pk_mul, up_at, la2, la5, la6, la8, la14, la62, la64, la98, la700, ra1, ra2, ra6, ra8, ra12, ra20, ra36, ra48, lm6, lm8, lm10, lm100, lm106, rm6, rm8, rm10, rm100, rm106, rd131, rd132, rd133, rd134, rd135, rd136, rd131_0, rd131_1, rd131_8, BX0_freeTunes_45, ew]
      by_cases c : ((S 131 (2 + s) >>> (nI i &&& 31)) &&& 1) = 0
      · rw [if_pos c]
        exact ih _ (hb_f (by unfold freeB; rw [bit_f c]; rfl))
      · rw [if_neg c]
        cases htr : tre V (S 131) s i with
        | true =>
          simp only [if_true]
          rw [if_neg (by decide)]
          exact ih _ (hb_f (by unfold freeB; rw [htr]; simp))
        | false =>
          simp only [Bool.false_eq_true, if_false, if_true]
          exact ih _ (hb_t (by omega) (by unfold freeB; rw [htr, bit_t c]; rfl))
  obtain ⟨b, e, q⟩ := this
  rw [e, q]
theorem M_free {V : Vy} {hm : Nat} {S : St} (hM : VM V S) (hr : ROk V hm (mr S)) (hm9 : hm ≤ 20000) {s : Nat} (hs : s < vS' V) : fX10_free (nI s) S = some (nI (hbits (freeB V (mr S) s) (vF V)), S) := by
  have hV := hM.1
  have hS6 := hV.2.1
  have hF8 := hV.1
  have hF := hM.2.1
  have : ok (fX10_free (nI s) S) (fun q => q = (nI (hbits (freeB V (mr S) s) (vF V)), S)) := by
    unfold fX10_free
    refine ok_for (σ := Int32) (fun n i x => LX10_free_4 n (nI s) x (nI i) S) _ (fun i x => x = nI (hbits (freeB V (mr S) s) i)) (vF V) ?_ ?_ FU 0 0 (by omega) (by unfold FU; omega) rfl
    · intro n x hI
      subst hI
      simp (disch := omega) only [LX10_free_4, KX10_free_4, rd145, rd146, rd147, rd148, rd149, rd150, rd151, rd152, rd153, rd154, rd155, rd156, rd157, rd158, rd159, rd160, rd161, rd162, rd163, rd164, rd165, rd166, rd167, rd168, rd169, rd170, rd171, rd172, rd173, rd174, rd175, rd176, rd177, rd178, rd179, rd180, rd181, rd182, rd183, rd184, rd185, rd145_0, rd145_2, rd145_3, rd145_4, rd145_5, rd145_6, rd145_7, rd156_0, rd156_1, rd166_0, rd178_0, hF, nI_leE, nI_ltE, nI_eqE, nI_m1, c0a, c0b, c0c, c0d, c0e, c1a, c1b, c1c, c1d, c1e, c2a, c2b, c2c, c2d, c2e, c3a, c3b, c3c, c3d, c3e, c4a, c4b, c4c, c4d, c4e, c5a, c5b, c5c, c5d, c5e, c6a, c6b, c6c, c6d, c6e, c7a, c7b, c7c, c7d, c7e, c8a, c8b, c8c, c8d, c8e, c9a, c9b, c9c, c9d, c9e, c10a, c10b, c10c, c10d, c10e, c12a, c12b, c12c, c12d, c12e, c14a, c14b, c14c, c14d, c14e, c16a, c16b, c16c, c16d, c16e, c20a, c20b, c20c, c20d, c20e, c30a, c30b, c30c, c30d, c30e, c32a, c32b, c32c, c32d, c32e, c36a, c36b, c36c, c36d, c36e, c40a, c40b, c40c, c40d, c40e, c41a, c41b, c41c, c41d, c41e, c42a, c42b, c42c, c42d, c42e, c43a, c43b, c43c, c43d, c43e, c45a, c45b, c45c, c45d, c45e, c47a, c47b, c47c, c47d, c47e, c48a, c48b, c48c, c48d, c48e, c57a, c57b, c57c, c57d, c57e, c59a, c59b, c59c, c59d, c59e, c60a, c60b, c60c, c60d, c60e, c61a, c61b, c61c, c61d, c61e, c62a, c62b, c62c, c62d, c62e, c64a, c64b, c64c, c64d, c64e, c96a, c96b, c96c, c96d, c96e, c97a, c97b, c97c, c97d, c97e, c98a, c98b, c98c, c98d, c98e, c99a, c99b, c99c, c99d, c99e, c100a, c100b, c100c, c100d, c100e, c122a, c122b, c122c, c122d, c122e, c700a, c700b, c700c, c700d, c700e, c4240a, c4240b, c4240c, c4240d, c4240e, c9999a, c9999b, c9999c, c9999d, c9999e, c100000a, c100000b, c100000c, c100000d, c100000e, c1000000a, c1000000b, c1000000c, c1000000d, c1000000e, if_T, ri_s]
      exact ok_some rfl
    · intro n i x hi hI ih
      subst hI
      have ew := M_isTr hM hr hm9 hs hi
      have ek : S 158 s = mr S (2 + s) := (mr_k (by omega)).symm
      simp (disch := omega) only [LX10_free_4, KX10_free_4, rd145, rd146, rd147, rd148, rd149, rd150, rd151, rd152, rd153, rd154, rd155, rd156, rd157, rd158, rd159, rd160, rd161, rd162, rd163, rd164, rd165, rd166, rd167, rd168, rd169, rd170, rd171, rd172, rd173, rd174, rd175, rd176, rd177, rd178, rd179, rd180, rd181, rd182, rd183, rd184, rd185, rd145_0, rd145_2, rd145_3, rd145_4, rd145_5, rd145_6, rd145_7, rd156_0, rd156_1, rd166_0, rd178_0, hF, nI_leE, nI_ltE, nI_eqE, nI_m1, c0a, c0b, c0c, c0d, c0e, c1a, c1b, c1c, c1d, c1e, c2a, c2b, c2c, c2d, c2e, c3a, c3b, c3c, c3d, c3e, c4a, c4b, c4c, c4d, c4e, c5a, c5b, c5c, c5d, c5e, c6a, c6b, c6c, c6d, c6e, c7a, c7b, c7c, c7d, c7e, c8a, c8b, c8c, c8d, c8e, c9a, c9b, c9c, c9d, c9e, c10a, c10b, c10c, c10d, c10e, c12a, c12b, c12c, c12d, c12e, c14a, c14b, c14c, c14d, c14e, c16a, c16b, c16c, c16d, c16e, c20a, c20b, c20c, c20d, c20e, c30a, c30b, c30c, c30d, c30e, c32a, c32b, c32c, c32d, c32e, c36a, c36b, c36c, c36d, c36e, c40a, c40b, c40c, c40d, c40e, c41a, c41b, c41c, c41d, c41e, c42a, c42b, c42c, c42d, c42e, c43a, c43b, c43c, c43d, c43e, c45a, c45b, c45c, c45d, c45e, c47a, c47b, c47c, c47d, c47e, c48a, c48b, c48c, c48d, c48e, c57a, c57b, c57c, c57d, c57e, c59a, c59b, c59c, c59d, c59e, c60a, c60b, c60c, c60d, c60e, c61a, c61b, c61c, c61d, c61e, c62a, c62b, c62c, c62d, c62e, c64a, c64b, c64c, c64d, c64e, c96a, c96b, c96c, c96d, c96e, c97a, c97b, c97c, c97d, c97e, c98a, c98b, c98c, c98d, c98e, c99a, c99b, c99c, c99d, c99e, c100a, c100b, c100c, c100d, c100e, c122a, c122b, c122c, c122d, c122e, c700a, c700b, c700c, c700d, c700e, c4240a, c4240b, c4240c, c4240d, c4240e, c9999a, c9999b, c9999c, c9999d, c9999e, c100000a, c100000b, c100000c, c100000d, c100000e, c1000000a, c1000000b, c1000000c, c1000000d, c1000000e, if_F, bd_s, bv_s, bt_s, bt_x, vl_s, pf_s, ri_s, rz_0, rz_1, tri_s, trz_0, trz_1, trx_s, pz_0, pz_1, nI_add, pk_mul, up_at, la2, la5, la6, la8, la14, la62, la64, la98, la700, ra1, ra2, ra6, ra8, ra12, ra20, ra36, ra48, lm6, lm8, lm10, lm100, lm106, rm6, rm8, rm10, rm100, rm106, BX10_free_43, BX10_free_44, ew, M_isOf, ek]
      cases c : bit (mr S (2 + s)) (nI i) with
      | false =>
        simp only [Bool.false_eq_true, if_false, if_true]
        rw [or0]
        exact ih _ (hb_f (by unfold freeB; rw [c]; rfl))
      | true =>
        simp only [if_true]
        rw [if_neg (by decide)]
        cases htr : tre V (mr S) s i with
        | true =>
          simp only [if_true]
          rw [if_neg (by decide), or0]
          exact ih _ (hb_f (by unfold freeB; rw [htr]; simp))
        | false =>
          simp only [Bool.false_eq_true, if_false, if_true]
          exact ih _ (hb_t (by omega) (by unfold freeB; rw [htr, c]; rfl))
  obtain ⟨b, e, q⟩ := this
  rw [e, q]
theorem rg_freeB {V : Vy} (hV : VOk V) {r r' : Rw} (h : rg V r r') {s : Nat} (hs : s < vS' V) : hbits (freeB V r s) (vF V) = hbits (freeB V r' s) (vF V) := by
  have hS6 := hV.2.1
  refine hbits_congr _ (fun i hi => ?_)
  unfold freeB
  rw [rg_tre hV h hs hi, h _ (rl_a (by omega) (by omega) (by omega))]
theorem A_singer {nX : Int32} (a1 a2 : Int32) : Agr nX (fX9_singer a1 a2) (fX10_singer a1 a2) := by
  refine look (fun S V v d hR => ?_)
  have hV := hR.vk
  have hS6 := hV.2.1
  have hv := hR.hv
  rcases arg a1 (n := vS' V) (by omega) with ⟨s, hs, rfl⟩ | h1
  · have hM0 : ∀ T, cK S T → VM V (up T 142 3 0) ∧ mr (up T 142 3 0) = mr S ∧ ROk V 10000 (mr (up T 142 3 0)) := fun T hT => by
      have e : mr (up T 142 3 0) = mr S := by rw [mr_up (by omega) (by omega), hT.mr]
      exact ⟨(hR.c hT).M.go (fun a ha => up_ne (by omega)), e, by rw [e]; exact hR.mok⟩
    by_cases c0 : a2 = 0
    · subst c0
      have ew := hR.C.2.2.2.2.1 s hs
      refine ⟨.inl (nI (vW V s)), ?_, fun T hT => ?_⟩
      · unfold fX9_singer
        rw [C_nS_t hR hs, bt_s, if_pos rfl, gm_v hR.2.1 hv]
        simp (disch := omega) only [srv3, srv4, srv5, srv6, srv7, srv8, srv9, srv10, srv11, srv12, srv13, rdv1, rdv2, rdv3, rdv4, rdv5, rdv6, rdv7, rdv8, rdv9, rdv10, rdv12, rdv14, ew, bd_s, bv_s, bt_s, bt_x, vl_s, pf_s, ri_s, rz_0, rz_1, tri_s, trz_0, trz_1, trx_s, pz_0, pz_1, nI_add, pk_mul, up_at, la2, la5, la6, la8, la14, la62, la64, la98, la700, ra1, ra2, ra6, ra8, ra12, ra20, ra36, ra48, lm6, lm8, lm10, lm100, lm106, rm6, rm8, rm10, rm100, rm106]
        exact ok_some ⟨rfl, cK.rf⟩
      · unfold fX10_singer
        rw [pf_s, M_isS_t (hM0 T hT).1 hs, bd_s, if_neg (by decide), if_pos rfl, rd151 (by omega), up_ne (by decide), (hR.c hT).M.2.2.2.1 s hs]
        exact ok_some ⟨mK0, rfl, rfl⟩
    by_cases c1 : a2 = 1
    · subst c1
      refine ⟨.inl (pl V (S 37) s), ?_, fun T hT => ?_⟩
      · unfold fX9_singer
        rw [C_nS_t hR hs, bt_s, if_neg c0, if_pos rfl, gm_v hR.2.1 hv, C_placeOf (a1 := 37) hR.C hR.rok (by decide) rfl hs]
        exact ok_some ⟨rfl, cK.rf⟩
      · unfold fX10_singer
        obtain ⟨p1, p2, p3⟩ := hM0 T hT
        rw [pf_s, M_isS_t p1 hs, bd_s, if_neg (by decide), if_neg c0, if_pos rfl, M_placeOf p1 p3 (by decide) hs, p2, rg_pl hV hR.rag.sm hs]
        exact ok_some ⟨mK0, rfl, rfl⟩
    by_cases c2 : a2 = 2
    · subst c2
      refine ⟨.inl (S 37 (2 + s)), ?_, fun T hT => ?_⟩
      · unfold fX9_singer
        rw [C_nS_t hR hs, bt_s, if_neg c0, if_neg c1, if_pos rfl]
        simp (disch := omega) only [bd_s, bv_s, bt_s, bt_x, vl_s, pf_s, ri_s, rz_0, rz_1, tri_s, trz_0, trz_1, trx_s, pz_0, pz_1, nI_add, pk_mul, up_at, la2, la5, la6, la8, la14, la62, la64, la98, la700, ra1, ra2, ra6, ra8, ra12, ra20, ra36, ra48, lm6, lm8, lm10, lm100, lm106, rm6, rm8, rm10, rm100, rm106, rd37]
        exact ok_some ⟨rfl, cK.rf⟩
      · unfold fX10_singer
        obtain ⟨p1, p2, p3⟩ := hM0 T hT
        rw [pf_s, M_isS_t p1 hs, bd_s, if_neg (by decide), if_neg c0, if_neg c1, if_pos rfl, rd158 (by omega), ← mr_k (S := up T 142 3 0) (q := s) (by omega), p2, hR.rag _ (rl_a (by omega) (by omega) (by omega))]
        exact ok_some ⟨mK0, rfl, rfl⟩
    by_cases c3 : a2 = 3
    · subst c3
      refine ⟨.inl (S 37 (8 + s)), ?_, fun T hT => ?_⟩
      · unfold fX9_singer
        rw [C_nS_t hR hs, bt_s, if_neg c0, if_neg c1, if_neg c2, if_pos rfl]
        simp (disch := omega) only [bd_s, bv_s, bt_s, bt_x, vl_s, pf_s, ri_s, rz_0, rz_1, tri_s, trz_0, trz_1, trx_s, pz_0, pz_1, nI_add, pk_mul, up_at, la2, la5, la6, la8, la14, la62, la64, la98, la700, ra1, ra2, ra6, ra8, ra12, ra20, ra36, ra48, lm6, lm8, lm10, lm100, lm106, rm6, rm8, rm10, rm100, rm106, rd37]
        exact ok_some ⟨rfl, cK.rf⟩
      · unfold fX10_singer
        obtain ⟨p1, p2, p3⟩ := hM0 T hT
        rw [pf_s, M_isS_t p1 hs, bd_s, if_neg (by decide), if_neg c0, if_neg c1, if_neg c2, if_pos rfl, rd159 (by omega), ← mr_p (S := up T 142 3 0) (q := s) (by omega), p2, hR.rag _ (rl_a (by omega) (by omega) (by omega))]
        exact ok_some ⟨mK0, rfl, rfl⟩
    by_cases c4 : a2 = 4
    · subst c4
      refine ⟨.inl (nI (hbits (freeB V (S 37) s) (vF V))), ?_, fun T hT => ?_⟩
      · obtain ⟨S1, e1, b1, b2, b3, b4, b5⟩ := C_begin (a2 := 37) hR.C rfl (by decide) hR.rok (by decide)
        unfold fX9_singer
        rw [C_nS_t hR hs, bt_s, if_neg c0, if_neg c1, if_neg c2, if_neg c3, if_pos rfl, gm_v hR.2.1 hv, e1, bv_s, C_free b2 hs, bd_s, rg_freeB hV (b1.w hV) hs]
        exact ok_some ⟨rfl, cFr.k b5⟩
      · unfold fX10_singer
        obtain ⟨p1, p2, p3⟩ := hM0 T hT
        rw [pf_s, M_isS_t p1 hs, bd_s, if_neg (by decide), if_neg c0, if_neg c1, if_neg c2, if_neg c3, if_pos rfl, M_free p1 p3 (by decide) hs, p2, rg_freeB hV hR.rag.sm hs]
        exact ok_some ⟨mK0, rfl, rfl⟩
    by_cases c5 : a2 = 5
    · subst c5
      refine ⟨.inl (tuI V (S 37) s), ?_, fun T hT => ?_⟩
      · obtain ⟨S1, e1, b1, b2, b3, b4, b5⟩ := C_begin (a2 := 37) hR.C rfl (by decide) hR.rok (by decide)
        obtain ⟨⟨x, S2⟩, e2, g1, g2⟩ := C_tuneOf b2 hs
        have g2' : ∀ a, a ≠ 136 → a ≠ v + 12 → S2 a = S1 a := g2
        unfold fX9_singer
        rw [C_nS_t hR hs, bt_s, if_neg c0, if_neg c1, if_neg c2, if_neg c3, if_neg c4, if_pos rfl, gm_v hR.2.1 hv, e1, bv_s, e2, bd_s, show x = _ from g1, ag_tuI hV b1 hs]
        exact ok_some ⟨rfl, fun a h1 h2 h3 h4 h5 => (g2' a (by omega) (by omega)).trans (b5 a (by omega) h2 h3 h4 h5)⟩
      · unfold fX10_singer
        obtain ⟨p1, p2, p3⟩ := hM0 T hT
        obtain ⟨⟨x, T2⟩, e2, g1, g2⟩ := M_tuneOf p1 p3 (by decide) hs
        have g2' : ∀ a, a ≠ 165 → a ≠ 166 → T2 a = up T 142 3 0 a := g2
        rw [pf_s, M_isS_t p1 hs, bd_s, if_neg (by decide), if_neg c0, if_neg c1, if_neg c2, if_neg c3, if_neg c4, if_pos rfl, e2, bd_s, show x = _ from g1, p2, rg_tuI hV hR.rag.sm hs]
        refine ok_some ⟨mK0.tr ⟨by rw [mr_of g2']; exact ag.rf, fun a ha => g2' a (by omega) (by omega), fun j hj => by show T2 142 j = _; rw [g2' 142 (by decide) (by decide)]⟩, ?_, rfl⟩
        show T2 142 3 = 0
        rw [g2' 142 (by decide) (by decide), up_at]
    refine ⟨.inr 1, ?_, fun T hT => ?_⟩
    · unfold fX9_singer
      rw [C_nS_t hR hs, bt_s, if_neg c0, if_neg c1, if_neg c2, if_neg c3, if_neg c4, if_neg c5]
      exact ok_some ⟨rfl, cK.rf⟩
    · unfold fX10_singer
      rw [pf_s, M_isS_t (hM0 T hT).1 hs, bd_s, if_neg (by decide), if_neg c0, if_neg c1, if_neg c2, if_neg c3, if_neg c4, if_neg c5, m_fail]
      exact ok_some ⟨mKx, Or.inl ⟨rfl, rfl⟩⟩
  · refine ⟨.inr 1, ?_, fun T hT => ?_⟩
    · unfold fX9_singer
      rw [C_nS_f hR h1, bt_x]
      exact ok_some ⟨rfl, cK.rf⟩
    · have hT' := hR.c hT
      unfold fX10_singer
      rw [pf_s, M_isS_f (hT'.M.go (fun a ha => up_ne (by omega))) h1, bd_s, if_pos rfl, m_fail]
      exact ok_some ⟨mKx, Or.inl ⟨rfl, rfl⟩⟩
