theorem ok_for3 {β σ : Type} (L : Nat → Nat → σ → Option β) (Q : β → Prop) (I : Nat → σ → Prop) (N k : Nat)
    (hend : ∀ n s, k ≤ n → I N s → ok (L (n + 1) N s) Q) (hstep : ∀ n i s, i < N → N - i + k ≤ n → I i s → (∀ s', I (i + 1) s' → ok (L n (i + 1) s') Q) → ok (L (n + 1) i s) Q) :
    ∀ n i s, i ≤ N → N - i + k < n → I i s → ok (L n i s) Q := by
  intro n
  induction n with
  | zero => intro i s _ h; omega
  | succ n ih =>
    intro i s hi hn hI
    rcases Nat.lt_or_ge i N with h | h
    · exact hstep n i s h (by omega) hI (fun s' hs' => ih (i + 1) s' (by omega) (by omega) hs')
    · have : i = N := by omega
      subst this
      exact hend n s (by omega) hI
theorem ROk_e {V : Vy} (hV : VOk V) {hm : Nat} {r : Rw} (hr : ROk V hm r) {s f e : Nat} (hs : s < 6) (hf : f < 8) (he : e ≤ 99) : ROk V hm (upd r (14 + s * 8 + f) (nI e)) := by
  have hS6 := hV.2.1
  obtain ⟨h0, h1, h2, h3, h4, h5⟩ := hr
  refine ⟨by rw [upd_ne (by omega)]; exact h0, fun q hq => by rw [upd_ne (by omega)]; exact h1 q hq, fun q hq => by rw [upd_ne (by omega)]; exact h2 q hq, fun a b ha hb => ?_, fun q i hq hi => by rw [upd_ne (by omega)]; exact h4 q i hq hi, fun t ht => by rw [upd_ne (by omega)]; exact h5 t ht⟩
  unfold upd
  split
  · exact ⟨e, he, rfl⟩
  · exact h3 a b ha hb
theorem M_need1 {V : Vy} {S T1 T : St} {r : Rw} (hV : VOk V) (hr : ROk V 10000 r) (m1 : VM V T1) (m4 : T1 142 41 = -1) (e1' : T1 = row S 169 (pkd S 169 0)) (hb : rg V (mr S) r) (hT : mFr T1 T) (hTr : rg V (mr T) r) {s f n e : Nat} (hs : s < vS' V) (hf : f < vF V) (hn : n ≤ 60) (he : e ≤ 99) {l4 : Int32} {r60 : Int32 → Int32 → Int32 → Int32 → Int32 → St → Option (Int32 × St)} {Q : Int32 × St → Prop} (b : Bool)
    (hb2 : if b then ∀ i, i < n → ¬ trI V (hrs V (upd r (14 + s * 8 + f) (nI e)) i) s = nI f else ∃ i, i < n ∧ trI V (hrs V (upd r (14 + s * 8 + f) (nI e)) i) s = nI f)
    (hk : ∀ T', mFr T1 T' → rg V (mr T') r → (mK S T') → ok (r60 (nI s) (nI f) (nI n) (if b then nI e else l4) (nI (e + 1)) T') Q) :
    ok (LX10_needed_92 r60 FU (nI s) (nI f) (nI n) l4 (nI e) 1 0 (up T 160 (8 * s + f) (nI e))) Q := by
  have hS6 := hV.2.1
  have hF8 := hV.1
  have hT0 : mFr T1 (up T 160 (8 * s + f) (nI e)) := hT.up (Or.inl ⟨by omega, by omega, by omega, by omega⟩)
  have mT0 : mr (up T 160 (8 * s + f) (nI e)) = upd (mr T) (14 + s * 8 + f) (nI e) := by rw [mr_uE (by omega), show 14 + (8 * s + f) = 14 + s * 8 + f by omega]
  have agT0 : rg V (mr (up T 160 (8 * s + f) (nI e))) (upd r (14 + s * 8 + f) (nI e)) := by rw [mT0]; exact rg_upd hTr
  have ry := ROk_e hV hr (s := s) (f := f) (e := e) (by omega) (by omega) he
  have ry0 : ROk V 10000 (mr (up T 160 (8 * s + f) (nI e))) := rg_ROk hV agT0.sm ry
  generalize hU0 : up T 160 (8 * s + f) (nI e) = T0 at hT0 mT0 agT0 ry0 ⊢
  have out : ∀ (U : St) (x6 l4' : Int32), mFr T1 U → (x6 = 0 ∧ l4' = l4 ∨ x6 = 1 ∧ l4' = nI e) → l4' = (if b then nI e else l4) → ok (BX10_needed_130 r60 (nI s) (nI f) (nI n) l4 (nI e) x6 U) Q := by
    intro U x6 l4' hU hx hl
    have hU2 := hU
    rw [e1'] at hU2
    obtain ⟨T3, e3, c1, c2, c3⟩ := M_back hU2
    have fr3 : mFr T1 T3 := by
      refine ⟨fun a ha => ?_, fun j h1 h2 => by rw [c3 j h1 h2, hU.2 j h1 h2]⟩
      by_cases c : 162 < a
      · rw [c2 a c, hU.1 a ha]
      · rw [c1.2.1 a (by omega), e1', row_ne (by omega)]
    unfold BX10_needed_130
    rcases hx with ⟨h1, h2⟩ | ⟨h1, h2⟩
    · rw [if_pos h1]
      unfold BX10_needed_139
      rw [e3, bv_s, vl_s, nI_1, ← h2, hl]
      exact hk T3 fr3 ((c1.1.w hV).tr hb) c1
    · rw [if_neg (by rw [h1]; decide)]
      unfold BX10_needed_139
      rw [e3, bv_s, vl_s, nI_1]
      have := hk T3 fr3 ((c1.1.w hV).tr hb) c1
      rw [← hl, h2] at this
      exact this
  have step : ∀ (i : Nat) (U : St), i < n → mr U = hrs V (mr T0) i → mFr T1 U → ∃ U2, fX10_anHour U = some U2 ∧ mr U2 = hrs V (mr T0) (i + 1) ∧ mFr T1 U2 ∧ U2 168 s = trI V (hrs V (upd r (14 + s * 8 + f) (nI e)) i) s := by
    intro i U hi hU hfr
    have ro := (hrs_ok ry0 hV i (by omega)).1
    obtain ⟨U2, e2, g1, -, g3, g4⟩ := M_hour (m1.fr hfr) (by rw [hU]; exact ro) (by omega) (by rw [hfr.2 41 (by decide) (by decide)]; exact m4)
    refine ⟨U2, e2, by rw [g1, hU]; rfl, hfr.tr g4, ?_⟩
    rw [g3 s hs, hU, rg_trI hV (rg_hrs hV agT0 ry0 i (by omega)) ro (by omega) hs]
  cases b with
  | true =>
    have hb3 : ∀ i, i < n → ¬ trI V (hrs V (upd r (14 + s * 8 + f) (nI e)) i) s = nI f := hb2
    refine ok_for (fun k i U => LX10_needed_92 r60 k (nI s) (nI f) (nI n) l4 (nI e) 1 (nI i) U) _ (fun i U => mr U = hrs V (mr T0) i ∧ mFr T1 U) n ?_ ?_ FU 0 T0 (by omega) (by unfold FU; omega) ⟨rfl, hT0⟩
    · intro k U hI
      simp (disch := omega) only [LX10_needed_92, KX10_needed_92, nI_leE, nI_ltE, nI_eqE, nI_m1, c0a, c0b, c0c, c0d, c0e, c1a, c1b, c1c, c1d, c1e, c2a, c2b, c2c, c2d, c2e, c3a, c3b, c3c, c3d, c3e, c4a, c4b, c4c, c4d, c4e, c5a, c5b, c5c, c5d, c5e, c6a, c6b, c6c, c6d, c6e, c7a, c7b, c7c, c7d, c7e, c8a, c8b, c8c, c8d, c8e, c9a, c9b, c9c, c9d, c9e, c10a, c10b, c10c, c10d, c10e, c12a, c12b, c12c, c12d, c12e, c14a, c14b, c14c, c14d, c14e, c16a, c16b, c16c, c16d, c16e, c20a, c20b, c20c, c20d, c20e, c30a, c30b, c30c, c30d, c30e, c32a, c32b, c32c, c32d, c32e, c36a, c36b, c36c, c36d, c36e, c40a, c40b, c40c, c40d, c40e, c41a, c41b, c41c, c41d, c41e, c42a, c42b, c42c, c42d, c42e, c43a, c43b, c43c, c43d, c43e, c45a, c45b, c45c, c45d, c45e, c47a, c47b, c47c, c47d, c47e, c48a, c48b, c48c, c48d, c48e, c57a, c57b, c57c, c57d, c57e, c59a, c59b, c59c, c59d, c59e, c60a, c60b, c60c, c60d, c60e, c61a, c61b, c61c, c61d, c61e, c62a, c62b, c62c, c62d, c62e, c64a, c64b, c64c, c64d, c64e, c96a, c96b, c96c, c96d, c96e, c97a, c97b, c97c, c97d, c97e, c98a, c98b, c98c, c98d, c98e, c99a, c99b, c99c, c99d, c99e, c100a, c100b, c100c, c100d, c100e, c122a, c122b, c122c, c122d, c122e, c700a, c700b, c700c, c700d, c700e, c4240a, c4240b, c4240c, c4240d, c4240e, c9999a, c9999b, c9999c, c9999d, c9999e, c100000a, c100000b, c100000c, c100000d, c100000e, c1000000a, c1000000b, c1000000c, c1000000d, c1000000e, if_T]
      exact out U 1 (nI e) hI.2 (Or.inr ⟨rfl, rfl⟩) (if_pos rfl).symm
    · intro k i U hi hI ih
      obtain ⟨U2, e2, g1, g2, g3⟩ := step i U hi hI.1 hI.2
      simp (disch := omega) only [LX10_needed_92, KX10_needed_92, nI_leE, nI_ltE, nI_eqE, nI_m1, c0a, c0b, c0c, c0d, c0e, c1a, c1b, c1c, c1d, c1e, c2a, c2b, c2c, c2d, c2e, c3a, c3b, c3c, c3d, c3e, c4a, c4b, c4c, c4d, c4e, c5a, c5b, c5c, c5d, c5e, c6a, c6b, c6c, c6d, c6e, c7a, c7b, c7c, c7d, c7e, c8a, c8b, c8c, c8d, c8e, c9a, c9b, c9c, c9d, c9e, c10a, c10b, c10c, c10d, c10e, c12a, c12b, c12c, c12d, c12e, c14a, c14b, c14c, c14d, c14e, c16a, c16b, c16c, c16d, c16e, c20a, c20b, c20c, c20d, c20e, c30a, c30b, c30c, c30d, c30e, c32a, c32b, c32c, c32d, c32e, c36a, c36b, c36c, c36d, c36e, c40a, c40b, c40c, c40d, c40e, c41a, c41b, c41c, c41d, c41e, c42a, c42b, c42c, c42d, c42e, c43a, c43b, c43c, c43d, c43e, c45a, c45b, c45c, c45d, c45e, c47a, c47b, c47c, c47d, c47e, c48a, c48b, c48c, c48d, c48e, c57a, c57b, c57c, c57d, c57e, c59a, c59b, c59c, c59d, c59e, c60a, c60b, c60c, c60d, c60e, c61a, c61b, c61c, c61d, c61e, c62a, c62b, c62c, c62d, c62e, c64a, c64b, c64c, c64d, c64e, c96a, c96b, c96c, c96d, c96e, c97a, c97b, c97c, c97d, c97e, c98a, c98b, c98c, c98d, c98e, c99a, c99b, c99c, c99d, c99e, c100a, c100b, c100c, c100d, c100e, c122a, c122b, c122c, c122d, c122e, c700a, c700b, c700c, c700d, c700e, c4240a, c4240b, c4240c, c4240d, c4240e, c9999a, c9999b, c9999c, c9999d, c9999e, c100000a, c100000b, c100000c, c100000d, c100000e, c1000000a, c1000000b, c1000000c, c1000000d, c1000000e, if_F, e2, bd_s, bv_s, bt_s, bt_x, vl_s, pf_s, ri_s, rz_0, rz_1, tri_s, trz_0, trz_1, trx_s, pz_0, pz_1, nI_add, pk_mul, up_at, la2, la5, la6, la8, la14, la62, la64, la98, la700, ra1, ra2, ra6, ra8, ra12, ra20, ra36, ra48, lm6, lm8, lm10, lm100, lm106, rm6, rm8, rm10, rm100, rm106, rd145, rd146, rd147, rd148, rd149, rd150, rd151, rd152, rd153, rd154, rd155, rd156, rd157, rd158, rd159, rd160, rd161, rd162, rd163, rd164, rd165, rd166, rd167, rd168, rd169, rd170, rd171, rd172, rd173, rd174, rd175, rd176, rd177, rd178, rd179, rd180, rd181, rd182, rd183, rd184, rd185, rd145_0, rd145_2, rd145_3, rd145_4, rd145_5, rd145_6, rd145_7, rd156_0, rd156_1, rd166_0, rd178_0, g3, BX10_needed_122]
      rw [if_neg (by decide), if_neg (hb3 i hi)]
      exact ih _ ⟨g1, g2⟩
  | false =>
    have hb3 : ∃ i, i < n ∧ trI V (hrs V (upd r (14 + s * 8 + f) (nI e)) i) s = nI f := hb2
    obtain ⟨i0, ⟨h1, h2⟩, hlst⟩ := pk_least (fun i => i < n ∧ trI V (hrs V (upd r (14 + s * 8 + f) (nI e)) i) s = nI f) hb3
    refine ok_for3 (fun k i U => LX10_needed_92 r60 k (nI s) (nI f) (nI n) l4 (nI e) 1 (nI i) U) _ (fun i U => mr U = hrs V (mr T0) i ∧ mFr T1 U) i0 1 ?_ ?_ FU 0 T0 (by omega) (by unfold FU; omega) ⟨rfl, hT0⟩
    · intro k U hk1 hI
      obtain ⟨U2, e2, g1, g2, g3⟩ := step i0 U h1 hI.1 hI.2
      obtain ⟨k', rfl⟩ : ∃ k', k = k' + 1 := ⟨k - 1, by omega⟩
      simp (disch := omega) only [LX10_needed_92, KX10_needed_92, nI_leE, nI_ltE, nI_eqE, nI_m1, c0a, c0b, c0c, c0d, c0e, c1a, c1b, c1c, c1d, c1e, c2a, c2b, c2c, c2d, c2e, c3a, c3b, c3c, c3d, c3e, c4a, c4b, c4c, c4d, c4e, c5a, c5b, c5c, c5d, c5e, c6a, c6b, c6c, c6d, c6e, c7a, c7b, c7c, c7d, c7e, c8a, c8b, c8c, c8d, c8e, c9a, c9b, c9c, c9d, c9e, c10a, c10b, c10c, c10d, c10e, c12a, c12b, c12c, c12d, c12e, c14a, c14b, c14c, c14d, c14e, c16a, c16b, c16c, c16d, c16e, c20a, c20b, c20c, c20d, c20e, c30a, c30b, c30c, c30d, c30e, c32a, c32b, c32c, c32d, c32e, c36a, c36b, c36c, c36d, c36e, c40a, c40b, c40c, c40d, c40e, c41a, c41b, c41c, c41d, c41e, c42a, c42b, c42c, c42d, c42e, c43a, c43b, c43c, c43d, c43e, c45a, c45b, c45c, c45d, c45e, c47a, c47b, c47c, c47d, c47e, c48a, c48b, c48c, c48d, c48e, c57a, c57b, c57c, c57d, c57e, c59a, c59b, c59c, c59d, c59e, c60a, c60b, c60c, c60d, c60e, c61a, c61b, c61c, c61d, c61e, c62a, c62b, c62c, c62d, c62e, c64a, c64b, c64c, c64d, c64e, c96a, c96b, c96c, c96d, c96e, c97a, c97b, c97c, c97d, c97e, c98a, c98b, c98c, c98d, c98e, c99a, c99b, c99c, c99d, c99e, c100a, c100b, c100c, c100d, c100e, c122a, c122b, c122c, c122d, c122e, c700a, c700b, c700c, c700d, c700e, c4240a, c4240b, c4240c, c4240d, c4240e, c9999a, c9999b, c9999c, c9999d, c9999e, c100000a, c100000b, c100000c, c100000d, c100000e, c1000000a, c1000000b, c1000000c, c1000000d, c1000000e, if_F, e2, bd_s, bv_s, bt_s, bt_x, vl_s, pf_s, ri_s, rz_0, rz_1, tri_s, trz_0, trz_1, trx_s, pz_0, pz_1, nI_add, pk_mul, up_at, la2, la5, la6, la8, la14, la62, la64, la98, la700, ra1, ra2, ra6, ra8, ra12, ra20, ra36, ra48, lm6, lm8, lm10, lm100, lm106, rm6, rm8, rm10, rm100, rm106, rd145, rd146, rd147, rd148, rd149, rd150, rd151, rd152, rd153, rd154, rd155, rd156, rd157, rd158, rd159, rd160, rd161, rd162, rd163, rd164, rd165, rd166, rd167, rd168, rd169, rd170, rd171, rd172, rd173, rd174, rd175, rd176, rd177, rd178, rd179, rd180, rd181, rd182, rd183, rd184, rd185, rd145_0, rd145_2, rd145_3, rd145_4, rd145_5, rd145_6, rd145_7, rd156_0, rd156_1, rd166_0, rd178_0, g3, BX10_needed_122, h2, if_T]
      rw [if_neg (by decide)]
      have o2 := out U2 0 l4 g2 (Or.inl ⟨rfl, rfl⟩) (if_neg (by decide)).symm
      rw [if_pos trivial]
      split
      · exact o2
      · exact o2
    · intro k i U hi _ hI ih
      obtain ⟨U2, e2, g1, g2, g3⟩ := step i U (by omega) hI.1 hI.2
      simp (disch := omega) only [LX10_needed_92, KX10_needed_92, nI_leE, nI_ltE, nI_eqE, nI_m1, c0a, c0b, c0c, c0d, c0e, c1a, c1b, c1c, c1d, c1e, c2a, c2b, c2c, c2d, c2e, c3a, c3b, c3c, c3d, c3e, c4a, c4b, c4c, c4d, c4e, c5a, c5b, c5c, c5d, c5e, c6a, c6b, c6c, c6d, c6e, c7a, c7b, c7c, c7d, c7e, c8a, c8b, c8c, c8d, c8e, c9a, c9b, c9c, c9d, c9e, c10a, c10b, c10c, c10d, c10e, c12a, c12b, c12c, c12d, c12e, c14a, c14b, c14c, c14d, c14e, c16a, c16b, c16c, c16d, c16e, c20a, c20b, c20c, c20d, c20e, c30a, c30b, c30c, c30d, c30e, c32a, c32b, c32c, c32d, c32e, c36a, c36b, c36c, c36d, c36e, c40a, c40b, c40c, c40d, c40e, c41a, c41b, c41c, c41d, c41e, c42a, c42b, c42c, c42d, c42e, c43a, c43b, c43c, c43d, c43e, c45a, c45b, c45c, c45d, c45e, c47a, c47b, c47c, c47d, c47e, c48a, c48b, c48c, c48d, c48e, c57a, c57b, c57c, c57d, c57e, c59a, c59b, c59c, c59d, c59e, c60a, c60b, c60c, c60d, c60e, c61a, c61b, c61c, c61d, c61e, c62a, c62b, c62c, c62d, c62e, c64a, c64b, c64c, c64d, c64e, c96a, c96b, c96c, c96d, c96e, c97a, c97b, c97c, c97d, c97e, c98a, c98b, c98c, c98d, c98e, c99a, c99b, c99c, c99d, c99e, c100a, c100b, c100c, c100d, c100e, c122a, c122b, c122c, c122d, c122e, c700a, c700b, c700c, c700d, c700e, c4240a, c4240b, c4240c, c4240d, c4240e, c9999a, c9999b, c9999c, c9999d, c9999e, c100000a, c100000b, c100000c, c100000d, c100000e, c1000000a, c1000000b, c1000000c, c1000000d, c1000000e, if_F, e2, bd_s, bv_s, bt_s, bt_x, vl_s, pf_s, ri_s, rz_0, rz_1, tri_s, trz_0, trz_1, trx_s, pz_0, pz_1, nI_add, pk_mul, up_at, la2, la5, la6, la8, la14, la62, la64, la98, la700, ra1, ra2, ra6, ra8, ra12, ra20, ra36, ra48, lm6, lm8, lm10, lm100, lm106, rm6, rm8, rm10, rm100, rm106, rd145, rd146, rd147, rd148, rd149, rd150, rd151, rd152, rd153, rd154, rd155, rd156, rd157, rd158, rd159, rd160, rd161, rd162, rd163, rd164, rd165, rd166, rd167, rd168, rd169, rd170, rd171, rd172, rd173, rd174, rd175, rd176, rd177, rd178, rd179, rd180, rd181, rd182, rd183, rd184, rd185, rd145_0, rd145_2, rd145_3, rd145_4, rd145_5, rd145_6, rd145_7, rd156_0, rd156_1, rd166_0, rd178_0, g3, BX10_needed_122]
      rw [if_neg (by decide), if_neg (fun z => hlst i hi ⟨by omega, z⟩)]
      exact ih _ ⟨g1, g2⟩
