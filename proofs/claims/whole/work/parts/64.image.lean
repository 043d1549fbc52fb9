theorem cpy_ag {S : St} {a0 a n : Nat} {i : Nat} (hi : i < n) : cpy S a0 0 a 0 n a i = S a0 i := by
  rw [cpy_row, pk_cpy_in (by omega) (by omega), show 0 + (i - 0) = i by omega]
/-- copying a story: c0 and c1 are 36 and 83 -/
theorem C_copy {S : St} {c0 c1 n : Nat} {h : Nat → Rw} (hc : c0 = 83 ∧ c1 = 36 ∨ c0 = 36 ∧ c1 = 83) (n4 : n ≤ 40) (hh : HC S c1 n h) : ok (fX4_copy c0 c1 S) (fun S' => ag (S' (c0 + 1)) (S (c1 + 1)) ∧ HC S' c0 n h ∧ S' c0 4 = S c1 4 ∧ (∀ i, i < 8 → S' (c0 + 43) i = S (c1 + 43) i ∧ S' (c0 + 44) i = S (c1 + 44) i ∧ S' (c0 + 45) i = S (c1 + 45) i) ∧ (∀ i, i < 3 → S' (c0 + 46) i = S (c1 + 46) i) ∧ ∀ a, (a < c0 ∨ c0 + 46 < a) → S' a = S a) := by
  obtain ⟨o, o4, e3, e2, ej⟩ := hh
  have s0 : sr c0 0 = c0 + 1 ∧ sr c0 1 = c0 + 2 ∧ sr c0 5 = c0 + 43 ∧ sr c0 6 = c0 + 44 ∧ sr c0 7 = c0 + 45 ∧ sr c0 8 = c0 + 46 := by rcases hc with ⟨rfl, -⟩ | ⟨rfl, -⟩ <;> decide
  have s1 : sr c1 0 = c1 + 1 ∧ sr c1 1 = c1 + 2 ∧ sr c1 5 = c1 + 43 ∧ sr c1 6 = c1 + 44 ∧ sr c1 7 = c1 + 45 ∧ sr c1 8 = c1 + 46 := by rcases hc with ⟨-, rfl⟩ | ⟨-, rfl⟩ <;> decide
  have l0 : ln (c0 + 1) = 106 ∧ ln (c0 + 2) = 40 ∧ ln (c0 + 43) = 8 ∧ ln (c0 + 44) = 8 ∧ ln (c0 + 45) = 8 ∧ ln (c0 + 46) = 3 := by rcases hc with ⟨rfl, -⟩ | ⟨rfl, -⟩ <;> decide
  have l1 : ln (c1 + 1) = 106 ∧ ln (c1 + 2) = 40 ∧ ln (c1 + 43) = 8 ∧ ln (c1 + 44) = 8 ∧ ln (c1 + 45) = 8 ∧ ln (c1 + 46) = 3 := by rcases hc with ⟨-, rfl⟩ | ⟨-, rfl⟩ <;> decide
  have lz : ∀ z, z < 40 → ln (c0 + 3 + z) = 106 ∧ ln (c1 + 3 + z) = 106 := by
    intro z hz
    have q := lnBf z hz
    rcases hc with ⟨rfl, rfl⟩ | ⟨rfl, rfl⟩
    · exact ⟨q.2, q.1⟩
    · exact ⟨q.1, q.2⟩
  obtain ⟨s00, s01, s05, s06, s07, s08⟩ := s0
  obtain ⟨s10, s11, s15, s16, s17, s18⟩ := s1
  obtain ⟨l01, l02, l03, l04, l05, l06⟩ := l0
  obtain ⟨l11, l12, l13, l14, l15, l16⟩ := l1
  have dis : c0 + 46 < c1 ∨ c1 + 46 < c0 := by omega
  unfold fX4_copy
  rw [s00, s10, show (0 : Int32) = nI 0 from rfl, show (106 : Int32) = nI 106 from rfl, ac_g (by omega) (by omega), pf_s, pf_s, cpy_ne (by omega), up_ne (by omega), cpy_ne (by omega), e2, e3]
  generalize hT0 : up (up (cpy S (c1 + 1) 0 (c0 + 1) 0 106) c0 2 (nI o)) c0 3 (nI n) = T0
  have t0 : ∀ a, a ≠ c0 → a ≠ c0 + 1 → T0 a = S a := fun a h1 h2 => by rw [← hT0, up_ne h1, up_ne h1, cpy_ne h2]
  have t2 : T0 c0 2 = nI o := by rw [← hT0, up_off (by decide), up_at]
  have t3 : T0 c0 3 = nI n := by rw [← hT0, up_at]
  have t1 : ag (T0 (c0 + 1)) (S (c1 + 1)) := fun i hi => by rw [← hT0, up_ne (by omega), up_ne (by omega), cpy_ag hi]
  refine ok_for (fun k i T => LX4_copy_33 k c0 c1 (nI i) T) _ (fun i T => (∀ a, (a < c0 + 3 ∨ c0 + 42 < a) → T a = T0 a) ∧ ∀ j, j < i → ag (T (c0 + 3 + (o + j) % 40)) (h j)) n ?_ ?_ FU 0 T0 (by omega) (by unfold FU; omega) ⟨fun _ _ => rfl, fun j hj => absurd hj (by omega)⟩
  · intro k T hI
    obtain ⟨i1, i2⟩ := hI
    have z3 : T c0 3 = nI n := by rw [i1 c0 (by omega)]; exact t3
    have z2 : T c0 2 = nI o := by rw [i1 c0 (by omega)]; exact t2
    have z4 : T c1 4 = S c1 4 := by rw [i1 c1 (by omega), t0 c1 (by omega) (by omega)]
    show ok (KX4_copy_33 (LX4_copy_33 k) c0 c1 (nI n) T) _
    unfold KX4_copy_33
    rw [z3, if_pos (nI_le (Nat.le_refl _) (by omega)), pf_s, z4, s05, s15, s06, s16, s07, s17, s08, s18, show (0 : Int32) = nI 0 from rfl, show (8 : Int32) = nI 8 from rfl, show (3 : Int32) = nI 3 from rfl, ac_g (by omega) (by omega), ac_g (by omega) (by omega), ac_g (by omega) (by omega), ac_g (by omega) (by omega)]
    refine ok_some ⟨?_, ⟨o, o4, ?_, ?_, fun j hj => ?_⟩, ?_, fun i hi => ⟨?_, ?_, ?_⟩, fun i hi => ?_, fun a ha => ?_⟩
    · simp (disch := omega) only [cpy_ne, up_ne]
      rw [i1 _ (by omega)]; exact t1
    · simp (disch := omega) only [cpy_ne]
      rw [up_off (by decide)]; exact z3
    · simp (disch := omega) only [cpy_ne]
      rw [up_off (by decide)]; exact z2
    · have := Nat.mod_lt (o + j) (by decide : 40 > 0)
      simp (disch := omega) only [cpy_ne, up_ne]
      exact i2 j hj
    · simp (disch := omega) only [cpy_ne]
      rw [up_at]
    · simp (disch := omega) only [cpy_ne, up_ne]
      rw [cpy_ag hi, up_ne (by omega), i1 _ (by omega), t0 _ (by omega) (by omega)]
    · simp (disch := omega) only [cpy_ne, up_ne]
      rw [cpy_ag hi, cpy_ne (by omega), up_ne (by omega), i1 _ (by omega), t0 _ (by omega) (by omega)]
    · simp (disch := omega) only [cpy_ne, up_ne]
      rw [cpy_ag hi, cpy_ne (by omega), cpy_ne (by omega), up_ne (by omega), i1 _ (by omega), t0 _ (by omega) (by omega)]
    · rw [cpy_ag hi, cpy_ne (by omega), cpy_ne (by omega), cpy_ne (by omega), up_ne (by omega), i1 _ (by omega), t0 _ (by omega) (by omega)]
    · simp (disch := omega) only [cpy_ne, up_ne]
      rw [i1 _ (by omega), t0 _ (by omega) (by omega)]
  · intro k i T hi hI ih
    obtain ⟨i1, i2⟩ := hI
    have z3 : T c0 3 = nI n := by rw [i1 c0 (by omega)]; exact t3
    have z2 : T c0 2 = nI o := by rw [i1 c0 (by omega)]; exact t2
    have hm := Nat.mod_lt (o + i) (by decide : 40 > 0)
    obtain ⟨la, lb⟩ := lz _ hm
    show ok (KX4_copy_33 (LX4_copy_33 k) c0 c1 (nI i) T) _
    unfold KX4_copy_33
    rw [z3, if_neg (nI_ge hi (by omega)), z2, nI_add, show (40 : Int32) = nI 40 from rfl, rm_n (by omega) (by decide) (by decide), s11, s01, rr_g (by omega), rr_g (by omega), show c1 + 2 + 1 + (o + i) % 40 = c1 + 3 + (o + i) % 40 by omega, show c0 + 2 + 1 + (o + i) % 40 = c0 + 3 + (o + i) % 40 by omega, show (0 : Int32) = nI 0 from rfl, show (106 : Int32) = nI 106 from rfl, ac_g (by omega) (by omega), vl_s, nI_1]
    refine ih _ ⟨fun a ha => by rw [cpy_ne (by omega)]; exact i1 a ha, fun j hj => ?_⟩
    by_cases c : j = i
    · subst c
      intro q hq
      rw [cpy_ag hq, i1 _ (by omega), t0 _ (by omega) (by omega)]
      exact ej j hi q hq
    · have := Nat.mod_lt (o + j) (by decide : 40 > 0)
      rw [cpy_ne (by omega)]
      exact i2 j (by omega)
theorem M_copyTo {S : St} {a b : Nat} (hab : b ≠ a) (hl : ln a ≤ ln b) : fX10_copyTo a b S = some (cpy S b 0 a 0 (ln a)) := by
  have l5 := ln_lt a
  have l6 := ln_lt b
  have : ok (fX10_copyTo a b S) (fun T => T = cpy S b 0 a 0 (ln a)) := by
    unfold fX10_copyTo
    refine ok_for (fun k i T => LX10_copyTo_2 k a b (nI i) T) _ (fun i T => T = cpy S b 0 a 0 i) (ln a) ?_ ?_ FU 0 S (by omega) (by unfold FU; omega) cpy_0.symm
    · intro k T hI
      show ok (KX10_copyTo_2 (LX10_copyTo_2 k) a b (nI (ln a)) T) _
      unfold KX10_copyTo_2
      rw [if_pos (nI_le (Nat.le_refl _) (by omega))]
      exact ok_some hI
    · intro k i T hi hI ih
      subst hI
      show ok (KX10_copyTo_2 (LX10_copyTo_2 k) a b (nI i) (cpy S b 0 a 0 i)) _
      unfold KX10_copyTo_2
      rw [if_neg (nI_ge hi (by omega)), rd_g (by omega), wr_g hi, vl_s, nI_1, cpy_ne hab]
      apply ih
      have := cpy_up (S := S) (sp := 0) (dp := 0) (n := i) hab
      rw [Nat.zero_add] at this
      exact this
  obtain ⟨c, e, q⟩ := this
  rw [← q]; exact e
theorem A_image : Ag0 fX9_image fX10_image := by
  rintro S ⟨V, v, d, hR⟩
  have hV := hR.vk
  have hR0 := hR
  obtain ⟨hv, e3, e4, hVV, hS, hT, hf, hz, hI⟩ := hR0
  obtain ⟨a1, a2, ⟨n, h, n4, q1, q2, q3⟩, ⟨m, m8, q4, qm, qi⟩, q5⟩ := hS
  obtain ⟨K, eK, k1, k2, k3, k4, k5, k6⟩ := C_copy (c0 := 83) (c1 := 36) (Or.inl ⟨rfl, rfl⟩) n4 q1
  generalize hS1 : up K 0 8 1 = S1
  have s1 : ∀ a, a ≠ 0 → (a < 83 ∨ 129 < a) → S1 a = S a := fun a h1 h2 => by rw [← hS1, up_ne h1]; exact k6 a (by omega)
  have s0 : ∀ j, j ≠ 8 → S1 0 j = S 0 j := fun j hj => by rw [← hS1, up_off hj, k6 0 (by decide)]
  have s8 : S1 0 8 = 1 := by rw [← hS1, up_at]
  have sK : ∀ a, a ≠ 0 → S1 a = K a := fun a h1 => by rw [← hS1, up_ne h1]
  have ec : fX9_image S = some S1 := by
    unfold fX9_image
    rw [eK, bv_s, pz_1, hS1]
  generalize hT0 : up (up (up (up S1 142 3 0) 142 57 1) 142 58 (S 142 36)) 142 59 (S 142 37) = T0
  have t0 : ∀ a, a ≠ 142 → T0 a = S1 a := fun a ha => by rw [← hT0, up_ne ha, up_ne ha, up_ne ha, up_ne ha]
  have tj : ∀ j, j ≠ 3 → j ≠ 57 → j ≠ 58 → j ≠ 59 → T0 142 j = S 142 j := fun j b1 b2 b3 b4 => by rw [← hT0, up_off b4, up_off b3, up_off b2, up_off b1, s1 142 (by decide) (by decide)]
  have mT : mr T0 = mr S := by
    rw [← hT0, mr_up (by omega) (by omega), mr_up (by omega) (by omega), mr_up (by omega) (by omega), mr_up (by omega) (by omega)]
    exact mr_cell (fun a ha => s1 a (by omega) (by omega))
  generalize hM : cpy (cpy (cpy (cpy (cpy (row T0 180 (pkd T0 180 0)) 163 0 181 0 4240) 173 0 182 0 8) 174 0 183 0 8) 175 0 184 0 8) 156 0 185 0 3 = M
  have em : fX10_image S1 = some M := by
    unfold fX10_image
    rw [pf_s, pz_1, pf_s, pf_s, up_off (by decide), up_off (by decide), s1 142 (by decide) (by decide), up_off (by decide), up_off (by decide), up_off (by decide), s1 142 (by decide) (by decide), hT0, show (0 : Int32) = nI 0 from rfl, M_pack (a := 180) (f := 0) (by omega) (by decide), bv_s, M_copyTo (a := 181) (b := 163) (by decide) (by decide), bv_s, M_copyTo (a := 182) (b := 173) (by decide) (by decide), bv_s, M_copyTo (a := 183) (b := 174) (by decide) (by decide), bv_s, M_copyTo (a := 184) (b := 175) (by decide) (by decide), bv_s, M_copyTo (a := 185) (b := 156) (by decide) (by decide), bv_s, ln181, ln182, ln183, ln184, ln185, hM]
  have mc : ∀ a, (a < 180 ∨ 185 < a) → M a = T0 a := fun a ha => by rw [← hM, cpy_ne (by omega), cpy_ne (by omega), cpy_ne (by omega), cpy_ne (by omega), cpy_ne (by omega), row_ne (by omega)]
  have m1 : ∀ a, a ≠ 0 → a ≠ 142 → (a < 83 ∨ (129 < a ∧ a < 180)) → M a = S a := fun a b1 b2 b3 => by rw [mc a (by omega), t0 a b2, s1 a b1 (by omega)]
  have m0 : M 0 = S1 0 := by rw [mc 0 (by omega), t0 0 (by decide)]
  have mj : ∀ j, j ≠ 3 → j ≠ 57 → j ≠ 58 → j ≠ 59 → M 142 j = S 142 j := fun j b1 b2 b3 b4 => by rw [mc 142 (by omega)]; exact tj j b1 b2 b3 b4
  have mrM : mr M = mr S := by rw [mr_cell (S := T0) (fun a ha => mc a (by omega)), mT]
  refine ⟨S1, M, ec, em, ⟨V, v, d, hv, by rw [m0, s0 3 (by decide)]; exact e3, by rw [m0, s0 4 (by decide)]; exact e4, hVV.go (fun a h1 h2 h3 => m1 a (by omega) (by omega) (by omega)) (fun a ha => m1 a (by omega) (by omega) (by omega)), ?_, hT.go (by rw [m0, s0 1 (by decide)]) (mj 17 (by decide) (by decide) (by decide) (by decide)) (m1 157 (by decide) (by decide) (by decide)) (m1 1 (by decide) (by decide) (by decide)), by rw [m0, s0 2 (by decide), mj 26 (by decide) (by decide) (by decide) (by decide)]; exact hf, by rw [mj 41 (by decide) (by decide) (by decide) (by decide)]; exact hz, Or.inr ⟨by rw [m0]; exact s8, ?_, ?_⟩⟩⟩
  · rw [m1 163 (by decide) (by decide) (by decide), m1 173 (by decide) (by decide) (by decide), m1 174 (by decide) (by decide) (by decide), m1 175 (by decide) (by decide) (by decide), m1 156 (by decide) (by decide) (by decide), mj 36 (by decide) (by decide) (by decide) (by decide), mj 37 (by decide) (by decide) (by decide) (by decide), mrM]
    exact hR.st.go (fun a b1 b2 => m1 a (by omega) (by omega) (by omega)) rg.rf
  · rw [mc 142 (by omega), ← hT0, up_off (by decide), up_off (by decide), up_at]
  · have c83 : ∀ a, 83 ≤ a → a ≤ 129 → M a = K a := fun a b1 b2 => by rw [mc a (by omega), t0 a (by omega), sK a (by omega)]
    have e58 : M 142 58 = S 142 36 := by rw [mc 142 (by omega), ← hT0, up_off (by decide), up_at]
    have e59 : M 142 59 = S 142 37 := by rw [mc 142 (by omega), ← hT0, up_at]
    have m180 : ag (M 180) (mr S) := fun i hi => by
      rw [← hM, cpy_ne (by decide), cpy_ne (by decide), cpy_ne (by decide), cpy_ne (by decide), cpy_ne (by decide), row_at]
      unfold pkd
      rw [if_pos (by omega), mT]; rfl
    have m181 : ∀ i, i < 4240 → M 181 i = S 163 i := fun i hi => by
      rw [← hM, cpy_ne (by decide), cpy_ne (by decide), cpy_ne (by decide), cpy_ne (by decide), cpy_ag hi, row_ne (by decide), t0 163 (by decide), s1 163 (by decide) (by decide)]
    have m182 : ∀ i, i < 8 → M 182 i = S 173 i := fun i hi => by
      rw [← hM, cpy_ne (by decide), cpy_ne (by decide), cpy_ne (by decide), cpy_ag hi, cpy_ne (by decide), row_ne (by decide), t0 173 (by decide), s1 173 (by decide) (by decide)]
    have m183 : ∀ i, i < 8 → M 183 i = S 174 i := fun i hi => by
      rw [← hM, cpy_ne (by decide), cpy_ne (by decide), cpy_ag hi, cpy_ne (by decide), cpy_ne (by decide), row_ne (by decide), t0 174 (by decide), s1 174 (by decide) (by decide)]
    have m184 : ∀ i, i < 8 → M 184 i = S 175 i := fun i hi => by
      rw [← hM, cpy_ne (by decide), cpy_ag hi, cpy_ne (by decide), cpy_ne (by decide), cpy_ne (by decide), row_ne (by decide), t0 175 (by decide), s1 175 (by decide) (by decide)]
    have m185 : ∀ i, i < 3 → M 185 i = S 156 i := fun i hi => by
      rw [← hM, cpy_ag hi, cpy_ne (by decide), cpy_ne (by decide), cpy_ne (by decide), cpy_ne (by decide), row_ne (by decide), t0 156 (by decide), s1 156 (by decide) (by decide)]
    refine ⟨?_, ?_, ⟨n, h, n4, k2.go (by rw [c83 83 (by decide) (by decide)]) (by rw [c83 83 (by decide) (by decide)]) (fun a b1 b2 => c83 a (by omega) (by omega)), ⟨by rw [e58]; exact q2.1, fun j hj i hi => by have := rl_lt hV hi; rw [m181 _ (by omega)]; exact q2.2 j hj i hi⟩, q3⟩, ⟨m, m8, by rw [c83 83 (by decide) (by decide), k3]; exact q4, by rw [e59]; exact qm, fun i hi => ?_⟩, fun i hi => ?_⟩
    · rw [c83 84 (by decide) (by decide)]
      exact (k1.w hV).tr (a1.tr (m180.sm.w hV))
    · rw [c83 84 (by decide) (by decide)]
      exact ag_ROk hV k1.sm a2
    · obtain ⟨y1, y2, y3⟩ := k4 i (by omega)
      rw [c83 126 (by decide) (by decide), c83 127 (by decide) (by decide), c83 128 (by decide) (by decide), y1, y2, y3, m182 i (by omega), m183 i (by omega), m184 i (by omega)]
      exact qi i hi
    · rw [c83 129 (by decide) (by decide), k5 i hi, m185 i hi]
      exact q5 i hi
theorem A_restore : Ag1 fX9_restore fX10_restore := by
  rintro S ⟨V, v, d, hR⟩
  have hV := hR.vk
  have hR0 := hR
  obtain ⟨hv, e3, e4, hVV, hS, hT, hf, hz, hI⟩ := hR0
  rcases hI with ⟨i1, i2⟩ | ⟨i1, i2, a1, a2, ⟨n, h, n4, q1, q2, q3⟩, ⟨m, m8, q4, qm, qi⟩, q5⟩
  · refine ⟨0, S, up S 142 3 0, ?_, ?_, ⟨V, v, d, hR.m mK0⟩⟩
    · unfold fX9_restore; rw [i1]; rfl
    · unfold fX10_restore; rw [pf_s, up_off (by decide), i2]; rfl
  · obtain ⟨K, eK, k1, k2, k3, k4, k5, k6⟩ := C_copy (c0 := 36) (c1 := 83) (Or.inr ⟨rfl, rfl⟩) n4 q1
    have ec : fX9_restore S = some (1, K) := by
      unfold fX9_restore
      rw [i1, if_neg (by decide), eK]; rfl
    have kk : ∀ a, (a < 36 ∨ 82 < a) → K a = S a := fun a ha => k6 a (by omega)
    generalize hT0 : up (up (up K 142 3 0) 142 36 (S 142 58)) 142 37 (S 142 59) = T0
    have t0 : ∀ a, a ≠ 142 → T0 a = K a := fun a ha => by rw [← hT0, up_ne ha, up_ne ha, up_ne ha]
    have tj : ∀ j, j ≠ 3 → j ≠ 36 → j ≠ 37 → T0 142 j = S 142 j := fun j b1 b2 b3 => by rw [← hT0, up_off b3, up_off b2, up_off b1, kk 142 (by decide)]
    obtain ⟨U, eU, u1, u2, u3⟩ := M_unpack (S := T0) (a := 180) (f := 0) (by omega) (by decide)
    generalize hM : cpy (cpy (cpy (cpy (cpy U 181 0 163 0 4240) 182 0 173 0 8) 183 0 174 0 8) 184 0 175 0 8) 185 0 156 0 3 = M
    have em : fX10_restore K = some (1, M) := by
      unfold fX10_restore
      rw [pf_s, up_off (by decide), kk 142 (by decide), i2, if_neg (by decide), pf_s, up_off (by decide), kk 142 (by decide), pf_s, up_off (by decide), up_off (by decide), kk 142 (by decide), hT0, show (0 : Int32) = nI 0 from rfl, eU, bv_s, M_copyTo (a := 163) (b := 181) (by decide) (by decide), bv_s, M_copyTo (a := 173) (b := 182) (by decide) (by decide), bv_s, M_copyTo (a := 174) (b := 183) (by decide) (by decide), bv_s, M_copyTo (a := 175) (b := 184) (by decide) (by decide), bv_s, M_copyTo (a := 156) (b := 185) (by decide) (by decide), bv_s, ln163, ln173, ln174, ln175, ln156, hM]
      rfl
    have mc : ∀ a, a ≠ 156 → a ≠ 163 → a ≠ 173 → a ≠ 174 → a ≠ 175 → M a = U a := fun a b1 b2 b3 b4 b5 => by rw [← hM, cpy_ne b1, cpy_ne b5, cpy_ne b4, cpy_ne b3, cpy_ne b2]
    have uc : ∀ a, a ≠ 142 → (a < 158 ∨ 162 < a) → U a = K a := fun a b1 b2 => by rw [u2 a b1 b2, t0 a b1]
    have m1 : ∀ a, (a < 36 ∨ (82 < a ∧ a < 142) ∨ (142 < a ∧ a < 156) ∨ a = 157 ∨ a = 164 ∨ (179 < a ∧ a < 186)) → M a = S a := fun a ha => by rw [mc a (by omega) (by omega) (by omega) (by omega) (by omega), uc a (by omega) (by omega), kk a (by omega)]
    have mK : ∀ a, a < 142 → M a = K a := fun a ha => by rw [mc a (by omega) (by omega) (by omega) (by omega) (by omega), uc a (by omega) (by omega)]
    have mj : ∀ j, j ≠ 3 → j ≠ 34 → j ≠ 35 → j ≠ 36 → j ≠ 37 → M 142 j = S 142 j := fun j b1 b2 b3 b4 b5 => by rw [mc 142 (by decide) (by decide) (by decide) (by decide) (by decide), u3 j b2 b3, tj j b1 b4 b5]
    have mrM : ag (mr M) (S 180) := fun i hi => by
      rw [mr_cell (S := U) (fun a ha => mc a (by omega) (by omega) (by omega) (by omega) (by omega)), u1 i hi, t0 180 (by decide), kk 180 (by decide), Nat.zero_add]
    have e36 : M 142 36 = S 142 58 := by rw [mc 142 (by decide) (by decide) (by decide) (by decide) (by decide), u3 36 (by decide) (by decide), ← hT0, up_off (by decide), up_at]
    have e37 : M 142 37 = S 142 59 := by rw [mc 142 (by decide) (by decide) (by decide) (by decide) (by decide), u3 37 (by decide) (by decide), ← hT0, up_at]
    have m163 : ∀ i, i < 4240 → M 163 i = S 181 i := fun i hi => by
      rw [← hM, cpy_ne (by decide), cpy_ne (by decide), cpy_ne (by decide), cpy_ne (by decide), cpy_ag hi, uc 181 (by decide) (by decide), kk 181 (by decide)]
    have m173 : ∀ i, i < 8 → M 173 i = S 182 i := fun i hi => by
      rw [← hM, cpy_ne (by decide), cpy_ne (by decide), cpy_ne (by decide), cpy_ag hi, cpy_ne (by decide), uc 182 (by decide) (by decide), kk 182 (by decide)]
    have m174 : ∀ i, i < 8 → M 174 i = S 183 i := fun i hi => by
      rw [← hM, cpy_ne (by decide), cpy_ne (by decide), cpy_ag hi, cpy_ne (by decide), cpy_ne (by decide), uc 183 (by decide) (by decide), kk 183 (by decide)]
    have m175 : ∀ i, i < 8 → M 175 i = S 184 i := fun i hi => by
      rw [← hM, cpy_ne (by decide), cpy_ag hi, cpy_ne (by decide), cpy_ne (by decide), cpy_ne (by decide), uc 184 (by decide) (by decide), kk 184 (by decide)]
    have m156 : ∀ i, i < 3 → M 156 i = S 185 i := fun i hi => by
      rw [← hM, cpy_ag hi, cpy_ne (by decide), cpy_ne (by decide), cpy_ne (by decide), cpy_ne (by decide), uc 185 (by decide) (by decide), kk 185 (by decide)]
    refine ⟨1, K, M, ec, em, ⟨V, v, d, hv, by rw [m1 0 (by decide)]; exact e3, by rw [m1 0 (by decide)]; exact e4, hVV.go (fun a h1 h2 h3 => m1 a (by omega)) (fun a ha => m1 a (by omega)), ?_, hT.go (by rw [m1 0 (by decide)]) (mj 17 (by decide) (by decide) (by decide) (by decide) (by decide)) (m1 157 (by decide)) (m1 1 (by decide)), by rw [m1 0 (by decide), mj 26 (by decide) (by decide) (by decide) (by decide) (by decide)]; exact hf, by rw [mj 41 (by decide) (by decide) (by decide) (by decide) (by decide)]; exact hz, hR.2.2.2.2.2.2.2.2.go (by rw [m1 0 (by decide)]) (fun a b1 b2 => m1 a (by omega)) (fun a b1 b2 => m1 a (by omega)) (fun j hj => mj j (by omega) (by omega) (by omega) (by omega) (by omega))⟩⟩
    refine ⟨?_, ?_, ⟨n, h, n4, k2.go (by rw [mK 36 (by decide)]) (by rw [mK 36 (by decide)]) (fun a b1 b2 => mK a (by omega)), ⟨by rw [e36]; exact q2.1, fun j hj i hi => by have := rl_lt hV hi; rw [m163 _ (by omega)]; exact q2.2 j hj i hi⟩, q3⟩, ⟨m, m8, by rw [mK 36 (by decide), k3]; exact q4, by rw [e37]; exact qm, fun i hi => ?_⟩, fun i hi => ?_⟩
    · rw [mK 37 (by decide)]
      exact (k1.w hV).tr (a1.tr (mrM.sm.w hV))
    · rw [mK 37 (by decide)]
      exact ag_ROk hV k1.sm a2
    · obtain ⟨y1, y2, y3⟩ := k4 i (by omega)
      rw [mK 79 (by decide), mK 80 (by decide), mK 81 (by decide), y1, y2, y3, m173 i (by omega), m174 i (by omega), m175 i (by omega)]
      exact qi i hi
    · rw [mK 82 (by decide), k5 i hi, m156 i hi]
      exact q5 i hi
