/-! feeding the tape -/
def byt (w : Int32) (j : Nat) : Int32 := w >>> ((24 - 8 * nI j) &&& 31)
theorem byte_ok (y : Int32) : ∃ b, b < 256 ∧ y &&& 255 = nI b ∧ y.toInt8.toInt32 = (nI b).toInt8.toInt32 := by
  refine ⟨y.toBitVec.toNat % 256, Nat.mod_lt _ (by decide), pk_and y 8 rfl, ?_⟩
  congr 1
  apply Int8.toBitVec_inj.mp
  apply BitVec.eq_of_toNat_eq
  rw [Int32.toBitVec_toInt8, Int32.toBitVec_toInt8, BitVec.signExtend_eq_setWidth_of_le _ (by decide), BitVec.signExtend_eq_setWidth_of_le _ (by decide), BitVec.toNat_setWidth, BitVec.toNat_setWidth, pk_tn (by omega)]
  omega
theorem C_put {S : St} {k : Nat} {w : Int32} (hk : k + 4 ≤ 700) (e : S 0 1 = nI k) : ok (fX9_putBytes w S) (fun S' => S' 0 1 = nI (k + 4) ∧ (∀ j, j ≠ 1 → S' 0 j = S 0 j) ∧ (∀ j, j < 4 → S' 1 (k + j) = (byt w j).toInt8.toInt32) ∧ (∀ i, i < k → S' 1 i = S 1 i) ∧ ∀ a, a ≠ 0 → a ≠ 1 → S' a = S a) := by
  have sh : ∀ j, j < 4 → (24 : Int32) - 8 * nI j = nI (24 - 8 * j) := by decide
  have e24 : fX9_putBytes w S = LX9_putBytes_3 FU w (24 - 8 * nI 0) S := by unfold fX9_putBytes; rw [show (24 : Int32) - 8 * nI 0 = 24 from rfl]
  rw [e24]
  refine ok_for (fun n i T => LX9_putBytes_3 n w (24 - 8 * nI i) T) _ (fun i T => T 0 1 = nI (k + i) ∧ (∀ j, j ≠ 1 → T 0 j = S 0 j) ∧ (∀ j, j < i → T 1 (k + j) = (byt w j).toInt8.toInt32) ∧ (∀ i, i < k → T 1 i = S 1 i) ∧ ∀ a, a ≠ 0 → a ≠ 1 → T a = S a) 4 ?_ ?_ FU 0 S (by omega) (by decide) ⟨e, fun _ _ => rfl, fun j hj => absurd hj (by omega), fun _ _ => rfl, fun _ _ _ => rfl⟩
  · intro n T hI
    show ok (KX9_putBytes_3 (LX9_putBytes_3 n) w (24 - 8 * nI 4) T) _
    unfold KX9_putBytes_3
    rw [if_pos (by decide)]
    exact ok_some hI
  · intro n i T hi hI ih
    obtain ⟨i1, i2, i3, i4, i5⟩ := hI
    show ok (KX9_putBytes_3 (LX9_putBytes_3 n) w (24 - 8 * nI i) T) _
    unfold KX9_putBytes_3 BX9_putBytes_40
    have nx : (24 : Int32) - 8 * nI i + (-8) = 24 - 8 * nI (i + 1) := by
      have : ∀ i, i < 4 → (24 : Int32) - 8 * nI i + (-8) = 24 - 8 * nI (i + 1) := by decide
      exact this i hi
    have ng : ¬ ((24 : Int32) - 8 * nI i < 0) := by rw [sh i hi]; exact nI_pos (by omega)
    rw [if_neg ng, i1, show (700 : Int32) = nI 700 from rfl, if_neg (nI_ge (by omega) (by decide)), wb1 (by omega), pf_s, up_ne (by decide), i1, nI_1, vl_s, nx]
    refine ih _ ⟨by rw [up_at, Nat.add_assoc], fun j hj => by rw [up_off hj, up_ne (by decide)]; exact i2 j hj, fun j hj => ?_, fun q hq => by rw [up_ne (by decide), up_off (by omega)]; exact i4 q hq, fun a h1 h2 => by rw [up_ne h1, up_ne h2]; exact i5 a h1 h2⟩
    rw [up_ne (by decide), up_2]
    split
    · rename_i z
      have : j = i := by omega
      subst this
      unfold byt
      simp
    · exact i3 j (by omega)
/-- the word that a byte is of -/
def wof (a b c d e : Int32) (i : Nat) : Int32 := if i < 4 then a else if i < 8 then b else if i < 12 then c else if i < 16 then d else e
theorem M_feed {S : St} {k : Nat} {a b c d e : Int32} (hk : k + 20 ≤ 700) (e0 : S 142 17 = nI k) : ok (fX10_feed a b c d e S) (fun q => q.1 = nI (k + 20) ∧ q.2 142 17 = nI (k + 20) ∧ (∀ j, j ≠ 17 → j ≠ 3 → q.2 142 j = S 142 j) ∧ (∀ i, i < 20 → q.2 157 (k + i) = byt (wof a b c d e i) (i % 4) &&& 255) ∧ (∀ i, i < k → q.2 157 i = S 157 i) ∧ ∀ a, a ≠ 142 → a ≠ 157 → q.2 a = S a) := by
  unfold fX10_feed
  rw [pf_s, up_off (by decide), e0, show nI k + 20 = nI (k + 20) from nI_add k 20, show (700 : Int32) = nI 700 from rfl, if_pos (nI_le hk (by decide))]
  refine ok_for (fun n i T => LX10_feed_23 n a b c d e (nI i) T) _ (fun i T => T 142 17 = nI (k + i) ∧ (∀ j, j ≠ 17 → j ≠ 3 → T 142 j = S 142 j) ∧ (∀ j, j < i → T 157 (k + j) = byt (wof a b c d e j) (j % 4) &&& 255) ∧ (∀ i, i < k → T 157 i = S 157 i) ∧ ∀ a, a ≠ 142 → a ≠ 157 → T a = S a) 20 ?_ ?_ FU 0 _ (by omega) (by decide) ⟨by rw [up_off (by decide)]; exact e0, fun j h1 h2 => by rw [up_off h2], fun j hj => absurd hj (by omega), fun i hi => by rw [up_ne (by decide)], fun a h1 h2 => up_ne h1⟩
  · intro n T hI
    simp (disch := omega) only [LX10_feed_23, KX10_feed_23, nI_leE, nI_ltE, nI_eqE, nI_m1, c0a, c0b, c0c, c0d, c0e, c1a, c1b, c1c, c1d, c1e, c2a, c2b, c2c, c2d, c2e, c3a, c3b, c3c, c3d, c3e, c4a, c4b, c4c, c4d, c4e, c5a, c5b, c5c, c5d, c5e, c6a, c6b, c6c, c6d, c6e, c7a, c7b, c7c, c7d, c7e, c8a, c8b, c8c, c8d, c8e, c9a, c9b, c9c, c9d, c9e, c10a, c10b, c10c, c10d, c10e, c12a, c12b, c12c, c12d, c12e, c14a, c14b, c14c, c14d, c14e, c16a, c16b, c16c, c16d, c16e, c20a, c20b, c20c, c20d, c20e, c30a, c30b, c30c, c30d, c30e, c32a, c32b, c32c, c32d, c32e, c36a, c36b, c36c, c36d, c36e, c40a, c40b, c40c, c40d, c40e, c41a, c41b, c41c, c41d, c41e, c42a, c42b, c42c, c42d, c42e, c43a, c43b, c43c, c43d, c43e, c45a, c45b, c45c, c45d, c45e, c47a, c47b, c47c, c47d, c47e, c48a, c48b, c48c, c48d, c48e, c57a, c57b, c57c, c57d, c57e, c59a, c59b, c59c, c59d, c59e, c60a, c60b, c60c, c60d, c60e, c61a, c61b, c61c, c61d, c61e, c62a, c62b, c62c, c62d, c62e, c64a, c64b, c64c, c64d, c64e, c96a, c96b, c96c, c96d, c96e, c97a, c97b, c97c, c97d, c97e, c98a, c98b, c98c, c98d, c98e, c99a, c99b, c99c, c99d, c99e, c100a, c100b, c100c, c100d, c100e, c122a, c122b, c122c, c122d, c122e, c700a, c700b, c700c, c700d, c700e, c4240a, c4240b, c4240c, c4240d, c4240e, c9999a, c9999b, c9999c, c9999d, c9999e, c100000a, c100000b, c100000c, c100000d, c100000e, c1000000a, c1000000b, c1000000c, c1000000d, c1000000e, if_T, ri_s]
    exact ok_some ⟨hI.1, hI⟩
  · intro n i T hi hI ih
    obtain ⟨i1, i2, i3, i4, i5⟩ := hI
    have hm := Nat.mod_lt i (by decide : 4 > 0)
    have one : ∀ s0, s0 = wof a b c d e i → ok (BX10_feed_76 (LX10_feed_23 n) a b c d e (nI i) s0 T) (fun q => q.1 = nI (k + 20) ∧ q.2 142 17 = nI (k + 20) ∧ (∀ j, j ≠ 17 → j ≠ 3 → q.2 142 j = S 142 j) ∧ (∀ i, i < 20 → q.2 157 (k + i) = byt (wof a b c d e i) (i % 4) &&& 255) ∧ (∀ i, i < k → q.2 157 i = S 157 i) ∧ ∀ a, a ≠ 142 → a ≠ 157 → q.2 a = S a) := by
      intro s0 hs0
      unfold BX10_feed_76
      rw [show (4 : Int32) = nI 4 from rfl, rm_n (by omega) (by decide) (by decide), i1, wr157 (by omega), pf_s, up_ne (by decide), i1, nI_1, vl_s, nI_1]
      refine ih _ ⟨by rw [up_at, Nat.add_assoc], fun j h1 h2 => by rw [up_off h1, up_ne (by decide)]; exact i2 j h1 h2, fun j hj => ?_, fun q hq => by rw [up_ne (by decide), up_off (by omega)]; exact i4 q hq, fun a h1 h2 => by rw [up_ne h1, up_ne h2]; exact i5 a h1 h2⟩
      rw [up_ne (by decide), up_2]
      split
      · rename_i z
        have : j = i := by omega
        subst this
        rw [hs0]; rfl
      · exact i3 j (by omega)
    simp (disch := omega) only [LX10_feed_23, KX10_feed_23, nI_leE, nI_ltE, nI_eqE, nI_m1, c0a, c0b, c0c, c0d, c0e, c1a, c1b, c1c, c1d, c1e, c2a, c2b, c2c, c2d, c2e, c3a, c3b, c3c, c3d, c3e, c4a, c4b, c4c, c4d, c4e, c5a, c5b, c5c, c5d, c5e, c6a, c6b, c6c, c6d, c6e, c7a, c7b, c7c, c7d, c7e, c8a, c8b, c8c, c8d, c8e, c9a, c9b, c9c, c9d, c9e, c10a, c10b, c10c, c10d, c10e, c12a, c12b, c12c, c12d, c12e, c14a, c14b, c14c, c14d, c14e, c16a, c16b, c16c, c16d, c16e, c20a, c20b, c20c, c20d, c20e, c30a, c30b, c30c, c30d, c30e, c32a, c32b, c32c, c32d, c32e, c36a, c36b, c36c, c36d, c36e, c40a, c40b, c40c, c40d, c40e, c41a, c41b, c41c, c41d, c41e, c42a, c42b, c42c, c42d, c42e, c43a, c43b, c43c, c43d, c43e, c45a, c45b, c45c, c45d, c45e, c47a, c47b, c47c, c47d, c47e, c48a, c48b, c48c, c48d, c48e, c57a, c57b, c57c, c57d, c57e, c59a, c59b, c59c, c59d, c59e, c60a, c60b, c60c, c60d, c60e, c61a, c61b, c61c, c61d, c61e, c62a, c62b, c62c, c62d, c62e, c64a, c64b, c64c, c64d, c64e, c96a, c96b, c96c, c96d, c96e, c97a, c97b, c97c, c97d, c97e, c98a, c98b, c98c, c98d, c98e, c99a, c99b, c99c, c99d, c99e, c100a, c100b, c100c, c100d, c100e, c122a, c122b, c122c, c122d, c122e, c700a, c700b, c700c, c700d, c700e, c4240a, c4240b, c4240c, c4240d, c4240e, c9999a, c9999b, c9999c, c9999d, c9999e, c100000a, c100000b, c100000c, c100000d, c100000e, c1000000a, c1000000b, c1000000c, c1000000d, c1000000e, if_F]
    unfold wof at one
    by_cases c4 : 4 ≤ i
    · rw [if_pos c4]
      by_cases c8 : 8 ≤ i
      · rw [if_pos c8]
        by_cases c12 : 12 ≤ i
        · rw [if_pos c12]
          by_cases c16 : 16 ≤ i
          · rw [if_pos c16]; exact one e (by rw [if_neg (by omega), if_neg (by omega), if_neg (by omega), if_neg (by omega)])
          · rw [if_neg c16]; exact one d (by rw [if_neg (by omega), if_neg (by omega), if_neg (by omega), if_pos (by omega)])
        · rw [if_neg c12]; exact one c (by rw [if_neg (by omega), if_neg (by omega), if_pos (by omega)])
      · rw [if_neg c8]; exact one b (by rw [if_neg (by omega), if_pos (by omega)])
    · rw [if_neg c4]; exact one a (by rw [if_pos (by omega)])
theorem A_feed (a b c d e : Int32) : Ag1 (fX9_feed a b c d e) (fX10_feed a b c d e) := by
  rintro S ⟨V, v, dd, hR⟩
  have hR0 := hR
  obtain ⟨hv, e3, e4, hVV, hS, ⟨k, k7, t1, t2, t3⟩, hf, hz, hI⟩ := hR0
  have cmp : ((S 0 1) + 20 ≤ 700) = (k + 20 ≤ 700) := by rw [t1, show nI k + 20 = nI (k + 20) from nI_add k 20, show (700 : Int32) = nI 700 from rfl, nI_leE (by omega) (by decide)]
  by_cases hk : k + 20 ≤ 700
  · obtain ⟨S1, e1, p1, p2, p3, p4, p5⟩ := C_put (w := a) (k := k) (by omega) t1
    obtain ⟨S2, e2, q1, q2, q3, q4, q5⟩ := C_put (w := b) (k := k + 4) (by omega) p1
    obtain ⟨S3, e3', r1, r2, r3, r4, r5⟩ := C_put (w := c) (k := k + 4 + 4) (by omega) q1
    obtain ⟨S4, e4', u1, u2, u3, u4, u5⟩ := C_put (w := d) (k := k + 4 + 4 + 4) (by omega) r1
    obtain ⟨S5, e5', w1, w2, w3, w4, w5⟩ := C_put (w := e) (k := k + 4 + 4 + 4 + 4) (by omega) u1
    have s5 : ∀ x, x ≠ 0 → x ≠ 1 → S5 x = S x := fun x h1 h2 => by rw [w5 x h1 h2, u5 x h1 h2, r5 x h1 h2, q5 x h1 h2, p5 x h1 h2]
    have s0 : ∀ j, j ≠ 1 → S5 0 j = S 0 j := fun j hj => by rw [w2 j hj, u2 j hj, r2 j hj, q2 j hj, p2 j hj]
    have sb : ∀ i, i < 20 → S5 1 (k + i) = (byt (wof a b c d e i) (i % 4)).toInt8.toInt32 := by
      intro i hi
      unfold wof
      by_cases c4 : i < 4
      · rw [if_pos c4, w4 _ (by omega), u4 _ (by omega), r4 _ (by omega), q4 _ (by omega), p3 i c4, Nat.mod_eq_of_lt c4]
      · by_cases c8 : i < 8
        · rw [if_neg c4, if_pos c8, w4 _ (by omega), u4 _ (by omega), r4 _ (by omega), show k + i = k + 4 + (i - 4) by omega, q3 (i - 4) (by omega), show i % 4 = i - 4 by omega]
        · by_cases c12 : i < 12
          · rw [if_neg c4, if_neg c8, if_pos c12, w4 _ (by omega), u4 _ (by omega), show k + i = k + 4 + 4 + (i - 8) by omega, r3 (i - 8) (by omega), show i % 4 = i - 8 by omega]
          · by_cases c16 : i < 16
            · rw [if_neg c4, if_neg c8, if_neg c12, if_pos c16, w4 _ (by omega), show k + i = k + 4 + 4 + 4 + (i - 12) by omega, u3 (i - 12) (by omega), show i % 4 = i - 12 by omega]
            · rw [if_neg c4, if_neg c8, if_neg c12, if_neg c16, show k + i = k + 4 + 4 + 4 + 4 + (i - 16) by omega, w3 (i - 16) (by omega), show i % 4 = i - 16 by omega]
    have so : ∀ i, i < k → S5 1 i = S 1 i := fun i hi => by rw [w4 i (by omega), u4 i (by omega), r4 i (by omega), q4 i (by omega), p4 i hi]
    obtain ⟨⟨r, M⟩, eM, m1, m2, m3, m4, m5, m6⟩ := M_feed (S := S5) (k := k) (a := a) (b := b) (c := c) (d := d) (e := e) hk (by rw [s5 142 (by decide) (by decide)]; exact t2)
    have m1' : r = nI (k + 20) := m1
    have m2' : M 142 17 = nI (k + 20) := m2
    have m3' : ∀ j, j ≠ 17 → j ≠ 3 → M 142 j = S5 142 j := m3
    have m4' : ∀ i, i < 20 → M 157 (k + i) = byt (wof a b c d e i) (i % 4) &&& 255 := m4
    have m5' : ∀ i, i < k → M 157 i = S5 157 i := m5
    have m6' : ∀ a, a ≠ 142 → a ≠ 157 → M a = S5 a := m6
    have ma : ∀ x, x ≠ 0 → x ≠ 1 → x ≠ 142 → x ≠ 157 → M x = S x := fun x h1 h2 h3 h4 => by rw [m6' x h3 h4, s5 x h1 h2]
    have mj : ∀ j, j ≠ 17 → j ≠ 3 → M 142 j = S 142 j := fun j h1 h2 => by rw [m3' j h1 h2, s5 142 (by decide) (by decide)]
    have m0 : ∀ j, j ≠ 1 → M 0 j = S 0 j := fun j hj => by rw [m6' 0 (by decide) (by decide)]; exact s0 j hj
    have mrM : mr M = mr S := by
      funext i; unfold mr
      rw [mj 34 (by decide) (by decide), mj 35 (by decide) (by decide), ma 158 (by decide) (by decide) (by decide) (by decide), ma 159 (by decide) (by decide) (by decide) (by decide), ma 160 (by decide) (by decide) (by decide) (by decide), ma 161 (by decide) (by decide) (by decide) (by decide), ma 162 (by decide) (by decide) (by decide) (by decide)]
    refine ⟨nI (k + 20), S5, M, ?_, ?_, ⟨V, v, dd, hv, by rw [m0 3 (by decide)]; exact e3, by rw [m0 4 (by decide)]; exact e4, hVV.go (fun x h1 h2 h3 => ma x (by omega) (by omega) (by omega) (by omega)) (fun x hx => ma x (by omega) (by omega) (by omega) (by omega)), ?_, ⟨k + 20, hk, ?_, m2', fun i hi => ?_⟩, by rw [m0 2 (by decide), mj 26 (by decide) (by decide)]; exact hf, by rw [mj 41 (by decide) (by decide)]; exact hz, hI.go (m0 8 (by decide)) (fun x h1 h2 => ma x (by omega) (by omega) (by omega) (by omega)) (fun x h1 h2 => ma x (by omega) (by omega) (by omega) (by omega)) (fun j hj => mj j (by omega) (by omega))⟩⟩
    · unfold fX9_feed
      rw [if_pos (by rw [cmp]; exact hk), e1, bv_s, e2, bv_s, e3', bv_s, e4', bv_s, e5', bv_s, w1]
      rfl
    · rw [eM, m1']
    · rw [mj 36 (by decide) (by decide), mj 37 (by decide) (by decide), ma 163 (by decide) (by decide) (by decide) (by decide), ma 173 (by decide) (by decide) (by decide) (by decide), ma 174 (by decide) (by decide) (by decide) (by decide), ma 175 (by decide) (by decide) (by decide) (by decide), ma 156 (by decide) (by decide) (by decide) (by decide), mrM]
      exact hS.go (fun x h1 h2 => ma x (by omega) (by omega) (by omega) (by omega)) rg.rf
    · rw [m6' 0 (by decide) (by decide), w1]
    · rw [m6' 1 (by decide) (by decide)]
      by_cases cc : i < k
      · rw [m5' i cc, s5 157 (by decide) (by decide), so i cc]; exact t3 i cc
      · obtain ⟨j, rfl⟩ : ∃ j, i = k + j := ⟨i - k, by omega⟩
        obtain ⟨bb, b1, b2, b3⟩ := byte_ok (byt (wof a b c d e j) (j % 4))
        exact ⟨bb, b1, by rw [m4' j (by omega), b2], by rw [sb j (by omega), b3]⟩
  · refine ⟨-1, S, up S 142 3 0, ?_, ?_, ⟨V, v, dd, hR.m mK0⟩⟩
    · unfold fX9_feed
      rw [if_neg (by rw [cmp]; exact hk)]; rfl
    · unfold fX10_feed
      rw [pf_s, up_off (by decide), t2, show nI k + 20 = nI (k + 20) from nI_add k 20, show (700 : Int32) = nI 700 from rfl, if_neg (nI_ge (by omega) (by omega))]
      rfl
