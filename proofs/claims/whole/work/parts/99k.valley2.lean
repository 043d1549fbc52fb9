/-! valley -/
theorem C_clear {d : Nat} {S : St} (hd : d = 2 ∨ d = 17) : ok (fX8_clear d S) (fun S' => (∀ a, a ≠ d → a ≠ d + 4 → a ≠ d + 5 → a ≠ d + 9 → a ≠ d + 11 → a ≠ d + 13 → S' a = S a) ∧ (S' d 0 = 0 ∧ S' d 1 = 0 ∧ S' d 2 = 0) ∧ (∀ i, i < 8 → S' (d + 4) i = 0 ∧ S' (d + 9) i = -1) ∧ (∀ i, i < 64 → S' (d + 5) i = 1000000) ∧ (S' (d + 11) 0 = 0 ∧ S' (d + 11) 3 = 0) ∧ S' (d + 13) 0 = 0 ∧ S' (d + 13) 3 = 0) := by
  unfold fX8_clear fX3_begin
  rw [pf_s, pf_s, pf_s, srv6 hd, srv7 hd, srv11 hd, srv12 hd, srv13 hd]
  generalize hS1 : up (up (up S d 0 0) d 1 0) d 2 0 = S1
  have c1 : ∀ a, a ≠ d → S1 a = S a := fun a q => by rw [← hS1, up_ne q, up_ne q, up_ne q]
  have v1 : S1 d 0 = 0 ∧ S1 d 1 = 0 ∧ S1 d 2 = 0 := ⟨by rw [← hS1, up_off (by decide), up_off (by decide), up_at], by rw [← hS1, up_off (by decide), up_at], by rw [← hS1, up_at]⟩
  have l4 : ln (d + 4) = 8 ∧ ln (d + 5) = 64 ∧ ln (d + 9) = 8 := by rcases hd with rfl | rfl <;> exact ⟨rfl, rfl, rfl⟩
  obtain ⟨S2, e2, f2, g2⟩ := C_fill (a := d + 4) (x := 0) (S := S1)
  obtain ⟨S3, e3, f3, g3⟩ := C_fill (a := d + 5) (x := 1000000) (S := S2)
  obtain ⟨S4, e4, f4, g4⟩ := C_fill (a := d + 9) (x := -1) (S := S3)
  rw [e2, bv_s, e3, bv_s, e4, bv_s, pz_0, pf_s, pf_s, bv_s, pz_0, pf_s, pf_s, bv_s]
  refine ok_some ⟨fun a q1 q2 q3 q4 q5 q6 => ?_, ?_, fun i hi => ⟨?_, ?_⟩, fun i hi => ?_, ⟨?_, ?_⟩, ?_, ?_⟩
  · rw [up_ne q6, up_ne q6, up_ne q6, up_ne q5, up_ne q5, up_ne q5, g4 a q4, g3 a q3, g2 a q2, c1 a q1]
  · rw [up_ne (by omega), up_ne (by omega), up_ne (by omega), up_ne (by omega), up_ne (by omega), up_ne (by omega), g4 d (by omega), g3 d (by omega), g2 d (by omega)]; exact v1
  · rw [up_ne (by omega), up_ne (by omega), up_ne (by omega), up_ne (by omega), up_ne (by omega), up_ne (by omega), g4 _ (by omega), g3 _ (by omega)]; exact f2 i (by rw [l4.1]; exact hi)
  · rw [up_ne (by omega), up_ne (by omega), up_ne (by omega), up_ne (by omega), up_ne (by omega), up_ne (by omega)]; exact f4 i (by rw [l4.2.2]; exact hi)
  · rw [up_ne (by omega), up_ne (by omega), up_ne (by omega), up_ne (by omega), up_ne (by omega), up_ne (by omega), g4 _ (by omega)]; exact f3 i (by rw [l4.2.1]; exact hi)
  · rw [up_ne (by omega), up_ne (by omega), up_ne (by omega), up_off (by decide), up_off (by decide), up_at]
  · rw [up_ne (by omega), up_ne (by omega), up_ne (by omega), up_at]
  · rw [up_off (by decide), up_off (by decide), up_at]
  · rw [up_at]
theorem C_start {d : Nat} {S : St} (hd : d = 2 ∨ d = 17) : ok (fX4_startAnew 36 d S) (fun S' => (∀ a, a ≠ 36 → a ≠ 37 → S' a = S a) ∧ (S' 36 2 = 0 ∧ S' 36 3 = 0 ∧ S' 36 4 = 0) ∧ ∀ i, i < 106 → S' 37 i = if 2 ≤ i ∧ i < 8 then S (d + 8) (i - 2) else if 62 ≤ i ∧ i < 98 then S (d + 7) (i - 62) else if 98 ≤ i then S (d + 9) (i - 98) else 0) := by
  have l4 : ln (d + 8) = 6 ∧ ln (d + 7) = 36 ∧ ln (d + 9) = 8 := by rcases hd with rfl | rfl <;> exact ⟨rfl, rfl, rfl⟩
  unfold fX4_startAnew
  obtain ⟨S1, e1, f1, g1⟩ := C_fill (a := 37) (x := 0) (S := S)
  have e1' : fJ7_fill_53178 (sr 36 0) 0 S = some S1 := e1
  rw [e1', bv_s, srv10 hd, srv9 hd, srv11 hd, show sr 36 0 = 37 from rfl, show (0 : Int32) = nI 0 from rfl, show (2 : Int32) = nI 2 from rfl, show (6 : Int32) = nI 6 from rfl, ac_g (by rw [l4.1]; decide) (by decide), show (62 : Int32) = nI 62 from rfl, show (36 : Int32) = nI 36 from rfl, ac_g (by rw [l4.2.1]; decide) (by decide), show (98 : Int32) = nI 98 from rfl, show (8 : Int32) = nI 8 from rfl, ac_g (by rw [l4.2.2]; decide) (by decide), pf_s, pf_s, pf_s]
  refine ok_some ⟨fun a q1 q2 => ?_, ⟨?_, ?_, up_at⟩, fun i hi => ?_⟩
  · rw [up_ne q1, up_ne q1, up_ne q1, cpy_ne q2, cpy_ne q2, cpy_ne q2, g1 a q2]
  · rw [up_off (by decide), up_off (by decide), up_at]
  · rw [up_off (by decide), up_at]
  · rw [up_ne (by decide), up_ne (by decide), up_ne (by decide), cpy_row]
    by_cases c98 : 98 ≤ i
    · rw [pk_cpy_in c98 (by omega), cpy_ne (by omega), cpy_ne (by omega), g1 _ (by omega), if_neg (by omega), if_neg (by omega), if_pos c98, Nat.zero_add]
    · rw [pk_cpy_out (by omega), cpy_row]
      by_cases c62 : 62 ≤ i ∧ i < 98
      · rw [pk_cpy_in c62.1 (by omega), cpy_ne (by omega), g1 _ (by omega), if_neg (by omega), if_pos c62, Nat.zero_add]
      · rw [pk_cpy_out (by omega), cpy_row]
        by_cases c2 : 2 ≤ i ∧ i < 8
        · rw [pk_cpy_in c2.1 (by omega), g1 _ (by omega), if_pos c2, Nat.zero_add]
        · rw [pk_cpy_out (by omega), if_neg c2, if_neg c62, if_neg c98]
          exact f1 i hi
theorem M_init {T : St} {Q : Int32 × St → Prop} (hk : ∀ T1, (∀ a, a ≠ 145 → a ≠ 149 → T1 a = T a) → (∀ j, j < 5 → T1 145 j = T 145 j ∧ T1 145 (5 + j) = 0) → (∀ j, j < 64 → T1 149 j = T 149 j ∧ T1 149 (64 + j) = 0) → ok (bv (fX10_stepOn T1) fun S => LX10_valley_100 FU 0 S) Q) : ok (LX10_valley_50 FU 0 T) Q := by
  refine ok_for (fun n i S => LX10_valley_50 n (nI i) S) Q (fun i S => (∀ a, a ≠ 145 → S a = T a) ∧ (∀ j, j < 5 → S 145 j = T 145 j) ∧ ∀ j, j < i → S 145 (5 + j) = 0) 5 ?_ ?_ FU 0 T (by omega) (by decide) ⟨fun _ _ => rfl, fun _ _ => rfl, fun j hj => absurd hj (by omega)⟩
  · intro n S hS
    show ok (KX10_valley_50 (LX10_valley_50 n) (nI 5) S) Q
    unfold KX10_valley_50
    rw [if_pos (by decide)]
    refine ok_for (fun n i S => LX10_valley_72 n (nI i) S) Q (fun i U => (∀ a, a ≠ 149 → U a = S a) ∧ (∀ j, j < 64 → U 149 j = S 149 j) ∧ ∀ j, j < i → U 149 (64 + j) = 0) 64 ?_ ?_ FU 0 S (by omega) (by decide) ⟨fun _ _ => rfl, fun _ _ => rfl, fun j hj => absurd hj (by omega)⟩
    · intro m U hU
      show ok (KX10_valley_72 (LX10_valley_72 m) (nI 64) U) Q
      unfold KX10_valley_72
      rw [if_pos (by decide)]
      exact hk U (fun a q1 q2 => by rw [hU.1 a q2, hS.1 a q1]) (fun j hj => by rw [hU.1 145 (by decide)]; exact ⟨hS.2.1 j hj, hS.2.2 j hj⟩) (fun j hj => ⟨by rw [hU.2.1 j hj, hS.1 149 (by decide)], hU.2.2 j hj⟩)
    · intro m i U hi hU ih
      show ok (KX10_valley_72 (LX10_valley_72 m) (nI i) U) Q
      unfold KX10_valley_72
      rw [if_neg (show ¬ (64 : Int32) ≤ _ from nI_ge (b := 64) hi (by decide)), la64, wr149 (by omega), vl_s, nI_1]
      refine ih _ ⟨fun a ha => by rw [up_ne ha]; exact hU.1 a ha, fun j hj => by rw [up_off (by omega)]; exact hU.2.1 j hj, fun j hj => ?_⟩
      by_cases c : j = i
      · rw [c, up_at]
      · rw [up_off (by omega)]; exact hU.2.2 j (by omega)
  · intro n i S hi hS ih
    show ok (KX10_valley_50 (LX10_valley_50 n) (nI i) S) Q
    unfold KX10_valley_50
    rw [if_neg (show ¬ (5 : Int32) ≤ _ from nI_ge (b := 5) hi (by decide)), la5, wr145 (by omega), vl_s, nI_1]
    refine ih _ ⟨fun a ha => by rw [up_ne ha]; exact hS.1 a ha, fun j hj => by rw [up_off (by omega)]; exact hS.2.1 j hj, fun j hj => ?_⟩
    by_cases c : j = i
    · rw [c, up_at]
    · rw [up_off (by omega)]; exact hS.2.2 j (by omega)
theorem J_valley {V : Vy} {v d n : Nat} {S T : St} (hR : Rl V v d S) (hn : ∃ k, S 0 1 = nI k ∧ k ≤ 700 ∧ n ≤ k) (hT : ∀ a, 141 < a → a < 186 → T a = S a) : ∃ r S1 T2, fX9_valley (nI n) S = some (.inl r, S1) ∧ fX10_valley (nI n) T = some (r, T2) ∧ T2 142 3 = 0 ∧ (∀ a, a < 142 → T2 a = T a) ∧ (∀ a, 141 < a → S1 a = S a) ∧ ∀ U, (∀ a, a < 142 → U a = S1 a) → (∀ a, 141 < a → U a = T2 a) → Rel U := by
  have hR0 := hR
  obtain ⟨hv, e3, e4, hVV, hS, ⟨k, k7, t1, t2, t3⟩, hf, hz, hI⟩ := hR0
  obtain ⟨k'', ek2, k72, hnk⟩ := hn
  have kk : k'' = k := by
    have := ek2.symm.trans t1
    exact (nI_eq (by omega) (by omega)).mp this
  have hnk : n ≤ k := by omega
  have hd : d = 2 ∨ d = 17 := by omega
  generalize hB : (fun i => (S 157 i).toNatClampNeg) = B
  have bB : ∀ i, i < n → B i < 256 ∧ S 157 i = nI (B i) ∧ S 1 i = sb (B i) := by
    intro i hi
    obtain ⟨b, b1, b2, b3⟩ := t3 i (by omega)
    have : B i = b := by rw [← hB]; show (S 157 i).toNatClampNeg = b; rw [b2, nI_clamp (by omega)]
    rw [this]; exact ⟨b1, b2, b3⟩
  -- the class's start
  obtain ⟨C1, ec1, z1, z2, z3, z4, z5, z6⟩ := C_clear (S := up S 32 2 (nI d)) hd
  generalize hC2 : up (up (up (up C1 32 3 0) 32 4 (-1)) 33 1 (nI n)) 33 2 0 = C2
  have c2c : ∀ a, a ≠ 32 → a ≠ 33 → C2 a = C1 a := fun a q1 q2 => by rw [← hC2, up_ne q2, up_ne q2, up_ne q1, up_ne q1]
  have c1c : ∀ a, (a < d ∨ d + 14 < a) → a ≠ 32 → C1 a = S a := fun a q1 q2 => by rw [z1 a (by omega) (by omega) (by omega) (by omega) (by omega) (by omega), up_ne q2]
  have hTC : TC B n C2 := ⟨by omega, fun i hi => by
    obtain ⟨b1, b2, b3⟩ := bB i hi
    exact ⟨b1, by rw [c2c 1 (by decide) (by decide), c1c 1 (by omega) (by decide)]; exact b3⟩⟩
  obtain ⟨C3, ec3, ct3, f3⟩ := C_adv (p := 0) hTC (by rw [← hC2, up_off (by decide), up_at]) (by rw [← hC2, up_at]; rfl) (by omega)
  have c32 : C3 32 2 = nI d ∧ C3 32 3 = 0 ∧ C3 32 4 = -1 := by
    rw [f3 32 (by decide), ← hC2, up_ne (by decide), up_ne (by decide)]
    refine ⟨?_, ?_, up_at⟩
    · rw [up_off (by decide), up_off (by decide), z1 32 (by omega) (by omega) (by omega) (by omega) (by omega) (by omega), up_at]
    · rw [up_off (by decide), up_at]
  have etell : ∀ x, fX6_tell (nI n) d S = x ↔ LX6_tell_32 FU 0 C3 = x := by
    intro x
    unfold fX6_tell fX7_begin
    rw [pf_s, gm_v up_at hd, ec1, bv_s, pf_s, pf_s, if_neg (show ¬ (700 : Int32) < nI n from nI_nlt (a := 700) (by omega) (by decide)), vl_s, pf_s, pf_s, hC2, ec3, bv_s, bv_s]
  -- the reference's start
  generalize hT1 : up (up (up (up (up (up T 142 3 0) 142 17 0) 142 19 (nI n)) 142 18 0) 142 24 0) 142 26 (-1) = T1
  have t1c : ∀ a, a ≠ 142 → T1 a = T a := fun a q => by rw [← hT1, up_ne q, up_ne q, up_ne q, up_ne q, up_ne q, up_ne q]
  have t1j : ∀ j, j ≠ 3 → j ≠ 17 → j ≠ 19 → j ≠ 18 → j ≠ 24 → j ≠ 26 → T1 142 j = T 142 j := fun j q1 q2 q3 q4 q5 q6 => by rw [← hT1, up_off q6, up_off q5, up_off q4, up_off q3, up_off q2, up_off q1]
  have ev : fX10_valley (nI n) T = LX10_valley_50 FU 0 T1 := by
    unfold fX10_valley
    rw [pf_s, if_neg (nI_pos (by omega)), up_off (by decide), hT 142 (by decide) (by decide), t2, if_pos (nI_le hnk (by omega)), pf_s, pf_s, pf_s, pf_s, pf_s, hT1]
  have key : ok (LX10_valley_50 FU 0 T1) (fun r => ∃ S1, fX9_valley (nI n) S = some (.inl r.1, S1) ∧ r.2 142 3 = 0 ∧ (∀ a, a < 142 → r.2 a = T a) ∧ (∀ a, 141 < a → S1 a = S a) ∧ ∀ U, (∀ a, a < 142 → U a = S1 a) → (∀ a, 141 < a → U a = r.2 a) → Rel U) := by
    refine M_init (fun T2 g1 g2 g3 => ?_)
    have t2c : ∀ a, a ≠ 142 → a ≠ 145 → a ≠ 149 → T2 a = T a := fun a q1 q2 q3 => by rw [g1 a q2 q3, t1c a q1]
    have hTM : TM B n T2 := ⟨by omega, fun i hi => by
      obtain ⟨b1, b2, b3⟩ := bB i hi
      exact ⟨b1, by rw [t2c 157 (by decide) (by decide) (by decide), hT 157 (by decide) (by decide)]; exact b2⟩⟩
    have t2142 : T2 142 = T1 142 := g1 142 (by decide) (by decide)
    obtain ⟨T3, e3', m3, s3⟩ := M_step (p := 0) hTM (by omega) (by rw [t2142, ← hT1, up_off (by decide), up_at]) (by rw [t2142, ← hT1, up_off (by decide), up_off (by decide), up_off (by decide), up_at]) (by rw [t2142, ← hT1, up_off (by decide), up_off (by decide), up_at]; rfl)
    rw [e3', bv_s]
    have hD0 : RD d C3 T3 0 0 0 none none 0 0 := by
      have fc : ∀ a, a ≠ 32 → a ≠ 33 → C3 a = C1 a := fun a q1 q2 => by rw [f3 a q2, c2c a q1 q2]
      refine ⟨⟨by decide, by decide, by decide⟩, ?_, ?_, fun f hf => absurd hf (by omega), ⟨fun _ _ => 0, fun a b => ⟨Nat.zero_le _, rfl, fun z => absurd rfl z⟩, fun a ha => ⟨?_, fun b hb => ⟨?_, ?_⟩⟩⟩, fun s hs => absurd hs (by omega), ⟨fun f hf => absurd hf (by omega), fun f _ h8 => ?_⟩, ?_, ?_⟩
      · rw [fc d (by omega) (by omega)]; exact z2
      · rw [s3.1 145 (by decide)]; exact ⟨(g2 0 (by decide)).2, (g2 1 (by decide)).2, (g2 2 (by decide)).2⟩
      · rw [fc _ (by omega) (by omega), (z3 a ha).1]
        have : hbits (fun k => decide ((0 : Nat) ≠ 0)) 8 = 0 := by decide
        rw [this]; rfl
      · rw [fc _ (by omega) (by omega), z4 _ (by omega)]; rfl
      · rw [s3.1 149 (by decide), show 64 + 8 * a + b = 64 + (8 * a + b) by omega, (g3 (8 * a + b) (by omega)).2]; rfl
      · rw [fc _ (by omega) (by omega)]; exact (z3 f h8).2
      · refine ⟨by rw [fc _ (by omega) (by omega)]; exact z5.2, by rw [fc _ (by omega) (by omega)]; exact z5.1, rfl, ?_⟩
        rw [s3.1 145 (by decide)]; exact (g2 3 (by decide)).2
      · refine ⟨by rw [fc _ (by omega) (by omega)]; exact z6.2, by rw [fc _ (by omega) (by omega)]; exact z6.1, rfl, ?_⟩
        rw [s3.1 145 (by decide)]; exact (g2 4 (by decide)).2
    have hLC : LC B n d C3 T3 0 0 0 0 none none 0 0 := ⟨⟨⟨ct3, m3, by omega⟩, hTC.go (f3 1 (by decide)), hTM.go (s3.1 157 (by decide)), c32.1, c32.2.1, hd, c32.2.2⟩, hD0, by omega, by omega⟩
    obtain ⟨S4, T4, l1, l2, cd4, md4, out⟩ := J_lines (S0 := C3) (T0 := T3) FU 0 C3 T3 0 0 0 0 none none 0 0 (by unfold FU; omega) (by omega) hLC cD.rf mD.rf
    have l2' : LX10_valley_100 FU 0 T3 = BX10_valley_123 T4 := l2
    have l1' : LX6_tell_32 FU 0 C3 = BX6_tell_217 S4 := l1
    rw [l2']
    -- what stays
    have cS4 : ∀ a, (a < d ∨ d + 14 < a) → (a < 32 ∨ 35 < a) → S4 a = S a := fun a q1 q2 => by rw [cd4 a q1 q2, f3 a (by omega), c2c a (by omega) (by omega), c1c a q1 (by omega)]
    have mT4 : ∀ a, (a < 142 ∨ 155 < a) → T4 a = T a := fun a q => by rw [md4.1 a q, s3.1 a (by omega), t2c a (by omega) (by omega) (by omega)]
    have j4 : ∀ j, (j < 18 ∨ j = 19 ∨ 25 < j) → j ≠ 2 → j ≠ 27 → T4 142 j = T1 142 j := fun j q1 q2 q3 => by rw [md4.2.2.1 j q1 q2 q3, s3.2 j (by omega) (by omega) (by omega) (by omega) (by omega), t2142]
    have g04 : S4 0 4 = nI d := by rw [cS4 0 (by omega) (by omega)]; exact e4
    have v9 : ∀ (x5 : Int32) (S5 : St), BX6_tell_217 S4 = some (x5, S5) → fX9_valley (nI n) S = (pf S5 0 1 0 fun S => pf S 0 2 (S 32 4) fun S => (if x5 = 0 then gm S 0 3 8 fun q8 => gm S 0 4 8 fun q9 => pf S 0 3 (nI q9) fun S => pf S 0 4 (nI q8) fun S => gm S 0 3 8 fun q11 => bv (fX4_startAnew 36 q11 S) fun S => pz S 0 8 0 fun S => tri 0 S else bv (fX4_refuse 36 0 S) fun S => tri x5 S)) := by
      intro x5 S5 h5
      unfold fX9_valley
      rw [if_neg (nI_pos (by omega)), t1, if_pos (nI_le hnk (by omega)), gm_v e4 hd, (etell (some (x5, S5))).mpr (by rw [l1', h5]), bd_s]
    rcases out with ⟨c, q, je⟩ | ⟨p', F, P, N, sX, fX, e1, e2, lc, tk0⟩
    · -- refused
      have c0 : ¬ nI c = 0 := nI_ne0 je.2.2.2.2.2.1 (by have := je.2.2.2.2.2.2.1; omega)
      have h217 : BX6_tell_217 S4 = some (nI c, S4) := by
        unfold BX6_tell_217
        rw [if_neg je.cb, je.2.1]; rfl
      unfold BX10_valley_123
      rw [if_neg je.mb, pf_s, rd156_0, up_ne (by decide), wr156_0, up_ne (by decide), up_off (by decide), je.2.2.2.1]
      refine ok_ri ⟨up (up (up S4 0 1 0) 0 2 (nI (tS B n q))) 82 0 (S 82 0 + 1), ?_, ?_, ?_, ?_, ?_⟩
      · rw [v9 _ _ h217, pf_s, pf_s, up_ne (by decide), je.2.2.1, if_neg c0]
        have s82 : up (up S4 0 1 0) 0 2 (nI (tS B n q)) 82 0 = S 82 0 := by rw [up_ne (by decide), up_ne (by decide), cS4 82 (by omega) (by omega)]
        rw [show fX4_refuse 36 0 _ = _ from C_refuse (k := 0) (by decide), bv_s, s82]; rfl
      · show up (up T4 142 26 (T4 142 25)) 156 0 (T4 156 0 + 1) 142 3 = 0
        rw [up_ne (by decide), up_off (by decide), j4 3 (by decide) (by decide) (by decide), ← hT1, up_off (by decide), up_off (by decide), up_off (by decide), up_off (by decide), up_off (by decide), up_at]
      · intro a ha
        show up (up T4 142 26 (T4 142 25)) 156 0 (T4 156 0 + 1) a = T a
        rw [up_ne (by omega), up_ne (by omega)]; exact mT4 a (by omega)
      · intro a ha
        rw [up_ne (by omega), up_ne (by omega), up_ne (by omega)]; exact cS4 a (by omega) (by omega)
      · intro U u1 u2
        have u2' : ∀ a, 141 < a → U a = up (up T4 142 26 (T4 142 25)) 156 0 (T4 156 0 + 1) a := u2
        have hmU : ∀ a, 156 < a → a < 186 → U a = S a := fun a q1 q2 => by rw [u2' a (by omega), up_ne (by omega), up_ne (by omega), mT4 a (by omega), hT a (by omega) q2]
        have h142U : ∀ j, (j < 18 ∨ j = 19 ∨ 25 < j) → j ≠ 26 → j ≠ 2 → j ≠ 27 → U 142 j = T1 142 j := fun j q1 q2 q3 q4 => by rw [u2' 142 (by decide), up_ne (by decide), up_off q2]; exact j4 j q1 q3 q4
        refine ⟨V, v, d, V_bad (x := nI (tS B n q)) hR (fun a q1 q2 q3 q4 q5 => ?_) (fun j q1 q2 => ?_) ?_ ?_ ?_ ?_ (fun a ha => hmU a ha.1 ha.2) ?_ ?_ (fun j hj => ?_) ⟨fun j hj => ?_, fun j hj => ⟨?_, ?_⟩, fun j hj => ?_, fun j hj => ?_, fun j hj => ?_, fun j hj => ⟨?_, ?_⟩⟩⟩
        · rw [u1 a (by omega), up_ne q5, up_ne (by omega), up_ne (by omega)]; exact cS4 a q3 q4
        · rw [u1 0 (by decide), up_ne (by decide), up_off q2, up_off q1, cS4 0 (by omega) (by omega)]
        · rw [u1 0 (by decide), up_ne (by decide), up_off (by decide), up_at]
        · rw [u1 0 (by decide), up_ne (by decide), up_at]
        · rw [u1 82 (by decide), up_row, up_ne (by decide), up_ne (by decide), cS4 82 (by omega) (by omega)]
        · rw [u2' 156 (by decide), up_row, up_ne (by decide), mT4 156 (by decide), hT 156 (by decide) (by decide)]
        · rw [h142U 17 (by decide) (by decide) (by decide) (by decide), ← hT1, up_off (by decide), up_off (by decide), up_off (by decide), up_off (by decide), up_at]
        · rw [u2' 142 (by decide), up_ne (by decide), up_at]; exact je.2.2.2.2.1
        · rw [h142U j (by omega) (by omega) (by omega) (by omega), t1j j (by omega) (by omega) (by omega) (by omega) (by omega) (by omega), hT 142 (by decide) (by decide)]
        · rw [u2' 145 (by decide), up_ne (by decide), up_ne (by decide), md4.2.2.2.1 j hj, s3.1 145 (by decide), (g2 j hj).1, t1c 145 (by decide), hT 145 (by decide) (by decide)]
        · rw [u2' 146 (by decide), up_ne (by decide), up_ne (by decide), (md4.2.2.2.2.1 j hj).1, s3.1 146 (by decide), t2c 146 (by decide) (by decide) (by decide), hT 146 (by decide) (by decide)]
        · rw [u2' 147 (by decide), up_ne (by decide), up_ne (by decide), (md4.2.2.2.2.1 j hj).2.1, s3.1 147 (by decide), t2c 147 (by decide) (by decide) (by decide), hT 147 (by decide) (by decide)]
        · rw [u2' 148 (by decide), up_ne (by decide), up_ne (by decide), md4.2.2.2.2.2.1 j hj, s3.1 148 (by decide), t2c 148 (by decide) (by decide) (by decide), hT 148 (by decide) (by decide)]
        · rw [u2' 149 (by decide), up_ne (by decide), up_ne (by decide), md4.2.2.2.2.2.2.1 j hj, s3.1 149 (by decide), (g3 j hj).1, t1c 149 (by decide), hT 149 (by decide) (by decide)]
        · rw [u2' 151 (by decide), up_ne (by decide), up_ne (by decide), (md4.2.2.2.2.2.2.2.2.1 j hj).1, s3.1 151 (by decide), t2c 151 (by decide) (by decide) (by decide), hT 151 (by decide) (by decide)]
        · rw [u2' 154 (by decide), up_ne (by decide), up_ne (by decide), (md4.2.2.2.2.2.2.2.2.2 j hj).1, s3.1 154 (by decide), t2c 154 (by decide) (by decide) (by decide), hT 154 (by decide) (by decide)]
        · rw [u2' 155 (by decide), up_ne (by decide), up_ne (by decide), (md4.2.2.2.2.2.2.2.2.2 j hj).2, s3.1 155 (by decide), t2c 155 (by decide) (by decide) (by decide), hT 155 (by decide) (by decide)]
    · -- taken
      obtain ⟨⟨hF, hP, hN⟩, ⟨s0, s1, s2⟩, ⟨t5, t6, t7⟩, dF, ⟨w, w1, w2⟩, dS, dO, dR1, dR2⟩ := id lc.2.1
      have hw : ∀ a b, w a b ≤ 20 := fun a b => (w1 a b).1
      have sn := tS_le (B := B) lc.1.1.2.2
      obtain ⟨S5, e5, m5, f5⟩ := C_meas (d := d) (w := w) hd hF hw s0 (fun a b ha hb => ((w2 a (by omega)).2 b (by omega)).1)
      have h217 : BX6_tell_217 S4 = some (0, S5) := by
        unfold BX6_tell_217
        rw [lc.ok3, if_pos rfl, gm_v lc.d32 hd, e5, bv_s, f5 32 (by omega), lc.ok3]; rfl
      have s532 : S5 32 4 = -1 := by rw [f5 32 (by omega)]; exact lc.1.2.2.2.2.2.2
      generalize hS6 : up (up (up (up S5 0 1 0) 0 2 (-1)) 0 3 (nI d)) 0 4 (nI v) = S6
      have s6c : ∀ a, a ≠ 0 → S6 a = S5 a := fun a q => by rw [← hS6, up_ne q, up_ne q, up_ne q, up_ne q]
      obtain ⟨S7, e7, p1, p2, p3⟩ := C_start (S := S6) hd
      obtain ⟨T5, e6, A, hv1, ov⟩ := M_over (T := T4) (F := F) (N := N) (w := w) hF hN hw t5 t7 (fun a b ha hb => ((w2 a ha).2 b hb).2)
      unfold BX10_valley_123
      rw [lc.ok24, if_pos rfl, e6, bv_s]
      have hvd : v = 2 ∨ v = 17 := by omega
      refine ok_ri ⟨up S7 0 8 0, ?_, ?_, ?_, ?_, ?_⟩
      · rw [v9 _ _ h217, pf_s, pf_s, up_ne (by decide), s532, if_pos rfl]
        have g3' : up (up S5 0 1 0) 0 2 (-1) 0 3 = nI v := by rw [up_off (by decide), up_off (by decide), f5 0 (by omega), cS4 0 (by omega) (by omega)]; exact e3
        have g4' : up (up S5 0 1 0) 0 2 (-1) 0 4 = nI d := by rw [up_off (by decide), up_off (by decide), f5 0 (by omega)]; exact g04
        rw [gm_v g3' hvd, gm_v g4' hd, pf_s, pf_s, hS6]
        have g5' : S6 0 3 = nI d := by rw [← hS6, up_off (by decide), up_at]
        rw [gm_v g5' hd, e7, bv_s, pz_0]; rfl
      · show T5 142 3 = 0
        rw [ov.2.1 3 (by decide) (by decide) (by decide) (by decide) (by decide), up_off (by decide), up_off (by decide), hv1.1 142 (by decide), j4 3 (by decide) (by decide) (by decide), ← hT1, up_off (by decide), up_off (by decide), up_off (by decide), up_off (by decide), up_off (by decide), up_at]
      · intro a ha
        show T5 a = T a
        rw [ov.1 a (by omega) (by omega) (by omega), up_ne (by omega), up_ne (by omega), hv1.1 a (by omega), mT4 a (by omega)]
      · intro a ha
        rw [up_ne (by omega), p1 a (by omega) (by omega), s6c a (by omega), f5 a (by omega)]; exact cS4 a (by omega) (by omega)
      · intro U u1 u2
        have u2' : ∀ a, 141 < a → U a = T5 a := u2
        have uc : ∀ a, d ≤ a → a ≤ d + 14 → U a = S5 a := fun a q1 q2 => by rw [u1 a (by omega), up_ne (by omega), p1 a (by omega) (by omega), s6c a (by omega)]
        have uA : ∀ a, 142 < a → a < 158 → U a = A a := fun a q1 q2 => by rw [u2' a (by omega), ov.1 a (by omega) (by omega) (by omega), up_ne (by omega), up_ne (by omega)]
        have upp : ∀ a, a ≠ 142 → up (up A 142 34 0) 142 35 0 a = A a := fun a q => by rw [up_ne q, up_ne q]
        have u142 : ∀ j, j ≠ 34 → j ≠ 35 → j ≠ 36 → j ≠ 37 → j ≠ 57 → U 142 j = T4 142 j := fun j q1 q2 q3 q4 q5 => by rw [u2' 142 (by decide), ov.2.1 j q1 q2 q3 q4 q5, up_off q2, up_off q1, hv1.1 142 (by decide)]
        refine V_good (d := d) (v := v) (S := S4) (T := T4) (w := w) (by omega) lc.2.1 (by have := lc.2.2.1; have := lc.1.2.1.1; omega) (by have := lc.2.2.2; have := lc.1.2.1.1; omega) w1 (fun a ha => ⟨(w2 a ha).1, fun b hb => ((w2 a ha).2 b hb).2⟩) (fun a q1 q2 q3 => by rw [uc a q1 (by omega), f5 a q3]) (fun a b ha hb => by rw [uc _ (by omega) (by omega)]; exact m5 a b ha hb) ?_ ?_ (fun i hi => ?_) (fun i hi => ?_) (fun j hj => by rw [uA 145 (by decide) (by decide)]; exact hv1.2.1 j hj) (fun j hj => by rw [uA 146 (by decide) (by decide), uA 147 (by decide) (by decide)]; exact ⟨(hv1.2.2.1 j hj).1, (hv1.2.2.1 j hj).2.1⟩) (fun j hj => by rw [uA 148 (by decide) (by decide)]; exact hv1.2.2.2.1 j hj) (fun j hj => by rw [uA 149 (by decide) (by decide)]; exact hv1.2.2.2.2.1 j hj) (fun j hj => by rw [uA 151 (by decide) (by decide)]; exact (hv1.2.2.2.2.2.2.1 j hj).1) (fun j hj => by rw [uA 154 (by decide) (by decide), uA 155 (by decide) (by decide)]; exact hv1.2.2.2.2.2.2.2 j hj) (fun s hs => ?_) (fun j hj => by rw [u2' 160 (by decide)]; exact ov.2.2.2.2.1 j hj) (fun j hj => ?_) (fun f hf => ?_) (fun a b ha hb => by rw [u2' 164 (by decide)]; exact ov.2.2.2.2.2.2.2 a b ha hb) ?_
        · have u0 : ∀ j, j ≠ 8 → U 0 j = S6 0 j := fun j q => by rw [u1 0 (by decide), up_off q, p1 0 (by decide) (by decide)]
          refine ⟨?_, ?_, ?_, ?_, ?_⟩
          · rw [u0 1 (by decide), ← hS6, up_off (by decide), up_off (by decide), up_off (by decide), up_at]
          · rw [u0 2 (by decide), ← hS6, up_off (by decide), up_off (by decide), up_at]
          · rw [u0 3 (by decide), ← hS6, up_off (by decide), up_at]
          · rw [u0 4 (by decide), ← hS6, up_at]
          · rw [u1 0 (by decide), up_at]
        · rw [u1 36 (by decide), up_ne (by decide)]; exact p2
        · rw [u1 37 (by decide), up_ne (by decide), p3 i hi, s6c _ (by omega), s6c _ (by omega), s6c _ (by omega), f5 _ (by omega), f5 _ (by omega), f5 _ (by omega)]
        · rw [u1 82 (by decide), up_ne (by decide), p1 82 (by decide) (by decide), s6c 82 (by decide), f5 82 (by omega), cS4 82 (by omega) (by omega), u2' 156 (by decide), ov.1 156 (by decide) (by decide) (by decide), upp 156 (by decide), hv1.1 156 (by decide), mT4 156 (by decide), hT 156 (by decide) (by decide)]
          exact hS.2.2.2.2 i hi
        · rw [u2' 158 (by decide), u2' 159 (by decide), (ov.2.2.2.1 s hs).1, (ov.2.2.2.1 s hs).2, upp 152 (by decide), (hv1.2.2.2.2.2.2.1 s hs).2]
          exact ⟨rfl, rfl⟩
        · rw [u2' 161 (by decide), ov.2.2.2.2.2.1 j hj, upp 150 (by decide)]; exact hv1.2.2.2.2.2.1 j hj
        · rw [u2' 162 (by decide), ov.2.2.2.2.2.2.1 f hf, upp 153 (by decide), (hv1.2.2.1 f hf).2.2]
        · obtain ⟨o1, o2, o3, o4, o5⟩ := ov.2.2.1
          refine ⟨?_, ?_, by rw [u2' 142 (by decide)]; exact o1, by rw [u2' 142 (by decide)]; exact o2, by rw [u2' 142 (by decide)]; exact o3, by rw [u2' 142 (by decide)]; exact o4, ?_, by rw [u2' 142 (by decide)]; exact o5⟩
          · rw [u142 17 (by decide) (by decide) (by decide) (by decide) (by decide), j4 17 (by decide) (by decide) (by decide), ← hT1, up_off (by decide), up_off (by decide), up_off (by decide), up_off (by decide), up_at]
          · rw [u142 26 (by decide) (by decide) (by decide) (by decide) (by decide), j4 26 (by decide) (by decide) (by decide), ← hT1, up_at]
          · rw [u142 41 (by decide) (by decide) (by decide) (by decide) (by decide), j4 41 (by decide) (by decide) (by decide), t1j 41 (by decide) (by decide) (by decide) (by decide) (by decide) (by decide), hT 142 (by decide) (by decide)]; exact hz
  obtain ⟨⟨r, T2⟩, e, S1, q1, q2, q3, q4, q5⟩ := key
  exact ⟨r, S1, T2, q1, by rw [ev]; exact e, q2, q3, q4, q5⟩
theorem A_valley (a1 : Int32) : Agr 1 (fX9_valley a1) (fX10_valley a1) := by
  intro S ⟨V, v, d, hR⟩
  obtain ⟨k, k7, t1, t2, t3⟩ := hR.2.2.2.2.2.1
  rcases arg2 a1 (lo := 0) (hi := k) (by omega) (by omega) with ⟨n, -, hn, rfl⟩ | h1
  · obtain ⟨r, S1, T2, e1, -, -, -, q4, -⟩ := J_valley hR ⟨k, t1, k7, hn⟩ (T := S) (fun _ _ _ => rfl)
    refine ⟨.inl r, S1, e1, fun x => ?_⟩
    obtain ⟨r', S1', T2', e1', e2', z1, z2, -, z4⟩ := J_valley hR ⟨k, t1, k7, hn⟩ (T := up S1 186 0 x) (fun a q1 q2 => by rw [up_ne (by omega)]; exact q4 a q1)
    rw [e1] at e1'
    have e : r = r' ∧ S1 = S1' := by
      injection e1' with e
      injection e with e3 e4
      injection e3 with e5
      exact ⟨e5, e4⟩
    obtain ⟨rfl, rfl⟩ := e
    exact ⟨r, T2', e2', z4 T2' (fun a ha => by rw [z2 a ha, up_ne (by omega)]) (fun _ _ => rfl), z1, rfl⟩
  · have ec : fX9_valley a1 S = some (.inr 2, S) := by
      unfold fX9_valley
      rw [t1]
      by_cases c : a1 < 0
      · rw [if_pos c]; rfl
      · rw [if_neg c, if_neg (ltle h1 (by omega) (by omega) c)]; rfl
    refine ⟨.inr 2, S, ec, fun x => ?_⟩
    have k1 : cK S (up S 186 0 x) := fun a h1 h2 h3 h4 h5 => up_ne (by omega)
    have em : fX10_valley a1 (up S 186 0 x) = some (0, up (up (up S 186 0 x) 142 3 0) 142 3 1) := by
      unfold fX10_valley BX10_valley_17
      rw [pf_s, up_off (by decide), up_ne (by decide), t2]
      by_cases c : a1 < 0
      · rw [if_pos c, m_fail]
      · rw [if_neg c, if_neg (ltle h1 (by omega) (by omega) c), m_fail]
    exact ⟨0, _, em, ⟨V, v, d, (hR.c k1).m mKx⟩, Or.inr ⟨rfl, by rw [up_at]⟩⟩
