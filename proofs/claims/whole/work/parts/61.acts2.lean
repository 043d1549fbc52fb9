def AgrAt (n2 : Int32) (fc : St → Option TR) (fm : St → Option (Int32 × St)) (S : St) : Prop := ∃ w S1, fc S = some (w, S1) ∧ ∀ x, ∃ b S2, fm (up S1 186 0 x) = some (b, S2) ∧ Rel S2 ∧ (match w with
  | .inl r => S2 142 3 = 0 ∧ b = r
  | .inr n => (n = 1 ∧ S2 142 3 = 1) ∨ (n = 2 ∧ S2 142 3 = n2))
theorem thrown_at {n2 : Int32} {fc : St → Option TR} {fm : St → Option (Int32 × St)} {S : St} {V : Vy} {v d : Nat} (hR : Rl V v d S) (n : Nat) (e1 : fc S = some (.inr n, S)) (k : Int32) (hk : (n = 1 ∧ k = 1) ∨ (n = 2 ∧ k = n2)) (e2 : ∀ T, cK S T → fm T = some (0, up (up T 142 3 0) 142 3 k)) : AgrAt n2 fc fm S := by
  refine ⟨.inr n, S, e1, fun x => ?_⟩
  have k1 : cK S (up S 186 0 x) := fun a h1 h2 h3 h4 h5 => up_ne (by omega)
  refine ⟨_, _, e2 _ k1, ⟨V, v, d, (hR.c k1).m mKx⟩, ?_⟩
  rcases hk with ⟨h1, h2⟩ | ⟨h1, h2⟩
  · exact Or.inl ⟨h1, by rw [up_at]; exact h2⟩
  · exact Or.inr ⟨h1, by rw [up_at]; exact h2⟩
theorem refused_at {n2 : Int32} {fc : St → Option TR} {fm : St → Option (Int32 × St)} {S : St} {V : Vy} {v d : Nat} (hR : Rl V v d S) (k : Nat) (hk : k < 3) (r : Int32) (e1 : fc S = some (.inl r, up S 82 k (S 82 k + 1))) (e2 : ∀ T, (∀ a, 141 < a → a < 186 → T a = S a) → fm T = some (r, up (up T 142 3 0) 156 k (S 156 k + 1))) : AgrAt n2 fc fm S := by
  refine ⟨.inl r, _, e1, fun x => ⟨_, _, e2 _ (fun a h1 h2 => by rw [up_ne (by omega), up_ne (by omega)]), ⟨V, v, d, refd hR hk x⟩, ?_, rfl⟩⟩
  rw [up_ne (by decide), up_at]
/-- behind an act: the class's side, the reference's side -/
def CAx (S C : St) (n : Nat) (h : Nat → Rw) : Prop := HC C 36 n h ∧ C 36 4 = S 36 4 ∧ ∀ a, (a < 130 ∨ (141 < a ∧ a < 186)) → a ≠ 14 → a ≠ 16 → a ≠ 29 → a ≠ 31 → a ≠ 36 → a ≠ 37 → (a < 39 ∨ 78 < a) → C a = S a
def MA (V : Vy) (T M : St) (n : Nat) (h : Nat → Rw) : Prop := HM V (M 163) (M 142 36) n h ∧ (∀ a, (a < 142 ∨ (142 < a ∧ a < 158) ∨ a = 164 ∨ (172 < a ∧ a < 176) ∨ (179 < a ∧ a < 186)) → M a = T a) ∧ ∀ j, (j = 17 ∨ j = 26 ∨ j = 37 ∨ j = 41 ∨ j = 57 ∨ j = 58 ∨ j = 59) → M 142 j = T 142 j
theorem CAx.up {S C : St} {n : Nat} {h : Nat → Rw} (hC : CAx S C n h) {a i : Nat} {x : Int32} (ha : a = 37 ∨ a = 186 ∨ (129 < a ∧ a < 142)) : CAx S (up C a i x) n h := by
  obtain ⟨h1, h2, h3⟩ := hC
  exact ⟨h1.go (by rw [up_ne (by omega)]) (by rw [up_ne (by omega)]) (fun b b1 b2 => up_ne (by omega)), by rw [up_ne (by omega)]; exact h2, fun b q1 q2 q3 q4 q5 q6 q7 q8 => by rw [up_ne (by omega)]; exact h3 b q1 q2 q3 q4 q5 q6 q7 q8⟩
theorem CAx.cp {S C : St} {n : Nat} {h : Nat → Rw} (hC : CAx S C n h) {a0 i j m : Nat} : CAx S (cpy C a0 i 37 j m) n h := by
  obtain ⟨h1, h2, h3⟩ := hC
  exact ⟨h1.go (by rw [cpy_ne (by omega)]) (by rw [cpy_ne (by omega)]) (fun b b1 b2 => cpy_ne (by omega)), by rw [cpy_ne (by omega)]; exact h2, fun b q1 q2 q3 q4 q5 q6 q7 q8 => by rw [cpy_ne (by omega)]; exact h3 b q1 q2 q3 q4 q5 q6 q7 q8⟩
theorem CAx.k {S C C' : St} {n : Nat} {h : Nat → Rw} (hC : CAx S C n h) (hk : cK C C') : CAx S C' n h := by
  obtain ⟨h1, h2, h3⟩ := hC
  have e36 := hk 36 (by decide) (by decide) (by decide) (by decide) (by decide)
  exact ⟨h1.go (by rw [e36]) (by rw [e36]) (fun b b1 b2 => hk b (by omega) (by omega) (by omega) (by omega) (by omega)), by rw [e36]; exact h2, fun b q1 q2 q3 q4 q5 q6 q7 q8 => by rw [hk b q1 q2 q3 q4 q5]; exact h3 b q1 q2 q3 q4 q5 q6 q7 q8⟩
theorem CAx.mr {S C : St} {n : Nat} {h : Nat → Rw} (hC : CAx S C n h) : mr C = mr S := mr_cell (fun a ha => hC.2.2 a (by omega) (by omega) (by omega) (by omega) (by omega) (by omega) (by omega) (by omega))
theorem CAx.m {S C : St} {n : Nat} {h : Nat → Rw} (hC : CAx S C n h) (a : Nat) (ha : 141 < a ∧ a < 186) : C a = S a := hC.2.2 a (by omega) (by omega) (by omega) (by omega) (by omega) (by omega) (by omega) (by omega)
theorem MA.up {V : Vy} {T M : St} {n : Nat} {h : Nat → Rw} (hM : MA V T M n h) {a i : Nat} {x : Int32} (ha : (157 < a ∧ a < 163) ∨ (164 < a ∧ a < 173)) : MA V T (up M a i x) n h := by
  obtain ⟨h1, h2, h3⟩ := hM
  exact ⟨by rw [up_ne (by omega), up_ne (by omega)]; exact h1, fun b hb => by rw [up_ne (by omega)]; exact h2 b hb, fun j hj => by rw [up_ne (by omega)]; exact h3 j hj⟩
theorem MA.fr {V : Vy} {T M M' : St} {n : Nat} {h : Nat → Rw} (hM : MA V T M n h) (hf : mFr M M') : MA V T M' n h := by
  obtain ⟨h1, h2, h3⟩ := hM
  exact ⟨by rw [hf.1 163 (by omega), hf.2 36 (by decide) (by decide)]; exact h1, fun b hb => by rw [hf.1 b (by omega)]; exact h2 b hb, fun j hj => by rw [hf.2 j (by omega) (by omega)]; exact h3 j hj⟩
theorem Rl.ca {V : Vy} {v d : Nat} {S T M : St} {n : Nat} {h : Nat → Rw} (hR : Rl V v d S) (hC : CAx S T n h) (hM : MA V T M n h) (n4 : n ≤ 40) (hh : ∀ j, j < n → ROk V 10000 (h j)) (hag : rg V (T 37) (mr M)) (hok : ROk V 10000 (T 37)) : Rl V v d M := by
  have e37 := hM.2.1 37 (by omega)
  have e36 := hM.2.1 36 (by omega)
  refine hR.act (fun a h1 h2 h3 h4 h5 h6 h7 h8 => ?_) ?_ (fun a ha => ?_) (fun j hj => ?_) (by rw [e37]; exact hag) (by rw [e37]; exact hok) n4 (hC.1.go (by rw [e36]) (by rw [e36]) (fun b b1 b2 => hM.2.1 b (by omega))) hM.1 hh
  · rw [hM.2.1 a (by omega), hC.2.2 a (by omega) h2 h3 h4 h5 h6 h7 h8]
  · rw [e36]; exact hC.2.1
  · rw [hM.2.1 a (by omega), hC.m a (by omega)]
  · rw [hM.2.2 j hj, hC.m 142 (by omega)]
theorem act_at {n2 : Int32} {fc : St → Option TR} {fm : St → Option (Int32 × St)} {S C1 : St} {V : Vy} {v d n : Nat} {h : Nat → Rw} {r : Int32} (hR : Rl V v d S) (e1 : fc S = some (.inl r, C1)) (hC : CAx S C1 n h) (hok : ROk V 10000 (C1 37)) (n4 : n ≤ 40) (hh : ∀ j, j < n → ROk V 10000 (h j))
    (hm : ∀ T, CAx S T n h → T 37 = C1 37 → ok (fm T) (fun q => q.1 = r ∧ q.2 142 3 = 0 ∧ MA V T q.2 n h ∧ rg V (C1 37) (mr q.2))) : AgrAt n2 fc fm S := by
  refine ⟨.inl r, C1, e1, fun x => ?_⟩
  have hT : CAx S (up C1 186 0 x) n h := hC.up (by omega)
  have e37 : up C1 186 0 x 37 = C1 37 := up_ne (by decide)
  obtain ⟨⟨b, S2⟩, e2, p1, p2, p3, p4⟩ := hm _ hT e37
  exact ⟨b, S2, e2, ⟨V, v, d, hR.ca hT p3 n4 hh (by rw [e37]; exact p4) (by rw [e37]; exact hok)⟩, p2, p1⟩
/-- the class lays by; so does the reference -/
theorem lay2 {V : Vy} {v d : Nat} {S : St} (hR : Rl V v d S) : ∃ n h, n ≤ 40 ∧ (∀ j, j < n → ROk V 10000 (h j)) ∧ (∃ K, fX4_keepAct 36 S = some K ∧ CAx S K n h ∧ K 37 = S 37) ∧ ∀ T, CAx S T n h → ∃ M, fX10_keep (up T 142 3 0) = some M ∧ MA V T M n h ∧ mr M = mr S ∧ M 142 3 = 0 ∧ VM V M ∧ M 142 41 = -1 ∧ (∀ j, j ≠ 36 → M 142 j = up T 142 3 0 142 j) ∧ ∀ a, a ≠ 142 → a ≠ 163 → M a = T a := by
  obtain ⟨n, h, n4, q1, q2, q3⟩ := hR.st.2.2.1
  refine ⟨pN n, pH n h (S 37), pN_le n, pH_ok n4 q3 hR.rok, ?_, fun T hT => ?_⟩
  · obtain ⟨K, e, k1, k2, k3⟩ := C_keep n4 q1 (r := S 37) ag.rf
    exact ⟨K, e, ⟨k1, k2, fun a h1 h2 h3 h4 h5 h6 h7 h8 => k3 a h6 h8⟩, k3 37 (by decide) (by decide)⟩
  · have m0 : mr (up T 142 3 0) = mr S := by rw [mr_up (by omega) (by omega), hT.mr]
    obtain ⟨M, e, k1, k2, k3, k4⟩ := M_keep hR.vk (S := up T 142 3 0) (n := n) (h := h) (r := S 37) n4 (by rw [up_ne (by decide), up_off (by decide), hT.m 163 (by decide), hT.m 142 (by decide)]; exact q2) (by rw [m0]; exact hR.rag.sm)
    refine ⟨M, e, ⟨k1, fun a ha => ?_, fun j hj => ?_⟩, by rw [k2, m0], by rw [k4 3 (by decide), up_at], ?_, ?_, k4, fun a h1 h2 => by rw [k3 a h1 h2, up_ne h1]⟩
    · rw [k3 a (by omega) (by omega), up_ne (by omega)]
    · rw [k4 j (by omega), up_off (by omega)]
    · exact hR.M.go (fun a ha => by rw [k3 a (by omega) (by omega), up_ne (by omega), hT.m a (by omega)])
    · rw [k4 41 (by decide), up_off (by decide), hT.m 142 (by decide)]; exact hR.z
theorem A_teach {nX : Int32} (a1 a2 : Int32) : Agr nX (fX9_teach a1 a2) (fX10_teach a1 a2) := by
  rintro S ⟨V, v, d, hR⟩
  show AgrAt nX _ _ S
  have hV := hR.vk
  have hS6 := hV.2.1
  have hF8 := hV.1
  have hM0 : ∀ T, (∀ a, 141 < a → a < 186 → T a = S a) → VM V (up T 142 3 0) := fun T hT => hR.M.go (fun a ha => by rw [up_ne (by omega), hT a (by omega) (by omega)])
  rcases arg a1 (n := vS' V) (by omega) with ⟨s, hs, rfl⟩ | h1
  · rcases arg a2 (n := vF V) (by omega) with ⟨t, ht, rfl⟩ | h2
    · have e158 : ∀ T, (∀ a, 141 < a → a < 186 → T a = S a) → up T 142 3 0 158 s = S 37 (2 + s) := fun T hT => by
        rw [up_ne (by decide), hT 158 (by decide) (by decide), ← mr_k (S := S) (q := s) (by omega), hR.rag _ (rl_a (by omega) (by omega) (by omega))]
      by_cases c : bit (S 37 (2 + s)) (nI t) = true
      · refine refused_at hR 1 (by decide) 0 ?_ (fun T hT => ?_)
        · unfold fX9_teach
          rw [C_nS_t hR hs, bt_s, C_nF_t hR ht, bt_s]
          simp (disch := omega) only [bd_s, bv_s, bt_s, bt_x, vl_s, pf_s, ri_s, rz_0, rz_1, tri_s, trz_0, trz_1, trx_s, pz_0, pz_1, nI_add, pk_mul, up_at, la2, la5, la6, la8, la14, la62, la64, la98, la700, ra1, ra2, ra6, ra8, ra12, ra20, ra36, ra48, lm6, lm8, lm10, lm100, lm106, rm6, rm8, rm10, rm100, rm106, rd37]
          rw [if_neg (fun z => by rw [bit_f z] at c; cases c), show fX4_refuse 36 1 S = _ from C_refuse (k := 1) (by decide)]
          rfl
        · unfold fX10_teach
          rw [pf_s, M_isS_t (hM0 T hT) hs, bd_s, if_neg (by decide), M_isF_t (hM0 T hT) ht, bd_s, if_neg (by decide), rd158 (by omega), e158 T hT, M_isOf, c, bd_s, if_neg (by decide), M_refuses, bd_s, up_ne (by decide), hT 156 (by decide) (by decide)]
          rfl
      · have cf : bit (S 37 (2 + s)) (nI t) = false := by
          cases hb : bit (S 37 (2 + s)) (nI t) with
          | true => exact absurd hb c
          | false => rfl
        obtain ⟨n, h, n4, hh, ⟨K, eK, kC, k37⟩, hM⟩ := lay2 hR
        obtain ⟨k, hk, ek⟩ := hR.rok.2.1 s hs
        refine act_at (C1 := up K 37 (2 + s) (S 37 (2 + s) ||| pw (nI t))) (r := 1) hR ?_ (kC.up (by omega)) ?_ n4 hh (fun T hT e37 => ?_)
        · unfold fX9_teach
          rw [C_nS_t hR hs, bt_s, C_nF_t hR ht, bt_s]
          simp (disch := omega) only [bd_s, bv_s, bt_s, bt_x, vl_s, pf_s, ri_s, rz_0, rz_1, tri_s, trz_0, trz_1, trx_s, pz_0, pz_1, nI_add, pk_mul, up_at, la2, la5, la6, la8, la14, la62, la64, la98, la700, ra1, ra2, ra6, ra8, ra12, ra20, ra36, ra48, lm6, lm8, lm10, lm100, lm106, rm6, rm8, rm10, rm100, rm106, rd37]
          rw [if_pos (bit_iff.mpr cf), eK, bv_s]
          simp (disch := omega) only [rd37, wr37, k37]
          rfl
        · rw [up_row, k37]
          obtain ⟨h0, h1, h2, h3, h4, h5⟩ := hR.rok
          refine ⟨by rw [upd_ne (by omega)]; exact h0, fun q hq => ?_, fun q hq => by rw [upd_ne (by omega)]; exact h2 q hq, fun a b ha hb => by rw [upd_ne (by omega)]; exact h3 a b ha hb, fun q i hq hi => by rw [upd_ne (by omega)]; exact h4 q i hq hi, fun t ht => by rw [upd_ne (by omega)]; exact h5 t ht⟩
          unfold upd
          split
          · exact ⟨k ||| 2 ^ t, or_lt hk (pw_lt ht), by rw [ek, pw_N t (by omega), or_N]⟩
          · exact h1 q hq
        · obtain ⟨M, eM, mA, mm, m3, -, -, -, ma⟩ := hM T hT
          have hT2 : ∀ a, 141 < a → a < 186 → T a = S a := fun a b1 b2 => hT.m a ⟨b1, b2⟩
          have e2 : M 158 s = S 37 (2 + s) := by rw [← mr_k (S := M) (q := s) (by omega), mm, hR.rag _ (rl_a (by omega) (by omega) (by omega))]
          unfold fX10_teach
          rw [pf_s, M_isS_t (hM0 T hT2) hs, bd_s, if_neg (by decide), M_isF_t (hM0 T hT2) ht, bd_s, if_neg (by decide), rd158 (by omega), e158 T hT2, M_isOf, cf, bd_s, if_pos (by rfl), eM, bv_s, rd158 (by omega), wr158 (by omega), e2]
          refine ok_some ⟨rfl, m3, mA.up (by omega), ?_⟩
          show rg V _ (mr (up M 158 s (S 37 (2 + s) ||| pw (nI t))))
          rw [up_row, k37, mr_uk (by omega), mm]
          exact rg_upd hR.rag
    · refine thrown_at hR 1 ?_ 1 (Or.inl ⟨rfl, rfl⟩) (fun T hT => ?_)
      · unfold fX9_teach
        rw [C_nS_t hR hs, bt_s, C_nF_f hR h2, bt_x]
      · have hm := hM0 T (fun a b1 b2 => hT.at a (by omega) (by omega) (by omega) (by omega) (by omega))
        unfold fX10_teach BX10_teach_21
        rw [pf_s, M_isS_t hm hs, bd_s, if_neg (by decide), M_isF_f hm h2, bd_s, if_pos rfl]
        rfl
  · refine thrown_at hR 1 ?_ 1 (Or.inl ⟨rfl, rfl⟩) (fun T hT => ?_)
    · unfold fX9_teach
      rw [C_nS_f hR h1, bt_x]
    · have hm := hM0 T (fun a b1 b2 => hT.at a (by omega) (by omega) (by omega) (by omega) (by omega))
      unfold fX10_teach BX10_teach_21
      rw [pf_s, M_isS_f hm h1, bd_s, if_pos rfl]
      rfl
