/-! the shortest round: the reference -/
def GD (D : Nat → Nat → Nat) (f Y k v : Nat) : Prop := v ≤ 100000 ∧ (v < 100000 → PT D f Y k v) ∧ ∀ c, PT D f Y k c → v ≤ c
def RI (D : Nat → Nat → Nat) (F f : Nat) (S : St) (X a : Nat) (T : St) : Prop := (∀ b, b ≠ 171 → T b = S b) ∧ ∀ Y k, 0 < Y → k < F → (Y < X ∨ (Y = X ∧ k < a)) → ∃ v, T 171 (8 * Y + k) = nI v ∧ GD D f Y k v
/-- what comes into question for the last field k -/
def cand (D : Nat → Nat → Nat) (f X k q : Nat) (vt : Nat → Nat) (c : Nat) : Prop := (X = 2 ^ k ∧ c = wK D 100000 f k) ∨ ∃ q', q' < q ∧ q' ≠ k ∧ X.testBit q' = true ∧ c = vt q' + wK D 100000 q' k
theorem GD_of {D : Nat → Nat → Nat} {F f X k v : Nat} {vt : Nat → Nat} (hF : F ≤ 8) (hX : X < 2 ^ F) (hf : f < F) (hk : k < F) (hb : X.testBit k = true) (dd : ∀ a b, a < F → b < F → D a b ≤ 5120 ∨ 100000 ≤ D a b) (hvt : ∀ q, q < F → q ≠ k → X.testBit q = true → GD D f (X ^^^ 2 ^ k) q (vt q)) (h1 : v ≤ 100000) (h2 : v < 100000 → cand D f X k F vt v) (h3 : ∀ c, cand D f X k F vt c → v ≤ c) : GD D f X k v := by
  refine ⟨h1, fun hv => ?_, fun c hc => ?_⟩
  · rcases h2 hv with ⟨e1, e2⟩ | ⟨q, hq, hqk, hqb, e⟩
    · have hw : wK D 100000 f k = D f k := by
        unfold wK at e2 ⊢
        by_cases z : D f k < 10000
        · rw [if_pos z]
        · rw [if_neg z] at e2; omega
      refine ⟨[k], by simp, fun x => ?_, by simp, rfl, ?_⟩
      · rw [e1, Nat.testBit_two_pow]; simp; exact ⟨fun z => z.symm, fun z => z.symm⟩
      · rw [e2, hw]; rfl
    · have hw : wK D 100000 q k = D q k := by
        unfold wK at e ⊢
        by_cases z : D q k < 10000
        · rw [if_pos z]
        · rw [if_neg z] at e; omega
      rw [e, hw]
      rw [hw] at e
      exact PT_ext hb ((hvt q hq hqk hqb).2.1 (by omega))
  · obtain ⟨-, ⟨e1, e2⟩ | ⟨q, c', hp, hqb, hqk, e⟩⟩ := PT_pred hc
    · have := h3 _ (Or.inl ⟨e1, rfl⟩)
      unfold wK at this
      rw [e2]
      rcases dd f k hf hk with z | z
      · rw [if_pos (by omega)] at this; exact this
      · omega
    · have hq : q < F := by
        rcases Nat.lt_or_ge q F with z | z
        · exact z
        · have : X < 2 ^ q := Nat.lt_of_lt_of_le hX (Nat.pow_le_pow_right (by decide) z)
          rw [Nat.testBit_lt_two_pow this] at hqb; cases hqb
      have := h3 _ (Or.inr ⟨q, hq, hqk, hqb, rfl⟩)
      have l := (hvt q hq hqk hqb).2.2 c' hp
      unfold wK at this
      rw [e]
      rcases dd q k hq hk with z | z
      · rw [if_pos (by omega)] at this; omega
      · omega
theorem GD_no {D : Nat → Nat → Nat} {f X k : Nat} (hb : X.testBit k = false) : GD D f X k 100000 := by
  refine ⟨Nat.le_refl _, fun h => absurd h (by omega), fun c hc => ?_⟩
  have := (PT_pred hc).1
  rw [hb] at this; cases this
theorem M_rq {V : Vy} {S T : St} {D : Nat → Nat → Nat} {f X k : Nat} {vt : Nat → Nat} {x0 : Int32} (e145 : T 145 0 = nI (vF V)) (hF8 : vF V ≤ 8) (e164 : ∀ a b, a < vF V → b < vF V → T 164 (8 * a + b) = nI (wK D 100000 a b)) (hX : X < 256) (hk : k < vF V) (hb : X.testBit k = true) (hvt : ∀ q, q < vF V → q ≠ k → X.testBit q = true → vt q ≤ 100000 ∧ T 171 (8 * (X ^^^ 2 ^ k) + q) = nI (vt q)) (hx0 : ∃ c, x0 = nI c ∧ c ≤ 100000 ∧ (c < 100000 → cand D f X k 0 vt c) ∧ ∀ c', cand D f X k 0 vt c' → c ≤ c') {Q : Int32 × St → Prop} {r32 : Int32 → Int32 → Int32 → St → Option (Int32 × St)} {r40 : Int32 → Int32 → Int32 → Int32 → St → Option (Int32 × St)} {l1 l2 : Int32} (hk2 : ∀ c, c ≤ 100000 → (c < 100000 → cand D f X k (vF V) vt c) → (∀ c', cand D f X k (vF V) vt c' → c ≤ c') → ok (BX10_round_163 r32 r40 l1 l2 (nI X) (nI k) (nI c) T) Q) : ok (LX10_round_81 r32 r40 FU l1 l2 (nI X) (nI k) x0 0 T) Q := by
  obtain ⟨xl, -, xa, -⟩ := x_fact X hX k (by omega) hb
  refine ok_for (σ := Int32) (fun n q x => LX10_round_81 r32 r40 n l1 l2 (nI X) (nI k) x (nI q) T) _ (fun q x => ∃ c, x = nI c ∧ c ≤ 100000 ∧ (c < 100000 → cand D f X k q vt c) ∧ ∀ c', cand D f X k q vt c' → c ≤ c') (vF V) ?_ ?_ FU 0 x0 (by omega) (by unfold FU; omega) hx0
  · intro n x hI
    obtain ⟨c, rfl, c1, c2, c3⟩ := hI
    simp (disch := omega) only [LX10_round_81, KX10_round_81, rd145_0, e145, nI_leE, nI_ltE, nI_eqE, nI_m1, c0a, c0b, c0c, c0d, c0e, c1a, c1b, c1c, c1d, c1e, c2a, c2b, c2c, c2d, c2e, c3a, c3b, c3c, c3d, c3e, c4a, c4b, c4c, c4d, c4e, c5a, c5b, c5c, c5d, c5e, c6a, c6b, c6c, c6d, c6e, c7a, c7b, c7c, c7d, c7e, c8a, c8b, c8c, c8d, c8e, c9a, c9b, c9c, c9d, c9e, c10a, c10b, c10c, c10d, c10e, c12a, c12b, c12c, c12d, c12e, c14a, c14b, c14c, c14d, c14e, c16a, c16b, c16c, c16d, c16e, c20a, c20b, c20c, c20d, c20e, c30a, c30b, c30c, c30d, c30e, c32a, c32b, c32c, c32d, c32e, c36a, c36b, c36c, c36d, c36e, c40a, c40b, c40c, c40d, c40e, c41a, c41b, c41c, c41d, c41e, c42a, c42b, c42c, c42d, c42e, c43a, c43b, c43c, c43d, c43e, c45a, c45b, c45c, c45d, c45e, c47a, c47b, c47c, c47d, c47e, c48a, c48b, c48c, c48d, c48e, c57a, c57b, c57c, c57d, c57e, c59a, c59b, c59c, c59d, c59e, c60a, c60b, c60c, c60d, c60e, c61a, c61b, c61c, c61d, c61e, c62a, c62b, c62c, c62d, c62e, c64a, c64b, c64c, c64d, c64e, c96a, c96b, c96c, c96d, c96e, c97a, c97b, c97c, c97d, c97e, c98a, c98b, c98c, c98d, c98e, c99a, c99b, c99c, c99d, c99e, c100a, c100b, c100c, c100d, c100e, c122a, c122b, c122c, c122d, c122e, c700a, c700b, c700c, c700d, c700e, c4240a, c4240b, c4240c, c4240d, c4240e, c9999a, c9999b, c9999c, c9999d, c9999e, c100000a, c100000b, c100000c, c100000d, c100000e, c1000000a, c1000000b, c1000000c, c1000000d, c1000000e, if_T]
    exact hk2 c c1 c2 c3
  · intro n q x hq hI ih
    obtain ⟨c, rfl, c1, c2, c3⟩ := hI
    have keep : (q = k ∨ X.testBit q = false) → ok (LX10_round_81 r32 r40 n l1 l2 (nI X) (nI k) (nI c) (nI (q + 1)) T) Q := by
      intro hno
      refine ih _ ⟨c, rfl, c1, fun z => ?_, fun c' hc' => ?_⟩
      · rcases c2 z with h | ⟨q', h1, h2⟩
        · exact Or.inl h
        · exact Or.inr ⟨q', by omega, h2⟩
      · rcases hc' with h | ⟨q', h1, h2, h3, h4⟩
        · exact c3 _ (Or.inl h)
        · by_cases z : q' = q
          · subst z
            rcases hno with z | z
            · exact absurd z h2
            · rw [h3] at z; cases z
          · exact c3 _ (Or.inr ⟨q', by omega, h2, h3, h4⟩)
    simp (disch := omega) only [LX10_round_81, KX10_round_81, rd145_0, e145, nI_leE, nI_ltE, nI_eqE, nI_m1, c0a, c0b, c0c, c0d, c0e, c1a, c1b, c1c, c1d, c1e, c2a, c2b, c2c, c2d, c2e, c3a, c3b, c3c, c3d, c3e, c4a, c4b, c4c, c4d, c4e, c5a, c5b, c5c, c5d, c5e, c6a, c6b, c6c, c6d, c6e, c7a, c7b, c7c, c7d, c7e, c8a, c8b, c8c, c8d, c8e, c9a, c9b, c9c, c9d, c9e, c10a, c10b, c10c, c10d, c10e, c12a, c12b, c12c, c12d, c12e, c14a, c14b, c14c, c14d, c14e, c16a, c16b, c16c, c16d, c16e, c20a, c20b, c20c, c20d, c20e, c30a, c30b, c30c, c30d, c30e, c32a, c32b, c32c, c32d, c32e, c36a, c36b, c36c, c36d, c36e, c40a, c40b, c40c, c40d, c40e, c41a, c41b, c41c, c41d, c41e, c42a, c42b, c42c, c42d, c42e, c43a, c43b, c43c, c43d, c43e, c45a, c45b, c45c, c45d, c45e, c47a, c47b, c47c, c47d, c47e, c48a, c48b, c48c, c48d, c48e, c57a, c57b, c57c, c57d, c57e, c59a, c59b, c59c, c59d, c59e, c60a, c60b, c60c, c60d, c60e, c61a, c61b, c61c, c61d, c61e, c62a, c62b, c62c, c62d, c62e, c64a, c64b, c64c, c64d, c64e, c96a, c96b, c96c, c96d, c96e, c97a, c97b, c97c, c97d, c97e, c98a, c98b, c98c, c98d, c98e, c99a, c99b, c99c, c99d, c99e, c100a, c100b, c100c, c100d, c100e, c122a, c122b, c122c, c122d, c122e, c700a, c700b, c700c, c700d, c700e, c4240a, c4240b, c4240c, c4240d, c4240e, c9999a, c9999b, c9999c, c9999d, c9999e, c100000a, c100000b, c100000c, c100000d, c100000e, c1000000a, c1000000b, c1000000c, c1000000d, c1000000e, if_F, M_isOf, bit_N X hX, hb, bd_s, BX10_round_157, vl_s, ra1, if_true]
    rw [if_neg (by decide)]
    by_cases z : q = k
    · rw [if_pos z]; exact keep (Or.inl z)
    · rw [if_neg z]
      cases hqb : X.testBit q with
      | false =>
        rw [show (if (false = true) then (1 : Int32) else 0) = 0 from rfl, if_pos rfl]
        exact keep (Or.inr hqb)
      | true =>
        rw [if_pos rfl, if_neg (by decide), xa]
        obtain ⟨w1, w2⟩ := hvt q hq z hqb
        have wk9 : wK D 100000 q k ≤ 100000 := by unfold wK; split <;> omega
        rw [lm8, nI_add, rd171 (by omega), w2, lm8, nI_add, rd164 (by omega), e164 q k hq hk, nI_add]
        have eif : (if nI (vt q + wK D 100000 q k) < nI c then nI (vt q + wK D 100000 q k) else nI c) = nI (if vt q + wK D 100000 q k < c then vt q + wK D 100000 q k else c) := by
          by_cases lt9 : vt q + wK D 100000 q k < c
          · rw [if_pos (nI_lt lt9 (by omega)), if_pos lt9]
          · rw [if_neg (nI_nlt (by omega) (by omega)), if_neg lt9]
        rw [eif]
        refine ih _ ⟨_, rfl, by split <;> omega, fun h9 => ?_, fun c' hc' => ?_⟩
        · by_cases y : vt q + wK D 100000 q k < c
          · rw [if_pos y]; exact Or.inr ⟨q, by omega, z, hqb, rfl⟩
          · rw [if_neg y] at h9 ⊢
            rcases c2 h9 with h | ⟨q', h1, h2⟩
            · exact Or.inl h
            · exact Or.inr ⟨q', by omega, h2⟩
        · have old : cand D f X k q vt c' → (if vt q + wK D 100000 q k < c then vt q + wK D 100000 q k else c) ≤ c' := fun h => by
            have := c3 c' h
            split <;> omega
          rcases hc' with h | ⟨q', h1, h2, h3, h4⟩
          · exact old (Or.inl h)
          · by_cases y : q' = q
            · subst y; rw [h4]; split <;> omega
            · exact old (Or.inr ⟨q', by omega, h2, h3, h4⟩)
theorem M_round {V : Vy} {S : St} {D : Nat → Nat → Nat} {f : Nat} (hM : VM V S) (hf : f < vF V) (hD : ∀ a b, a < vF V → b < vF V → S 164 (8 * a + b) = nI (wK D 100000 a b)) (dd : ∀ a b, a < vF V → b < vF V → D a b ≤ 5120 ∨ 100000 ≤ D a b) : ok (LX10_round_32 FU (nI f) (nI (2 ^ vF V - 1)) 1 S) (fun q => isM (Qr D (vF V) f) q.1 ∧ ∀ b, b ≠ 171 → q.2 b = S b) := by
  have hF8 := hM.1.1
  have hp8 : 2 ^ vF V ≤ 256 := (Nat.pow_le_pow_right (by decide) hF8 : 2 ^ vF V ≤ 2 ^ 8)
  have hpp : 0 < 2 ^ vF V := Nat.two_pow_pos _
  refine ok_for (fun n X T => LX10_round_32 n (nI f) (nI (2 ^ vF V - 1)) (nI X) T) _ (fun X T => 0 < X ∧ RI D (vF V) f S X 0 T) (2 ^ vF V) ?_ ?_ FU 1 S (by omega) (by unfold FU; omega) ⟨by omega, fun _ _ => rfl, fun Y k h1 h2 h3 => absurd h3 (by omega)⟩
  · intro n T hT
    obtain ⟨-, t1, t2⟩ := hT
    have e145 : T 145 0 = nI (vF V) := by rw [t1 145 (by decide)]; exact hM.2.1
    simp (disch := omega) only [LX10_round_32, KX10_round_32, nI_leE, nI_ltE, nI_eqE, nI_m1, c0a, c0b, c0c, c0d, c0e, c1a, c1b, c1c, c1d, c1e, c2a, c2b, c2c, c2d, c2e, c3a, c3b, c3c, c3d, c3e, c4a, c4b, c4c, c4d, c4e, c5a, c5b, c5c, c5d, c5e, c6a, c6b, c6c, c6d, c6e, c7a, c7b, c7c, c7d, c7e, c8a, c8b, c8c, c8d, c8e, c9a, c9b, c9c, c9d, c9e, c10a, c10b, c10c, c10d, c10e, c12a, c12b, c12c, c12d, c12e, c14a, c14b, c14c, c14d, c14e, c16a, c16b, c16c, c16d, c16e, c20a, c20b, c20c, c20d, c20e, c30a, c30b, c30c, c30d, c30e, c32a, c32b, c32c, c32d, c32e, c36a, c36b, c36c, c36d, c36e, c40a, c40b, c40c, c40d, c40e, c41a, c41b, c41c, c41d, c41e, c42a, c42b, c42c, c42d, c42e, c43a, c43b, c43c, c43d, c43e, c45a, c45b, c45c, c45d, c45e, c47a, c47b, c47c, c47d, c47e, c48a, c48b, c48c, c48d, c48e, c57a, c57b, c57c, c57d, c57e, c59a, c59b, c59c, c59d, c59e, c60a, c60b, c60c, c60d, c60e, c61a, c61b, c61c, c61d, c61e, c62a, c62b, c62c, c62d, c62e, c64a, c64b, c64c, c64d, c64e, c96a, c96b, c96c, c96d, c96e, c97a, c97b, c97c, c97d, c97e, c98a, c98b, c98c, c98d, c98e, c99a, c99b, c99c, c99d, c99e, c100a, c100b, c100c, c100d, c100e, c122a, c122b, c122c, c122d, c122e, c700a, c700b, c700c, c700d, c700e, c4240a, c4240b, c4240c, c4240d, c4240e, c9999a, c9999b, c9999c, c9999d, c9999e, c100000a, c100000b, c100000c, c100000d, c100000e, c1000000a, c1000000b, c1000000c, c1000000d, c1000000e, if_T]
    refine ok_for (σ := Int32) (fun n i l => LX10_round_200 n (nI f) (nI (2 ^ vF V - 1)) l (nI i) T) _ (fun i l => ∃ c, l = nI c ∧ c ≤ 100000 ∧ (c < 100000 → Qr D (vF V) f c) ∧ ∀ q c', q < i → PT D f (2 ^ vF V - 1) q c' → c ≤ c' + D q f) (vF V) ?_ ?_ FU 0 100000 (by omega) (by unfold FU; omega) ⟨100000, rfl, Nat.le_refl _, fun h => absurd h (by omega), fun q c' hq => absurd hq (by omega)⟩
    · intro n l hI
      obtain ⟨c, rfl, c9, hq, hm⟩ := hI
      simp (disch := omega) only [LX10_round_200, KX10_round_200, rd145_0, e145, nI_leE, nI_ltE, nI_eqE, nI_m1, c0a, c0b, c0c, c0d, c0e, c1a, c1b, c1c, c1d, c1e, c2a, c2b, c2c, c2d, c2e, c3a, c3b, c3c, c3d, c3e, c4a, c4b, c4c, c4d, c4e, c5a, c5b, c5c, c5d, c5e, c6a, c6b, c6c, c6d, c6e, c7a, c7b, c7c, c7d, c7e, c8a, c8b, c8c, c8d, c8e, c9a, c9b, c9c, c9d, c9e, c10a, c10b, c10c, c10d, c10e, c12a, c12b, c12c, c12d, c12e, c14a, c14b, c14c, c14d, c14e, c16a, c16b, c16c, c16d, c16e, c20a, c20b, c20c, c20d, c20e, c30a, c30b, c30c, c30d, c30e, c32a, c32b, c32c, c32d, c32e, c36a, c36b, c36c, c36d, c36e, c40a, c40b, c40c, c40d, c40e, c41a, c41b, c41c, c41d, c41e, c42a, c42b, c42c, c42d, c42e, c43a, c43b, c43c, c43d, c43e, c45a, c45b, c45c, c45d, c45e, c47a, c47b, c47c, c47d, c47e, c48a, c48b, c48c, c48d, c48e, c57a, c57b, c57c, c57d, c57e, c59a, c59b, c59c, c59d, c59e, c60a, c60b, c60c, c60d, c60e, c61a, c61b, c61c, c61d, c61e, c62a, c62b, c62c, c62d, c62e, c64a, c64b, c64c, c64d, c64e, c96a, c96b, c96c, c96d, c96e, c97a, c97b, c97c, c97d, c97e, c98a, c98b, c98c, c98d, c98e, c99a, c99b, c99c, c99d, c99e, c100a, c100b, c100c, c100d, c100e, c122a, c122b, c122c, c122d, c122e, c700a, c700b, c700c, c700d, c700e, c4240a, c4240b, c4240c, c4240d, c4240e, c9999a, c9999b, c9999c, c9999d, c9999e, c100000a, c100000b, c100000c, c100000d, c100000e, c1000000a, c1000000b, c1000000c, c1000000d, c1000000e, if_T]
      by_cases h : c < 100000
      · rw [if_pos h]; exact ok_some ⟨Or.inl ⟨c, h, rfl, hq h, fun c' ⟨q, c1, h1, h2, h3⟩ _ => by rw [h3]; exact hm q c1 h1 h2⟩, t1⟩
      · rw [if_neg h]; exact ok_some ⟨Or.inr ⟨rfl, fun c' ⟨q, c1, h1, h2, h3⟩ => by have := hm q c1 h1 h2; omega⟩, t1⟩
    · intro n i l hi hI ih
      obtain ⟨c, rfl, c9, hq, hm⟩ := hI
      have h2F : 1 < 2 ^ vF V := Nat.one_lt_two_pow (by omega)
      obtain ⟨w, w1, w2⟩ := t2 (2 ^ vF V - 1) i (by omega) hi (Or.inl (by omega))
      have e5 : T 164 (8 * i + f) = nI (wK D 100000 i f) := by rw [t1 164 (by decide)]; exact hD i f hi hf
      have w9 := w2.1
      have wk9 : wK D 100000 i f ≤ 100000 := by unfold wK; split <;> omega
      simp (disch := omega) only [LX10_round_200, KX10_round_200, rd145_0, e145, nI_leE, nI_ltE, nI_eqE, nI_m1, c0a, c0b, c0c, c0d, c0e, c1a, c1b, c1c, c1d, c1e, c2a, c2b, c2c, c2d, c2e, c3a, c3b, c3c, c3d, c3e, c4a, c4b, c4c, c4d, c4e, c5a, c5b, c5c, c5d, c5e, c6a, c6b, c6c, c6d, c6e, c7a, c7b, c7c, c7d, c7e, c8a, c8b, c8c, c8d, c8e, c9a, c9b, c9c, c9d, c9e, c10a, c10b, c10c, c10d, c10e, c12a, c12b, c12c, c12d, c12e, c14a, c14b, c14c, c14d, c14e, c16a, c16b, c16c, c16d, c16e, c20a, c20b, c20c, c20d, c20e, c30a, c30b, c30c, c30d, c30e, c32a, c32b, c32c, c32d, c32e, c36a, c36b, c36c, c36d, c36e, c40a, c40b, c40c, c40d, c40e, c41a, c41b, c41c, c41d, c41e, c42a, c42b, c42c, c42d, c42e, c43a, c43b, c43c, c43d, c43e, c45a, c45b, c45c, c45d, c45e, c47a, c47b, c47c, c47d, c47e, c48a, c48b, c48c, c48d, c48e, c57a, c57b, c57c, c57d, c57e, c59a, c59b, c59c, c59d, c59e, c60a, c60b, c60c, c60d, c60e, c61a, c61b, c61c, c61d, c61e, c62a, c62b, c62c, c62d, c62e, c64a, c64b, c64c, c64d, c64e, c96a, c96b, c96c, c96d, c96e, c97a, c97b, c97c, c97d, c97e, c98a, c98b, c98c, c98d, c98e, c99a, c99b, c99c, c99d, c99e, c100a, c100b, c100c, c100d, c100e, c122a, c122b, c122c, c122d, c122e, c700a, c700b, c700c, c700d, c700e, c4240a, c4240b, c4240c, c4240d, c4240e, c9999a, c9999b, c9999c, c9999d, c9999e, c100000a, c100000b, c100000c, c100000d, c100000e, c1000000a, c1000000b, c1000000c, c1000000d, c1000000e, if_F, lm8, nI_add, rd171, w1, rd164, e5, vl_s, ra1]
      have eif : (if w + wK D 100000 i f < c then nI (w + wK D 100000 i f) else nI c) = nI (if w + wK D 100000 i f < c then w + wK D 100000 i f else c) := by split <;> rfl
      rw [eif]
      refine ih _ ⟨_, rfl, by split <;> omega, fun h9 => ?_, fun q c' hq1 hp => ?_⟩
      · by_cases h : w + wK D 100000 i f < c
        · rw [if_pos h] at h9 ⊢
          unfold wK at h9 ⊢
          by_cases c2 : D i f < 10000
          · rw [if_pos c2] at h9 ⊢
            exact ⟨i, w, hi, w2.2.1 (by omega), rfl⟩
          · rw [if_neg c2] at h9; omega
        · rw [if_neg h] at h9 ⊢
          exact hq h9
      · by_cases z : q = i
        · subst z
          have := w2.2.2 c' hp
          rcases dd q f hi hf with y | y
          · have hw : wK D 100000 q f = D q f := by unfold wK; rw [if_pos (by omega)]
            rw [hw]; split <;> omega
          · split <;> omega
        · have := hm q c' (by omega) hp
          split <;> omega
  · intro n X T hX hT ih
    obtain ⟨X0, hT⟩ := hT
    simp (disch := omega) only [LX10_round_32, KX10_round_32, nI_leE, nI_ltE, nI_eqE, nI_m1, c0a, c0b, c0c, c0d, c0e, c1a, c1b, c1c, c1d, c1e, c2a, c2b, c2c, c2d, c2e, c3a, c3b, c3c, c3d, c3e, c4a, c4b, c4c, c4d, c4e, c5a, c5b, c5c, c5d, c5e, c6a, c6b, c6c, c6d, c6e, c7a, c7b, c7c, c7d, c7e, c8a, c8b, c8c, c8d, c8e, c9a, c9b, c9c, c9d, c9e, c10a, c10b, c10c, c10d, c10e, c12a, c12b, c12c, c12d, c12e, c14a, c14b, c14c, c14d, c14e, c16a, c16b, c16c, c16d, c16e, c20a, c20b, c20c, c20d, c20e, c30a, c30b, c30c, c30d, c30e, c32a, c32b, c32c, c32d, c32e, c36a, c36b, c36c, c36d, c36e, c40a, c40b, c40c, c40d, c40e, c41a, c41b, c41c, c41d, c41e, c42a, c42b, c42c, c42d, c42e, c43a, c43b, c43c, c43d, c43e, c45a, c45b, c45c, c45d, c45e, c47a, c47b, c47c, c47d, c47e, c48a, c48b, c48c, c48d, c48e, c57a, c57b, c57c, c57d, c57e, c59a, c59b, c59c, c59d, c59e, c60a, c60b, c60c, c60d, c60e, c61a, c61b, c61c, c61d, c61e, c62a, c62b, c62c, c62d, c62e, c64a, c64b, c64c, c64d, c64e, c96a, c96b, c96c, c96d, c96e, c97a, c97b, c97c, c97d, c97e, c98a, c98b, c98c, c98d, c98e, c99a, c99b, c99c, c99d, c99e, c100a, c100b, c100c, c100d, c100e, c122a, c122b, c122c, c122d, c122e, c700a, c700b, c700c, c700d, c700e, c4240a, c4240b, c4240c, c4240d, c4240e, c9999a, c9999b, c9999c, c9999d, c9999e, c100000a, c100000b, c100000c, c100000d, c100000e, c1000000a, c1000000b, c1000000c, c1000000d, c1000000e, if_F]
    refine ok_for (fun n2 k T => LX10_round_40 (LX10_round_32 n) n2 (nI f) (nI (2 ^ vF V - 1)) (nI X) (nI k) T) _ (fun k T => RI D (vF V) f S X k T) (vF V) ?_ ?_ FU 0 T (by omega) (by unfold FU; omega) hT
    · intro n2 U hU
      have e145 : U 145 0 = nI (vF V) := by rw [hU.1 145 (by decide)]; exact hM.2.1
      simp (disch := omega) only [LX10_round_40, KX10_round_40, rd145_0, e145, nI_leE, nI_ltE, nI_eqE, nI_m1, c0a, c0b, c0c, c0d, c0e, c1a, c1b, c1c, c1d, c1e, c2a, c2b, c2c, c2d, c2e, c3a, c3b, c3c, c3d, c3e, c4a, c4b, c4c, c4d, c4e, c5a, c5b, c5c, c5d, c5e, c6a, c6b, c6c, c6d, c6e, c7a, c7b, c7c, c7d, c7e, c8a, c8b, c8c, c8d, c8e, c9a, c9b, c9c, c9d, c9e, c10a, c10b, c10c, c10d, c10e, c12a, c12b, c12c, c12d, c12e, c14a, c14b, c14c, c14d, c14e, c16a, c16b, c16c, c16d, c16e, c20a, c20b, c20c, c20d, c20e, c30a, c30b, c30c, c30d, c30e, c32a, c32b, c32c, c32d, c32e, c36a, c36b, c36c, c36d, c36e, c40a, c40b, c40c, c40d, c40e, c41a, c41b, c41c, c41d, c41e, c42a, c42b, c42c, c42d, c42e, c43a, c43b, c43c, c43d, c43e, c45a, c45b, c45c, c45d, c45e, c47a, c47b, c47c, c47d, c47e, c48a, c48b, c48c, c48d, c48e, c57a, c57b, c57c, c57d, c57e, c59a, c59b, c59c, c59d, c59e, c60a, c60b, c60c, c60d, c60e, c61a, c61b, c61c, c61d, c61e, c62a, c62b, c62c, c62d, c62e, c64a, c64b, c64c, c64d, c64e, c96a, c96b, c96c, c96d, c96e, c97a, c97b, c97c, c97d, c97e, c98a, c98b, c98c, c98d, c98e, c99a, c99b, c99c, c99d, c99e, c100a, c100b, c100c, c100d, c100e, c122a, c122b, c122c, c122d, c122e, c700a, c700b, c700c, c700d, c700e, c4240a, c4240b, c4240c, c4240d, c4240e, c9999a, c9999b, c9999c, c9999d, c9999e, c100000a, c100000b, c100000c, c100000d, c100000e, c1000000a, c1000000b, c1000000c, c1000000d, c1000000e, if_T, vl_s, ra1]
      exact ih U ⟨by omega, hU.1, fun Y k h1 h2 h3 => hU.2 Y k h1 h2 (by omega)⟩
    · intro n2 k U hk hU ih2
      obtain ⟨u1, u2⟩ := hU
      have e145 : U 145 0 = nI (vF V) := by rw [u1 145 (by decide)]; exact hM.2.1
      have e164 : ∀ a b, a < vF V → b < vF V → U 164 (8 * a + b) = nI (wK D 100000 a b) := fun a b ha hb => by rw [u1 164 (by decide)]; exact hD a b ha hb
      have fin : ∀ c, c ≤ 100000 → GD D f X k c → ok (BX10_round_163 (LX10_round_32 n) (LX10_round_40 (LX10_round_32 n) n2) (nI f) (nI (2 ^ vF V - 1)) (nI X) (nI k) (nI c) U) (fun q => isM (Qr D (vF V) f) q.1 ∧ ∀ b, b ≠ 171 → q.2 b = S b) := by
        intro c c9 hG
        unfold BX10_round_163
        have ec : (if nI c < 100000 then nI c else 100000) = nI c := by
          by_cases z : c < 100000
          · rw [if_pos (show nI c < 100000 from nI_lt z (by decide))]
          · rw [show c = 100000 by omega]; rfl
        rw [ec, vl_s, lm8, nI_add, wr171 (by omega), vl_s, nI_1]
        refine ih2 _ ⟨fun b hb => by rw [up_ne hb]; exact u1 b hb, fun Y k' h1 h2 h3 => ?_⟩
        by_cases z : Y = X ∧ k' = k
        · obtain ⟨rfl, rfl⟩ := z
          rw [up_at]; exact ⟨c, rfl, hG⟩
        · rw [up_off (by omega)]
          exact u2 Y k' h1 h2 (by omega)
      have esh : ((1 : Int32) <<< (nI k &&& 31)) = nI (2 ^ k) := sh_N k (by omega)
      have p2k : 2 ^ k < 256 := Nat.lt_of_lt_of_le (pw_lt hk) hp8
      simp (disch := omega) only [LX10_round_40, KX10_round_40, rd145_0, e145, nI_leE, nI_ltE, nI_eqE, nI_m1, c0a, c0b, c0c, c0d, c0e, c1a, c1b, c1c, c1d, c1e, c2a, c2b, c2c, c2d, c2e, c3a, c3b, c3c, c3d, c3e, c4a, c4b, c4c, c4d, c4e, c5a, c5b, c5c, c5d, c5e, c6a, c6b, c6c, c6d, c6e, c7a, c7b, c7c, c7d, c7e, c8a, c8b, c8c, c8d, c8e, c9a, c9b, c9c, c9d, c9e, c10a, c10b, c10c, c10d, c10e, c12a, c12b, c12c, c12d, c12e, c14a, c14b, c14c, c14d, c14e, c16a, c16b, c16c, c16d, c16e, c20a, c20b, c20c, c20d, c20e, c30a, c30b, c30c, c30d, c30e, c32a, c32b, c32c, c32d, c32e, c36a, c36b, c36c, c36d, c36e, c40a, c40b, c40c, c40d, c40e, c41a, c41b, c41c, c41d, c41e, c42a, c42b, c42c, c42d, c42e, c43a, c43b, c43c, c43d, c43e, c45a, c45b, c45c, c45d, c45e, c47a, c47b, c47c, c47d, c47e, c48a, c48b, c48c, c48d, c48e, c57a, c57b, c57c, c57d, c57e, c59a, c59b, c59c, c59d, c59e, c60a, c60b, c60c, c60d, c60e, c61a, c61b, c61c, c61d, c61e, c62a, c62b, c62c, c62d, c62e, c64a, c64b, c64c, c64d, c64e, c96a, c96b, c96c, c96d, c96e, c97a, c97b, c97c, c97d, c97e, c98a, c98b, c98c, c98d, c98e, c99a, c99b, c99c, c99d, c99e, c100a, c100b, c100c, c100d, c100e, c122a, c122b, c122c, c122d, c122e, c700a, c700b, c700c, c700d, c700e, c4240a, c4240b, c4240c, c4240d, c4240e, c9999a, c9999b, c9999c, c9999d, c9999e, c100000a, c100000b, c100000c, c100000d, c100000e, c1000000a, c1000000b, c1000000c, c1000000d, c1000000e, if_F, esh, BX10_round_76, lm8, nI_add, rd164, e164 f k hf hk]
      cases hb : X.testBit k with
      | false =>
        have hne : ¬ X = 2 ^ k := fun z => by rw [z, Nat.testBit_two_pow] at hb; simp at hb
        rw [if_neg hne, FU_s]
        show ok (KX10_round_81 (LX10_round_32 n) (LX10_round_40 (LX10_round_32 n) n2) (LX10_round_81 (LX10_round_32 n) (LX10_round_40 (LX10_round_32 n) n2) 4999) (nI f) (nI (2 ^ vF V - 1)) (nI X) (nI k) 100000 0 U) _
        unfold KX10_round_81
        rw [rd145_0, e145, if_neg (show ¬ nI (vF V) ≤ 0 by rw [show (0 : Int32) = nI 0 from rfl, nI_leI (by omega) (by omega)]; omega), M_isOf, bit_N X (by omega) k (by omega), hb, bd_s, show (if (false = true) then (1 : Int32) else 0) = 0 from rfl, if_pos rfl]
        exact fin 100000 (Nat.le_refl _) (GD_no hb)
      | true =>
        obtain ⟨xl, -, xa, x0⟩ := x_fact X (by omega) k (by omega) hb
        have tab : ∀ q, q < vF V → q ≠ k → X.testBit q = true → ∃ v, U 171 (8 * (X ^^^ 2 ^ k) + q) = nI v ∧ GD D f (X ^^^ 2 ^ k) q v := by
          intro q hq hqk hqb
          refine u2 _ q (x0 (fun z => ?_)) hq (Or.inl xl)
          rw [z, Nat.testBit_two_pow] at hqb
          exact hqk (of_decide_eq_true hqb).symm
        have vtE : ∀ q, q < vF V → q ≠ k → X.testBit q = true → GD D f (X ^^^ 2 ^ k) q (U 171 (8 * (X ^^^ 2 ^ k) + q)).toNatClampNeg ∧ (U 171 (8 * (X ^^^ 2 ^ k) + q)).toNatClampNeg ≤ 100000 ∧ U 171 (8 * (X ^^^ 2 ^ k) + q) = nI (U 171 (8 * (X ^^^ 2 ^ k) + q)).toNatClampNeg := by
          intro q hq hqk hqb
          obtain ⟨v, e, g⟩ := tab q hq hqk hqb
          have := g.1
          rw [e, nI_clamp (by omega)]
          exact ⟨g, g.1, rfl⟩
        generalize hvt : (fun q => (U 171 (8 * (X ^^^ 2 ^ k) + q)).toNatClampNeg) = vt
        have vtE' : ∀ q, q < vF V → q ≠ k → X.testBit q = true → GD D f (X ^^^ 2 ^ k) q (vt q) ∧ vt q ≤ 100000 ∧ U 171 (8 * (X ^^^ 2 ^ k) + q) = nI (vt q) := fun q h1 h2 h3 => by rw [← hvt]; exact vtE q h1 h2 h3
        have go : ∀ x0 : Int32, (∃ c, x0 = nI c ∧ c ≤ 100000 ∧ (c < 100000 → cand D f X k 0 vt c) ∧ ∀ c', cand D f X k 0 vt c' → c ≤ c') → ok (LX10_round_81 (LX10_round_32 n) (LX10_round_40 (LX10_round_32 n) n2) FU (nI f) (nI (2 ^ vF V - 1)) (nI X) (nI k) x0 0 U) (fun q => isM (Qr D (vF V) f) q.1 ∧ ∀ b, b ≠ 171 → q.2 b = S b) := fun x0 hx0 =>
          M_rq (S := S) e145 hF8 e164 (by omega) hk hb (fun q h1 h2 h3 => (vtE' q h1 h2 h3).2) hx0 (fun c c1 c2 c3 => fin c c1 (GD_of hF8 hX hf hk hb dd (fun q h1 h2 h3 => (vtE' q h1 h2 h3).1) c1 c2 c3))
        have wk9 : wK D 100000 f k ≤ 100000 := by unfold wK; split <;> omega
        by_cases hne : X = 2 ^ k
        · rw [if_pos hne]
          refine go _ ⟨wK D 100000 f k, rfl, wk9, fun _ => Or.inl ⟨hne, rfl⟩, fun c' hc' => ?_⟩
          rcases hc' with ⟨-, e⟩ | ⟨q', h1, -⟩
          · omega
          · omega
        · rw [if_neg hne]
          refine go _ ⟨100000, rfl, Nat.le_refl _, fun h => absurd h (by omega), fun c' hc' => ?_⟩
          rcases hc' with ⟨e, -⟩ | ⟨q', h1, -⟩
          · exact absurd e hne
          · omega
theorem A_round {nX : Int32} (a1 : Int32) : Agr nX (fX9_round a1) (fX10_round a1) := by
  refine look (fun S V v d hR => ?_)
  have hV := hR.vk
  have hF8 := hV.1
  have hv := hR.hv
  obtain ⟨dn, hdn, d0, tri, dd⟩ := hR.X.2.2.2.2
  rcases arg a1 (n := vF V) (by omega) with ⟨f, hf, rfl⟩ | h1
  · obtain ⟨⟨x, S1⟩, e1, q1, q2⟩ := C_tour (D := dn) hR.C (fun a b ha hb => (hdn a b ha hb).1) dd (by omega)
    have q2' : ∀ b, b ≠ 141 → S1 b = S b := q2
    refine ⟨.inl x, ?_, fun T hT => ?_⟩
    · unfold fX9_round
      rw [C_nF_t hR hf, bt_s, gm_v hR.2.1 hv, e1, bd_s]
      exact ok_some ⟨rfl, fun a h1 h2 h3 h4 h5 => q2' a (by omega)⟩
    · have M0 : VM V (up T 142 3 0) := (hR.c hT).M.go (fun a ha => up_ne (by omega))
      have eD : ∀ a b, a < vF V → b < vF V → (up T 142 3 0) 164 (8 * a + b) = nI (wK dn 100000 a b) := fun a b ha hb => by
        rw [up_ne (by decide), hT 164 (by decide) (by decide) (by decide) (by decide) (by decide)]; exact (hdn a b ha hb).2
      obtain ⟨⟨y, T1⟩, e2, p1, p2⟩ := M_round M0 hf eD dd
      have p2' : ∀ b, b ≠ 171 → T1 b = up T 142 3 0 b := p2
      have e2' : LX10_round_32 FU (nI f) (nI (2 ^ vF V - 1)) 1 (up T 142 3 0) = some (y, T1) := e2
      have hpp : 0 < 2 ^ vF V := Nat.two_pow_pos _
      unfold fX10_round
      rw [pf_s, M_isF_t M0 hf, bd_s, if_neg (by decide), rd145_0, M0.2.1, sh_N _ (by omega), vl_s, show nI (2 ^ vF V) - 1 = nI (2 ^ vF V - 1) from by rw [show (1 : Int32) = nI 1 from rfl, pk_sub (by omega)], e2']
      refine ok_some ⟨mK0.tr ⟨by rw [mr_cell (fun a ha => p2' a (by omega))]; exact ag.rf, fun a ha => p2' a (by omega), fun j hj => by show T1 142 j = _; rw [p2' 142 (by decide)]⟩, ?_, ?_⟩
      · show T1 142 3 = 0
        rw [p2' 142 (by decide), up_at]
      · show y = x
        refine (isM_u ?_ ?_ (show isM (Qc dn (vF V)) x from q1) (show isM (Qr dn (vF V) f) y from p1)).symm
        · rintro c ⟨q, c', hq, hp, e⟩
          obtain ⟨q2, c2, h1, h2, h3⟩ := tour_a hf (d0 f hf) hp
          exact ⟨c2 + dn q2 f, by omega, q2, c2, h2, h1, rfl⟩
        · rintro c ⟨q, c', hq, hp, e⟩
          obtain ⟨q2, c2, h1, h2, h3⟩ := tour_b hf tri hp
          exact ⟨c2 + dn q2 0, by omega, q2, c2, h2, h1, rfl⟩
  · refine ⟨.inr 1, ?_, fun T hT => ?_⟩
    · unfold fX9_round
      rw [C_nF_f hR h1, bt_x]
      exact ok_some ⟨rfl, cK.rf⟩
    · have M0 : VM V (up T 142 3 0) := (hR.c hT).M.go (fun a ha => up_ne (by omega))
      unfold fX10_round
      rw [pf_s, M_isF_f M0 h1, bd_s, if_pos rfl, m_fail]
      exact ok_some ⟨mKx, Or.inl ⟨rfl, rfl⟩⟩
