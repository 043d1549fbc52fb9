/-! the shortest round: the class -/
def wK (D : Nat → Nat → Nat) (K a b : Nat) : Nat := if D a b < 10000 then D a b else K
theorem x_lt8 {X k : Nat} (hX : X < 256) (h : X.testBit k = true) : k < 8 := by
  rcases Nat.lt_or_ge k 8 with c | c
  · exact c
  · have : X < 2 ^ k := Nat.lt_of_lt_of_le hX (Nat.pow_le_pow_right (by decide) c : 2 ^ 8 ≤ 2 ^ k)
    rw [Nat.testBit_lt_two_pow this] at h; cases h
theorem x_fact : ∀ X, X < 256 → ∀ k, k < 8 → X.testBit k = true → (X ^^^ 2 ^ k) < X ∧ pop (X ^^^ 2 ^ k) + 1 = pop X ∧ nI X &&& (((1 : Int32) <<< (nI k &&& 31)) ^^^ (-1)) = nI (X ^^^ 2 ^ k) ∧ (X ≠ 2 ^ k → 0 < X ^^^ 2 ^ k) := by decide +kernel
theorem x_or : ∀ X, X < 256 → ∀ k, k < 8 → X.testBit k = false → ((X ||| 2 ^ k) ^^^ 2 ^ k) = X ∧ (X ||| 2 ^ k).testBit k = true := by decide +kernel
theorem x_un {X Y k : Nat} (h : Y ^^^ 2 ^ k = X) (hk : Y.testBit k = true) : X.testBit k = false := by rw [← h, tb_x, hk]; simp
theorem x_eq {X Y k : Nat} (hX : X < 256) (hk8 : k < 8) (h : Y ^^^ 2 ^ k = X) (hk : Y.testBit k = true) : Y = X ||| 2 ^ k := by
  have h1 := (x_or X hX k hk8 (x_un h hk)).1
  have : Y ^^^ 2 ^ k = (X ||| 2 ^ k) ^^^ 2 ^ k := by rw [h1, h]
  have h2 := congrArg (fun z => z ^^^ 2 ^ k) this
  simpa [Nat.xor_assoc] using h2
theorem P0_end {D : Nat → Nat → Nat} {Z q c : Nat} (h0 : Z.testBit 0 = true) (h : P0 D Z q c) : Z.testBit q = true := by
  obtain ⟨l, h1, h2, h4, h5⟩ := h
  by_cases hl : l = []
  · subst hl; rw [← h4]; exact h0
  · rw [← h4]; exact ((h2 _).mp (lst_mem l 0 hl)).1
def GP (D : Nat → Nat → Nat) (X a Y k v : Nat) : Prop := v ≤ 1000000 ∧ (v < 1000000 → v ≤ 5120 * pop Y ∧ P0 D Y k v) ∧ (Y = 1 → k = 0 → v = 0) ∧ ∀ q c', k ≠ 0 → Y.testBit k = true → P0 D (Y ^^^ 2 ^ k) q c' → (Y ^^^ 2 ^ k < X ∨ (Y ^^^ 2 ^ k = X ∧ q < a)) → c' + D q k < 100000 → v ≤ c' + D q k
theorem GP_fin {D : Nat → Nat → Nat} {X a Y k v : Nat} (hY : Y < 256) (h0 : Y.testBit 0 = true) (hYX : Y ≤ X) (h : GP D X a Y k v) {c : Nat} (hp : P0 D Y k c) (hc : c < 100000) : v ≤ c := by
  rcases P0_pred h0 hp with ⟨e1, e2, e3⟩ | ⟨hk, k0, q, c', hq, -, -, e⟩
  · rw [h.2.2.1 e1 e2]; exact Nat.zero_le _
  · have := (x_fact Y hY k (x_lt8 hY hk) hk).1
    rw [e]
    exact h.2.2.2 q c' k0 hk hq (Or.inl (by omega)) (by omega)
theorem GP_no {D : Nat → Nat → Nat} {X a Y k v : Nat} (hn : ¬ (Y.testBit k = true ∧ k ≠ 0 ∧ Y ^^^ 2 ^ k = X)) (h : GP D X a Y k v) : GP D X (a + 1) Y k v := by
  refine ⟨h.1, h.2.1, h.2.2.1, fun q c' k0 hk hp hz hc => h.2.2.2 q c' k0 hk hp ?_ hc⟩
  rcases hz with hz | ⟨hz, -⟩
  · exact Or.inl hz
  · exact absurd ⟨hk, k0, hz⟩ hn
theorem GP_skip {D : Nat → Nat → Nat} {X a Y k v so : Nat} (hX : X < 256) (h0 : X.testBit 0 = true) (hs : GP D X a X a so) (hso : ¬ so < 1000000) (h : GP D X a Y k v) : GP D X (a + 1) Y k v := by
  refine ⟨h.1, h.2.1, h.2.2.1, fun q c' k0 hk hp hz hc => ?_⟩
  rcases hz with hz | ⟨hz, hq⟩
  · exact h.2.2.2 q c' k0 hk hp (Or.inl hz) hc
  · by_cases c : q = a
    · subst c
      rw [hz] at hp
      have := GP_fin hX h0 (Nat.le_refl _) hs hp (by omega)
      omega
    · exact h.2.2.2 q c' k0 hk hp (Or.inr ⟨hz, by omega⟩) hc
theorem GP_go {D : Nat → Nat → Nat} {X a Y k v so : Nat} (hX : X < 256) (hY : Y < 256) (h0 : X.testBit 0 = true) (hs : GP D X a X a so) (hso : so < 1000000) (hk : Y.testBit k = true) (k0 : k ≠ 0) (hz : Y ^^^ 2 ^ k = X) (dd : D a k ≤ 5120 ∨ 100000 ≤ D a k) (h : GP D X a Y k v) : GP D X (a + 1) Y k (if so + wK D 1000000 a k < v then so + wK D 1000000 a k else v) := by
  obtain ⟨so1, so2⟩ := hs.2.1 hso
  have k8 := x_lt8 hY hk
  have hpop := (x_fact Y hY k k8 hk).2.1
  rw [hz] at hpop
  refine ⟨?_, fun hv => ?_, fun _ e => absurd e k0, fun q c' _ _ hp hz' hc => ?_⟩
  · have := h.1; split <;> omega
  · by_cases c : so + wK D 1000000 a k < v
    · rw [if_pos c] at hv ⊢
      unfold wK at hv ⊢
      by_cases c2 : D a k < 10000
      · rw [if_pos c2] at hv ⊢
        refine ⟨?_, P0_ext hk k0 (by rw [hz]; exact so2)⟩
        rw [← hpop, Nat.mul_add]; omega
      · rw [if_neg c2] at hv; omega
    · rw [if_neg c] at hv ⊢
      exact h.2.1 hv
  · have old : (Y ^^^ 2 ^ k < X ∨ (Y ^^^ 2 ^ k = X ∧ q < a)) → (if so + wK D 1000000 a k < v then so + wK D 1000000 a k else v) ≤ c' + D q k := by
      intro hz2
      have := h.2.2.2 q c' k0 hk hp hz2 hc
      split <;> omega
    rcases hz' with hz2 | ⟨hz2, hq⟩
    · exact old (Or.inl hz2)
    · by_cases c : q = a
      · subst c
        rw [hz] at hp
        have := GP_fin hX h0 (Nat.le_refl _) hs hp (by omega)
        have hw : wK D 1000000 q k = D q k := by unfold wK; rw [if_pos (by omega)]
        rw [hw]
        split <;> omega
      · exact old (Or.inr ⟨hz2, by omega⟩)
def TI (D : Nat → Nat → Nat) (F : Nat) (S : St) (X a : Nat) (T : St) : Prop := (∀ b, b ≠ 141 → T b = S b) ∧ ∀ Y k, Y.testBit 0 = true → Y < 2 ^ F → k < F → ∃ v, T 141 (Y * 8 + k) = nI v ∧ GP D X a Y k v
theorem C_tgo {V : Vy} {v : Nat} {S T : St} {D : Nat → Nat → Nat} (hC : VC V v S) (hD : ∀ a b, a < vF V → b < vF V → S (v + 5) (a * 8 + b) = nI (wK D 1000000 a b)) (dd : ∀ a b, a < vF V → b < vF V → D a b ≤ 5120 ∨ 100000 ≤ D a b) {X a so : Nat} (hX : X < 2 ^ vF V) (h0 : X.testBit 0 = true) (ha : a < vF V) (hT : TI D (vF V) S X a T) (es : T 141 (X * 8 + a) = nI so) (hs : GP D X a X a so) (hso : so < 1000000) : ok (fX5_goOn v (nI X) (nI a) T) (fun T' => TI D (vF V) S X (a + 1) T') := by
  have hF8 := hC.1.1
  have hv := hC.2.1
  have hp8 : 2 ^ vF V ≤ 256 := (Nat.pow_le_pow_right (by decide) hF8 : 2 ^ vF V ≤ 2 ^ 8)
  have hso5 : so ≤ 40960 := by
    have := (hs.2.1 hso).1
    have := pop_lt X (by omega)
    omega
  unfold fX5_goOn
  rw [rm8, nI_add, rd141 (by omega), es]
  refine ok_for (fun k f U => LX5_goOn_16 k v (nI X) (nI a) (nI so) (nI f) U) _ (fun f U => (∀ b, b ≠ 141 → U b = S b) ∧ ∀ Y k, Y.testBit 0 = true → Y < 2 ^ vF V → k < vF V → ∃ w, U 141 (Y * 8 + k) = nI w ∧ GP D X (if k < f then a + 1 else a) Y k w) (vF V) ?_ ?_ FU 0 T (by omega) (by unfold FU; omega) ⟨hT.1, fun Y k h1 h2 h3 => by rw [if_neg (by omega)]; exact hT.2 Y k h1 h2 h3⟩
  · intro k U hU
    have e0 : U v 0 = nI (vF V) := by rw [hU.1 v (by omega)]; exact hC.2.2.1
    simp (disch := omega) only [LX5_goOn_16, KX5_goOn_16, e0, nI_leE, nI_ltE, nI_eqE, nI_m1, c0a, c0b, c0c, c0d, c0e, c1a, c1b, c1c, c1d, c1e, c2a, c2b, c2c, c2d, c2e, c3a, c3b, c3c, c3d, c3e, c4a, c4b, c4c, c4d, c4e, c5a, c5b, c5c, c5d, c5e, c6a, c6b, c6c, c6d, c6e, c7a, c7b, c7c, c7d, c7e, c8a, c8b, c8c, c8d, c8e, c9a, c9b, c9c, c9d, c9e, c10a, c10b, c10c, c10d, c10e, c12a, c12b, c12c, c12d, c12e, c14a, c14b, c14c, c14d, c14e, c16a, c16b, c16c, c16d, c16e, c20a, c20b, c20c, c20d, c20e, c30a, c30b, c30c, c30d, c30e, c32a, c32b, c32c, c32d, c32e, c36a, c36b, c36c, c36d, c36e, c40a, c40b, c40c, c40d, c40e, c41a, c41b, c41c, c41d, c41e, c42a, c42b, c42c, c42d, c42e, c43a, c43b, c43c, c43d, c43e, c45a, c45b, c45c, c45d, c45e, c47a, c47b, c47c, c47d, c47e, c48a, c48b, c48c, c48d, c48e, c57a, c57b, c57c, c57d, c57e, c59a, c59b, c59c, c59d, c59e, c60a, c60b, c60c, c60d, c60e, c61a, c61b, c61c, c61d, c61e, c62a, c62b, c62c, c62d, c62e, c64a, c64b, c64c, c64d, c64e, c96a, c96b, c96c, c96d, c96e, c97a, c97b, c97c, c97d, c97e, c98a, c98b, c98c, c98d, c98e, c99a, c99b, c99c, c99d, c99e, c100a, c100b, c100c, c100d, c100e, c122a, c122b, c122c, c122d, c122e, c700a, c700b, c700c, c700d, c700e, c4240a, c4240b, c4240c, c4240d, c4240e, c9999a, c9999b, c9999c, c9999d, c9999e, c100000a, c100000b, c100000c, c100000d, c100000e, c1000000a, c1000000b, c1000000c, c1000000d, c1000000e, if_T]
    refine ok_some ⟨hU.1, fun Y k h1 h2 h3 => ?_⟩
    obtain ⟨w, w1, w2⟩ := hU.2 Y k h1 h2 h3
    rw [if_pos h3] at w2
    exact ⟨w, w1, w2⟩
  · intro k f U hf hU ih
    obtain ⟨u1, u2⟩ := hU
    have e0 : U v 0 = nI (vF V) := by rw [u1 v (by omega)]; exact hC.2.2.1
    have e5 : U (v + 5) (a * 8 + f) = nI (wK D 1000000 a f) := by rw [u1 (v + 5) (by omega)]; exact hD a f ha hf
    have hbit : ((nI X >>> (nI f &&& 31)) &&& 1) = 0 ↔ X.testBit f = false := by rw [bit_iff, bit_N X (by omega) f (by omega)]
    have step : ∀ U', (∀ b, b ≠ 141 → U' b = S b) → (∀ Y k, Y.testBit 0 = true → Y < 2 ^ vF V → k < vF V → k ≠ f → U' 141 (Y * 8 + k) = U 141 (Y * 8 + k)) → (∀ Y, Y.testBit 0 = true → Y < 2 ^ vF V → ∃ w, U' 141 (Y * 8 + f) = nI w ∧ GP D X (a + 1) Y f w) → ok (LX5_goOn_16 k v (nI X) (nI a) (nI so) (nI (f + 1)) U') (fun T' => TI D (vF V) S X (a + 1) T') := by
      intro U' c1 c2 c3
      refine ih U' ⟨c1, fun Y k h1 h2 h3 => ?_⟩
      by_cases c : k = f
      · subst c
        rw [if_pos (by omega)]
        exact c3 Y h1 h2
      · obtain ⟨w, w1, w2⟩ := u2 Y k h1 h2 h3
        refine ⟨w, by rw [c2 Y k h1 h2 h3 c]; exact w1, ?_⟩
        by_cases d : k < f
        · rw [if_pos (by omega)]; rw [if_pos d] at w2; exact w2
        · rw [if_neg (by omega)]; rw [if_neg d] at w2; exact w2
    cases hx : X.testBit f with
    | true =>
      have nb : ¬ ((nI X >>> (nI f &&& 31)) &&& 1) = 0 := by rw [hbit, hx]; decide
      simp (disch := omega) only [LX5_goOn_16, KX5_goOn_16, e0, nI_leE, nI_ltE, nI_eqE, nI_m1, c0a, c0b, c0c, c0d, c0e, c1a, c1b, c1c, c1d, c1e, c2a, c2b, c2c, c2d, c2e, c3a, c3b, c3c, c3d, c3e, c4a, c4b, c4c, c4d, c4e, c5a, c5b, c5c, c5d, c5e, c6a, c6b, c6c, c6d, c6e, c7a, c7b, c7c, c7d, c7e, c8a, c8b, c8c, c8d, c8e, c9a, c9b, c9c, c9d, c9e, c10a, c10b, c10c, c10d, c10e, c12a, c12b, c12c, c12d, c12e, c14a, c14b, c14c, c14d, c14e, c16a, c16b, c16c, c16d, c16e, c20a, c20b, c20c, c20d, c20e, c30a, c30b, c30c, c30d, c30e, c32a, c32b, c32c, c32d, c32e, c36a, c36b, c36c, c36d, c36e, c40a, c40b, c40c, c40d, c40e, c41a, c41b, c41c, c41d, c41e, c42a, c42b, c42c, c42d, c42e, c43a, c43b, c43c, c43d, c43e, c45a, c45b, c45c, c45d, c45e, c47a, c47b, c47c, c47d, c47e, c48a, c48b, c48c, c48d, c48e, c57a, c57b, c57c, c57d, c57e, c59a, c59b, c59c, c59d, c59e, c60a, c60b, c60c, c60d, c60e, c61a, c61b, c61c, c61d, c61e, c62a, c62b, c62c, c62d, c62e, c64a, c64b, c64c, c64d, c64e, c96a, c96b, c96c, c96d, c96e, c97a, c97b, c97c, c97d, c97e, c98a, c98b, c98c, c98d, c98e, c99a, c99b, c99c, c99d, c99e, c100a, c100b, c100c, c100d, c100e, c122a, c122b, c122c, c122d, c122e, c700a, c700b, c700c, c700d, c700e, c4240a, c4240b, c4240c, c4240d, c4240e, c9999a, c9999b, c9999c, c9999d, c9999e, c100000a, c100000b, c100000c, c100000d, c100000e, c1000000a, c1000000b, c1000000c, c1000000d, c1000000e, if_F, if_neg nb, BX5_goOn_80, vl_s, ra1]
      refine step U u1 (fun _ _ _ _ _ _ => rfl) (fun Y h1 h2 => ?_)
      obtain ⟨w, w1, w2⟩ := u2 Y f h1 h2 hf
      rw [if_neg (by omega)] at w2
      refine ⟨w, w1, GP_no (fun z => ?_) w2⟩
      have := x_un z.2.2 z.1
      rw [hx] at this; cases this
    | false =>
      have nb : ((nI X >>> (nI f &&& 31)) &&& 1) = 0 := by rw [hbit, hx]
      obtain ⟨o1, o2⟩ := x_or X (by omega) f (by omega) hx
      have f0 : f ≠ 0 := fun z => by rw [z, h0] at hx; cases hx
      have hYl : X ||| 2 ^ f < 2 ^ vF V := or_lt hX (pw_lt hf)
      have hY0 : (X ||| 2 ^ f).testBit 0 = true := by rw [Nat.testBit_or, h0]; rfl
      obtain ⟨w, w1, w2⟩ := u2 (X ||| 2 ^ f) f hY0 hYl hf
      rw [if_neg (by omega)] at w2
      have w9 := w2.1
      have wk9 : wK D 1000000 a f ≤ 1000000 := by unfold wK; split <;> omega
      have esh : ((1 : Int32) <<< (nI f &&& 31)) = nI (2 ^ f) := sh_N f (by omega)
      simp (disch := omega) only [LX5_goOn_16, KX5_goOn_16, e0, nI_leE, nI_ltE, nI_eqE, nI_m1, c0a, c0b, c0c, c0d, c0e, c1a, c1b, c1c, c1d, c1e, c2a, c2b, c2c, c2d, c2e, c3a, c3b, c3c, c3d, c3e, c4a, c4b, c4c, c4d, c4e, c5a, c5b, c5c, c5d, c5e, c6a, c6b, c6c, c6d, c6e, c7a, c7b, c7c, c7d, c7e, c8a, c8b, c8c, c8d, c8e, c9a, c9b, c9c, c9d, c9e, c10a, c10b, c10c, c10d, c10e, c12a, c12b, c12c, c12d, c12e, c14a, c14b, c14c, c14d, c14e, c16a, c16b, c16c, c16d, c16e, c20a, c20b, c20c, c20d, c20e, c30a, c30b, c30c, c30d, c30e, c32a, c32b, c32c, c32d, c32e, c36a, c36b, c36c, c36d, c36e, c40a, c40b, c40c, c40d, c40e, c41a, c41b, c41c, c41d, c41e, c42a, c42b, c42c, c42d, c42e, c43a, c43b, c43c, c43d, c43e, c45a, c45b, c45c, c45d, c45e, c47a, c47b, c47c, c47d, c47e, c48a, c48b, c48c, c48d, c48e, c57a, c57b, c57c, c57d, c57e, c59a, c59b, c59c, c59d, c59e, c60a, c60b, c60c, c60d, c60e, c61a, c61b, c61c, c61d, c61e, c62a, c62b, c62c, c62d, c62e, c64a, c64b, c64c, c64d, c64e, c96a, c96b, c96c, c96d, c96e, c97a, c97b, c97c, c97d, c97e, c98a, c98b, c98c, c98d, c98e, c99a, c99b, c99c, c99d, c99e, c100a, c100b, c100c, c100d, c100e, c122a, c122b, c122c, c122d, c122e, c700a, c700b, c700c, c700d, c700e, c4240a, c4240b, c4240c, c4240d, c4240e, c9999a, c9999b, c9999c, c9999d, c9999e, c100000a, c100000b, c100000c, c100000d, c100000e, c1000000a, c1000000b, c1000000c, c1000000d, c1000000e, if_F, if_pos nb, BX5_goOn_80, vl_s, ra1, esh, or_N, rm8, nI_add, rd141, w1, srv7, hv, rdv5, e5, wr141]
      have hne : ∀ Y k, k < 8 → k ≠ f → ¬ Y * 8 + k = (X ||| 2 ^ f) * 8 + f := fun Y k hk hkf => by omega
      have eif : (if so + wK D 1000000 a f < w then nI (so + wK D 1000000 a f) else nI w) = nI (if so + wK D 1000000 a f < w then so + wK D 1000000 a f else w) := by split <;> rfl
      rw [eif]
      refine step _ (fun b hb => by rw [up_ne hb]; exact u1 b hb) (fun Y k _ _ hk hkf => by rw [up_off (hne Y k (by omega) hkf)]) (fun Y h1 h2 => ?_)
      by_cases c : Y = X ||| 2 ^ f
      · subst c
        rw [up_at]
        exact ⟨_, rfl, GP_go (by omega) (by omega) h0 hs hso o2 f0 o1 (dd a f ha hf) w2⟩
      · obtain ⟨w', w1', w2'⟩ := u2 Y f h1 h2 hf
        rw [if_neg (by omega)] at w2'
        rw [up_off (by omega)]
        exact ⟨w', w1', GP_no (fun z => c (x_eq (by omega) (by omega) z.2.2 z.1)) w2'⟩
def isM (Q : Nat → Prop) (x : Int32) : Prop := (∃ c, c < 100000 ∧ x = nI c ∧ Q c ∧ ∀ c', Q c' → c' < 100000 → c ≤ c') ∨ (x = -1 ∧ ∀ c', Q c' → 100000 ≤ c')
theorem isM_u {Q Q' : Nat → Prop} {x y : Int32} (h1 : ∀ c, Q c → ∃ c', c' ≤ c ∧ Q' c') (h2 : ∀ c, Q' c → ∃ c', c' ≤ c ∧ Q c') (hx : isM Q x) (hy : isM Q' y) : x = y := by
  rcases hx with ⟨c, c9, rfl, qc, mc⟩ | ⟨rfl, nc⟩ <;> rcases hy with ⟨e, e9, rfl, qe, me⟩ | ⟨rfl, ne⟩
  · obtain ⟨c', l1, q1⟩ := h1 c qc
    obtain ⟨e', l2, q2⟩ := h2 e qe
    have := me c' q1 (by omega)
    have := mc e' q2 (by omega)
    rw [show c = e by omega]
  · obtain ⟨c', l1, q1⟩ := h1 c qc
    have := ne c' q1; omega
  · obtain ⟨e', l2, q2⟩ := h2 e qe
    have := nc e' q2; omega
  · rfl
def Qc (D : Nat → Nat → Nat) (F c : Nat) : Prop := ∃ q c', q < F ∧ P0 D (2 ^ F - 1) q c' ∧ c = c' + D q 0
def Qr (D : Nat → Nat → Nat) (F f c : Nat) : Prop := ∃ q c', q < F ∧ PT D f (2 ^ F - 1) q c' ∧ c = c' + D q f
theorem C_tour {V : Vy} {v : Nat} {S : St} {D : Nat → Nat → Nat} (hC : VC V v S) (hD : ∀ a b, a < vF V → b < vF V → S (v + 5) (a * 8 + b) = nI (wK D 1000000 a b)) (dd : ∀ a b, a < vF V → b < vF V → D a b ≤ 5120 ∨ 100000 ≤ D a b) (hF : 0 < vF V) : ok (fX5_tour v S) (fun q => isM (Qc D (vF V)) q.1 ∧ ∀ b, b ≠ 141 → q.2 b = S b) := by
  have hF8 := hC.1.1
  have hv := hC.2.1
  have hp8 : 2 ^ vF V ≤ 256 := (Nat.pow_le_pow_right (by decide) hF8 : 2 ^ vF V ≤ 2 ^ 8)
  have hpF : 2 ^ vF V = 2 * 2 ^ (vF V - 1) := by
    obtain ⟨n, hn⟩ : ∃ n, vF V = n + 1 := ⟨vF V - 1, by omega⟩
    rw [hn, Nat.pow_succ, Nat.add_sub_cancel]; omega
  have hpp : 0 < 2 ^ (vF V - 1) := Nat.two_pow_pos _
  have podd : ∀ i, (2 * i + 1).testBit 0 = true := fun i => by rw [Nat.testBit_zero]; simp
  have oddp : ∀ Y, Y.testBit 0 = true → Y % 2 = 1 := fun Y h => by rw [Nat.testBit_zero] at h; simpa using h
  unfold fX5_tour
  rw [hC.2.2.1, sh_N _ (by omega), vl_s]
  obtain ⟨S1, e1, g1, g2⟩ := C_fill (a := 141) (x := 1000000) (S := S)
  rw [e1, bv_s, show (8 : Int32) = nI 8 from rfl, wr141 (by decide)]
  have hl : ln 141 = 2048 := rfl
  have start : TI D (vF V) S (2 * 0 + 1) 0 (up S1 141 8 0) := by
    refine ⟨fun b hb => by rw [up_ne hb, g2 b hb], fun Y k h1 h2 h3 => ?_⟩
    have low : ∀ q c', k ≠ 0 → Y.testBit k = true → P0 D (Y ^^^ 2 ^ k) q c' → (Y ^^^ 2 ^ k < 2 * 0 + 1 ∨ (Y ^^^ 2 ^ k = 2 * 0 + 1 ∧ q < 0)) → False := by
      intro q c' k0 hk _ hz
      rcases hz with hz | ⟨-, hz⟩
      · have : (Y ^^^ 2 ^ k).testBit 0 = true := by rw [tb_x, h1, decide_eq_false k0]; rfl
        rw [show Y ^^^ 2 ^ k = 0 by omega] at this
        simp at this
      · omega
    by_cases c : Y * 8 + k = 8
    · have y1 : Y = 1 := by omega
      have k0 : k = 0 := by omega
      refine ⟨0, by rw [c, up_at]; rfl, by omega, fun _ => ⟨Nat.zero_le _, [], List.nodup_nil, fun x => ?_, by rw [k0]; rfl, rfl⟩, fun _ _ => rfl, fun q c' a b e f _ => absurd (low q c' a b e f) id⟩
      constructor
      · intro h; cases h
      · rintro ⟨h, hx⟩
        rw [y1, show (1 : Nat) = 2 ^ 0 from rfl, Nat.testBit_two_pow] at h
        exact absurd (of_decide_eq_true h).symm hx
    · refine ⟨1000000, by rw [up_off c, g1 _ (by rw [hl]; omega)]; rfl, Nat.le_refl _, fun h => absurd h (by omega), fun a b => absurd (by omega : Y * 8 + k = 8) c, fun q c' a b e f _ => absurd (low q c' a b e f) id⟩
  refine ok_for (fun k i T => LX5_tour_26 k v (nI (2 ^ vF V)) (nI (2 * i + 1)) T) _ (fun i T => TI D (vF V) S (2 * i + 1) 0 T) (2 ^ (vF V - 1)) ?_ ?_ FU 0 _ (by omega) (by unfold FU; omega) start
  · intro k T hT
    obtain ⟨t1, t2⟩ := hT
    simp (disch := omega) only [LX5_tour_26, KX5_tour_26, nI_leE, nI_ltE, nI_eqE, nI_m1, c0a, c0b, c0c, c0d, c0e, c1a, c1b, c1c, c1d, c1e, c2a, c2b, c2c, c2d, c2e, c3a, c3b, c3c, c3d, c3e, c4a, c4b, c4c, c4d, c4e, c5a, c5b, c5c, c5d, c5e, c6a, c6b, c6c, c6d, c6e, c7a, c7b, c7c, c7d, c7e, c8a, c8b, c8c, c8d, c8e, c9a, c9b, c9c, c9d, c9e, c10a, c10b, c10c, c10d, c10e, c12a, c12b, c12c, c12d, c12e, c14a, c14b, c14c, c14d, c14e, c16a, c16b, c16c, c16d, c16e, c20a, c20b, c20c, c20d, c20e, c30a, c30b, c30c, c30d, c30e, c32a, c32b, c32c, c32d, c32e, c36a, c36b, c36c, c36d, c36e, c40a, c40b, c40c, c40d, c40e, c41a, c41b, c41c, c41d, c41e, c42a, c42b, c42c, c42d, c42e, c43a, c43b, c43c, c43d, c43e, c45a, c45b, c45c, c45d, c45e, c47a, c47b, c47c, c47d, c47e, c48a, c48b, c48c, c48d, c48e, c57a, c57b, c57c, c57d, c57e, c59a, c59b, c59c, c59d, c59e, c60a, c60b, c60c, c60d, c60e, c61a, c61b, c61c, c61d, c61e, c62a, c62b, c62c, c62d, c62e, c64a, c64b, c64c, c64d, c64e, c96a, c96b, c96c, c96d, c96e, c97a, c97b, c97c, c97d, c97e, c98a, c98b, c98c, c98d, c98e, c99a, c99b, c99c, c99d, c99e, c100a, c100b, c100c, c100d, c100e, c122a, c122b, c122c, c122d, c122e, c700a, c700b, c700c, c700d, c700e, c4240a, c4240b, c4240c, c4240d, c4240e, c9999a, c9999b, c9999c, c9999d, c9999e, c100000a, c100000b, c100000c, c100000d, c100000e, c1000000a, c1000000b, c1000000c, c1000000d, c1000000e, if_T]
    have e0 : T v 0 = nI (vF V) := by rw [t1 v (by omega)]; exact hC.2.2.1
    refine ok_for (σ := Int32) (fun k i l => LX5_tour_86 k v (nI (2 ^ vF V)) l (nI i) T) _ (fun i l => ∃ c, l = nI c ∧ c ≤ 1000000 ∧ (c < 1000000 → c < 100000 ∧ Qc D (vF V) c) ∧ ∀ q c', q < i → P0 D (2 ^ vF V - 1) q c' → c' + D q 0 < 100000 → c ≤ c' + D q 0) (vF V) ?_ ?_ FU 0 1000000 (by omega) (by unfold FU; omega) ⟨1000000, rfl, Nat.le_refl _, fun h => absurd h (by omega), fun q c' hq => absurd hq (by omega)⟩
    · intro k l hI
      obtain ⟨c, rfl, c9, hq, hm⟩ := hI
      have fin1 : c < 1000000 → isM (Qc D (vF V)) (nI c) := fun h => Or.inl ⟨c, (hq h).1, rfl, (hq h).2, fun c' ⟨q, c1, h1, h2, h3⟩ h9 => by rw [h3]; exact hm q c1 h1 h2 (by omega)⟩
      have fin2 : ¬ c < 1000000 → isM (Qc D (vF V)) (-1) := fun h => Or.inr ⟨rfl, fun c' ⟨q, c1, h1, h2, h3⟩ => by
        rcases Nat.lt_or_ge c' 100000 with z | z
        · have := hm q c1 h1 h2 (by omega); omega
        · exact z⟩
      simp (disch := omega) only [LX5_tour_86, KX5_tour_86, e0, nI_leE, nI_ltE, nI_eqE, nI_m1, c0a, c0b, c0c, c0d, c0e, c1a, c1b, c1c, c1d, c1e, c2a, c2b, c2c, c2d, c2e, c3a, c3b, c3c, c3d, c3e, c4a, c4b, c4c, c4d, c4e, c5a, c5b, c5c, c5d, c5e, c6a, c6b, c6c, c6d, c6e, c7a, c7b, c7c, c7d, c7e, c8a, c8b, c8c, c8d, c8e, c9a, c9b, c9c, c9d, c9e, c10a, c10b, c10c, c10d, c10e, c12a, c12b, c12c, c12d, c12e, c14a, c14b, c14c, c14d, c14e, c16a, c16b, c16c, c16d, c16e, c20a, c20b, c20c, c20d, c20e, c30a, c30b, c30c, c30d, c30e, c32a, c32b, c32c, c32d, c32e, c36a, c36b, c36c, c36d, c36e, c40a, c40b, c40c, c40d, c40e, c41a, c41b, c41c, c41d, c41e, c42a, c42b, c42c, c42d, c42e, c43a, c43b, c43c, c43d, c43e, c45a, c45b, c45c, c45d, c45e, c47a, c47b, c47c, c47d, c47e, c48a, c48b, c48c, c48d, c48e, c57a, c57b, c57c, c57d, c57e, c59a, c59b, c59c, c59d, c59e, c60a, c60b, c60c, c60d, c60e, c61a, c61b, c61c, c61d, c61e, c62a, c62b, c62c, c62d, c62e, c64a, c64b, c64c, c64d, c64e, c96a, c96b, c96c, c96d, c96e, c97a, c97b, c97c, c97d, c97e, c98a, c98b, c98c, c98d, c98e, c99a, c99b, c99c, c99d, c99e, c100a, c100b, c100c, c100d, c100e, c122a, c122b, c122c, c122d, c122e, c700a, c700b, c700c, c700d, c700e, c4240a, c4240b, c4240c, c4240d, c4240e, c9999a, c9999b, c9999c, c9999d, c9999e, c100000a, c100000b, c100000c, c100000d, c100000e, c1000000a, c1000000b, c1000000c, c1000000d, c1000000e, if_T]
      by_cases h : c < 1000000
      · rw [if_pos h]; exact ok_some ⟨fin1 h, t1⟩
      · rw [if_neg h]; exact ok_some ⟨fin2 h, t1⟩
    · intro k i l hi hI ih
      obtain ⟨c, rfl, c9, hq, hm⟩ := hI
      obtain ⟨w, w1, w2⟩ := t2 (2 ^ vF V - 1) i (by rw [tb_all]; exact hF) (by omega) hi
      have e5 : T (v + 5) (i * 8) = nI (wK D 1000000 i 0) := by rw [t1 (v + 5) (by omega)]; exact hD i 0 hi hF
      have w9 := w2.1
      have wk9 : wK D 1000000 i 0 ≤ 1000000 := by unfold wK; split <;> omega
      have es1 : nI (2 ^ vF V) - 1 = nI (2 ^ vF V - 1) := by rw [show (1 : Int32) = nI 1 from rfl, pk_sub (by omega)]
      simp (disch := omega) only [LX5_tour_86, KX5_tour_86, e0, nI_leE, nI_ltE, nI_eqE, nI_m1, c0a, c0b, c0c, c0d, c0e, c1a, c1b, c1c, c1d, c1e, c2a, c2b, c2c, c2d, c2e, c3a, c3b, c3c, c3d, c3e, c4a, c4b, c4c, c4d, c4e, c5a, c5b, c5c, c5d, c5e, c6a, c6b, c6c, c6d, c6e, c7a, c7b, c7c, c7d, c7e, c8a, c8b, c8c, c8d, c8e, c9a, c9b, c9c, c9d, c9e, c10a, c10b, c10c, c10d, c10e, c12a, c12b, c12c, c12d, c12e, c14a, c14b, c14c, c14d, c14e, c16a, c16b, c16c, c16d, c16e, c20a, c20b, c20c, c20d, c20e, c30a, c30b, c30c, c30d, c30e, c32a, c32b, c32c, c32d, c32e, c36a, c36b, c36c, c36d, c36e, c40a, c40b, c40c, c40d, c40e, c41a, c41b, c41c, c41d, c41e, c42a, c42b, c42c, c42d, c42e, c43a, c43b, c43c, c43d, c43e, c45a, c45b, c45c, c45d, c45e, c47a, c47b, c47c, c47d, c47e, c48a, c48b, c48c, c48d, c48e, c57a, c57b, c57c, c57d, c57e, c59a, c59b, c59c, c59d, c59e, c60a, c60b, c60c, c60d, c60e, c61a, c61b, c61c, c61d, c61e, c62a, c62b, c62c, c62d, c62e, c64a, c64b, c64c, c64d, c64e, c96a, c96b, c96c, c96d, c96e, c97a, c97b, c97c, c97d, c97e, c98a, c98b, c98c, c98d, c98e, c99a, c99b, c99c, c99d, c99e, c100a, c100b, c100c, c100d, c100e, c122a, c122b, c122c, c122d, c122e, c700a, c700b, c700c, c700d, c700e, c4240a, c4240b, c4240c, c4240d, c4240e, c9999a, c9999b, c9999c, c9999d, c9999e, c100000a, c100000b, c100000c, c100000d, c100000e, c1000000a, c1000000b, c1000000c, c1000000d, c1000000e, if_F, es1, rm8, nI_add, rd141, w1, srv7, hv, rdv5, e5, vl_s, ra1]
      have lo : ∀ q c', q < i + 1 → P0 D (2 ^ vF V - 1) q c' → c' + D q 0 < 100000 → (if w + wK D 1000000 i 0 < c then w + wK D 1000000 i 0 else c) ≤ c' + D q 0 := by
        intro q c' hq1 hp h9
        by_cases z : q = i
        · subst z
          have := GP_fin (by omega) (by rw [tb_all]; exact hF) (by omega : 2 ^ vF V - 1 ≤ 2 * 2 ^ (vF V - 1) + 1) w2 hp (by omega)
          have hw : wK D 1000000 q 0 = D q 0 := by unfold wK; rw [if_pos (by have := dd q 0 hi hF; omega)]
          rw [hw]; split <;> omega
        · have := hm q c' (by omega) hp h9
          split <;> omega
      by_cases h : w + wK D 1000000 i 0 < c
      · rw [if_pos h] at lo
        rw [if_pos h]
        refine ih _ ⟨_, rfl, by omega, fun h9 => ?_, lo⟩
        unfold wK at h9 ⊢
        by_cases c2 : D i 0 < 10000
        · rw [if_pos c2] at h9 ⊢
          obtain ⟨b1, b2⟩ := w2.2.1 (by omega)
          have := pop_lt (2 ^ vF V - 1) (by omega)
          have := dd i 0 hi hF
          exact ⟨by omega, i, w, hi, b2, rfl⟩
        · rw [if_neg c2] at h9; omega
      · rw [if_neg h] at lo
        rw [if_neg h]
        exact ih _ ⟨c, rfl, c9, hq, lo⟩
  · intro k i T hi hT ih
    simp (disch := omega) only [LX5_tour_26, KX5_tour_26, nI_leE, nI_ltE, nI_eqE, nI_m1, c0a, c0b, c0c, c0d, c0e, c1a, c1b, c1c, c1d, c1e, c2a, c2b, c2c, c2d, c2e, c3a, c3b, c3c, c3d, c3e, c4a, c4b, c4c, c4d, c4e, c5a, c5b, c5c, c5d, c5e, c6a, c6b, c6c, c6d, c6e, c7a, c7b, c7c, c7d, c7e, c8a, c8b, c8c, c8d, c8e, c9a, c9b, c9c, c9d, c9e, c10a, c10b, c10c, c10d, c10e, c12a, c12b, c12c, c12d, c12e, c14a, c14b, c14c, c14d, c14e, c16a, c16b, c16c, c16d, c16e, c20a, c20b, c20c, c20d, c20e, c30a, c30b, c30c, c30d, c30e, c32a, c32b, c32c, c32d, c32e, c36a, c36b, c36c, c36d, c36e, c40a, c40b, c40c, c40d, c40e, c41a, c41b, c41c, c41d, c41e, c42a, c42b, c42c, c42d, c42e, c43a, c43b, c43c, c43d, c43e, c45a, c45b, c45c, c45d, c45e, c47a, c47b, c47c, c47d, c47e, c48a, c48b, c48c, c48d, c48e, c57a, c57b, c57c, c57d, c57e, c59a, c59b, c59c, c59d, c59e, c60a, c60b, c60c, c60d, c60e, c61a, c61b, c61c, c61d, c61e, c62a, c62b, c62c, c62d, c62e, c64a, c64b, c64c, c64d, c64e, c96a, c96b, c96c, c96d, c96e, c97a, c97b, c97c, c97d, c97e, c98a, c98b, c98c, c98d, c98e, c99a, c99b, c99c, c99d, c99e, c100a, c100b, c100c, c100d, c100e, c122a, c122b, c122c, c122d, c122e, c700a, c700b, c700c, c700d, c700e, c4240a, c4240b, c4240c, c4240d, c4240e, c9999a, c9999b, c9999c, c9999d, c9999e, c100000a, c100000b, c100000c, c100000d, c100000e, c1000000a, c1000000b, c1000000c, c1000000d, c1000000e, if_F]
    have hX : 2 * i + 1 < 2 ^ vF V := by omega
    refine ok_for (fun k2 a T => LX5_tour_34 (LX5_tour_26 k) k2 v (nI (2 ^ vF V)) (nI (2 * i + 1)) (nI a) T) _ (fun a T => TI D (vF V) S (2 * i + 1) a T) (vF V) ?_ ?_ FU 0 T (by omega) (by unfold FU; omega) hT
    · intro k2 U hU
      have e0 : U v 0 = nI (vF V) := by rw [hU.1 v (by omega)]; exact hC.2.2.1
      simp (disch := omega) only [LX5_tour_34, KX5_tour_34, e0, nI_leE, nI_ltE, nI_eqE, nI_m1, c0a, c0b, c0c, c0d, c0e, c1a, c1b, c1c, c1d, c1e, c2a, c2b, c2c, c2d, c2e, c3a, c3b, c3c, c3d, c3e, c4a, c4b, c4c, c4d, c4e, c5a, c5b, c5c, c5d, c5e, c6a, c6b, c6c, c6d, c6e, c7a, c7b, c7c, c7d, c7e, c8a, c8b, c8c, c8d, c8e, c9a, c9b, c9c, c9d, c9e, c10a, c10b, c10c, c10d, c10e, c12a, c12b, c12c, c12d, c12e, c14a, c14b, c14c, c14d, c14e, c16a, c16b, c16c, c16d, c16e, c20a, c20b, c20c, c20d, c20e, c30a, c30b, c30c, c30d, c30e, c32a, c32b, c32c, c32d, c32e, c36a, c36b, c36c, c36d, c36e, c40a, c40b, c40c, c40d, c40e, c41a, c41b, c41c, c41d, c41e, c42a, c42b, c42c, c42d, c42e, c43a, c43b, c43c, c43d, c43e, c45a, c45b, c45c, c45d, c45e, c47a, c47b, c47c, c47d, c47e, c48a, c48b, c48c, c48d, c48e, c57a, c57b, c57c, c57d, c57e, c59a, c59b, c59c, c59d, c59e, c60a, c60b, c60c, c60d, c60e, c61a, c61b, c61c, c61d, c61e, c62a, c62b, c62c, c62d, c62e, c64a, c64b, c64c, c64d, c64e, c96a, c96b, c96c, c96d, c96e, c97a, c97b, c97c, c97d, c97e, c98a, c98b, c98c, c98d, c98e, c99a, c99b, c99c, c99d, c99e, c100a, c100b, c100c, c100d, c100e, c122a, c122b, c122c, c122d, c122e, c700a, c700b, c700c, c700d, c700e, c4240a, c4240b, c4240c, c4240d, c4240e, c9999a, c9999b, c9999c, c9999d, c9999e, c100000a, c100000b, c100000c, c100000d, c100000e, c1000000a, c1000000b, c1000000c, c1000000d, c1000000e, if_T, vl_s, ra2]
      rw [show 2 * i + 1 + 2 = 2 * (i + 1) + 1 by omega]
      refine ih U ⟨hU.1, fun Y k h1 h2 h3 => ?_⟩
      obtain ⟨w, w1, w2, w3, w4, w5⟩ := hU.2 Y k h1 h2 h3
      refine ⟨w, w1, w2, w3, w4, fun q c' k0 hk hp hz hc => ?_⟩
      have z0 : (Y ^^^ 2 ^ k).testBit 0 = true := by rw [tb_x, h1, decide_eq_false k0]; rfl
      have z1 := oddp _ z0
      have zlt := (x_fact Y (by omega) k (by omega) hk).1
      have qF : q < vF V := by
        have hq := P0_end z0 hp
        rcases Nat.lt_or_ge q (vF V) with z | z
        · exact z
        · have : Y ^^^ 2 ^ k < 2 ^ q := Nat.lt_of_lt_of_le (by omega : Y ^^^ 2 ^ k < 2 ^ vF V) (Nat.pow_le_pow_right (by decide) z)
          rw [Nat.testBit_lt_two_pow this] at hq; cases hq
      refine w5 q c' k0 hk hp ?_ hc
      rcases hz with hz | ⟨-, hz⟩
      · by_cases z : Y ^^^ 2 ^ k = 2 * i + 1
        · exact Or.inr ⟨z, qF⟩
        · exact Or.inl (by omega)
      · omega
    · intro k2 a U ha hU ih2
      have e0 : U v 0 = nI (vF V) := by rw [hU.1 v (by omega)]; exact hC.2.2.1
      obtain ⟨so, s1, s2⟩ := hU.2 (2 * i + 1) a (podd i) hX ha
      have so9 := s2.1
      simp (disch := omega) only [LX5_tour_34, KX5_tour_34, e0, nI_leE, nI_ltE, nI_eqE, nI_m1, c0a, c0b, c0c, c0d, c0e, c1a, c1b, c1c, c1d, c1e, c2a, c2b, c2c, c2d, c2e, c3a, c3b, c3c, c3d, c3e, c4a, c4b, c4c, c4d, c4e, c5a, c5b, c5c, c5d, c5e, c6a, c6b, c6c, c6d, c6e, c7a, c7b, c7c, c7d, c7e, c8a, c8b, c8c, c8d, c8e, c9a, c9b, c9c, c9d, c9e, c10a, c10b, c10c, c10d, c10e, c12a, c12b, c12c, c12d, c12e, c14a, c14b, c14c, c14d, c14e, c16a, c16b, c16c, c16d, c16e, c20a, c20b, c20c, c20d, c20e, c30a, c30b, c30c, c30d, c30e, c32a, c32b, c32c, c32d, c32e, c36a, c36b, c36c, c36d, c36e, c40a, c40b, c40c, c40d, c40e, c41a, c41b, c41c, c41d, c41e, c42a, c42b, c42c, c42d, c42e, c43a, c43b, c43c, c43d, c43e, c45a, c45b, c45c, c45d, c45e, c47a, c47b, c47c, c47d, c47e, c48a, c48b, c48c, c48d, c48e, c57a, c57b, c57c, c57d, c57e, c59a, c59b, c59c, c59d, c59e, c60a, c60b, c60c, c60d, c60e, c61a, c61b, c61c, c61d, c61e, c62a, c62b, c62c, c62d, c62e, c64a, c64b, c64c, c64d, c64e, c96a, c96b, c96c, c96d, c96e, c97a, c97b, c97c, c97d, c97e, c98a, c98b, c98c, c98d, c98e, c99a, c99b, c99c, c99d, c99e, c100a, c100b, c100c, c100d, c100e, c122a, c122b, c122c, c122d, c122e, c700a, c700b, c700c, c700d, c700e, c4240a, c4240b, c4240c, c4240d, c4240e, c9999a, c9999b, c9999c, c9999d, c9999e, c100000a, c100000b, c100000c, c100000d, c100000e, c1000000a, c1000000b, c1000000c, c1000000d, c1000000e, if_F, rm8, nI_add, rd141, s1, BX5_tour_68, vl_s, ra1]
      by_cases c : so < 1000000
      · rw [if_neg (by omega)]
        obtain ⟨U2, e2, g⟩ := C_tgo hC hD dd hX (podd i) ha hU s1 s2 c
        rw [e2, bv_s]
        exact ih2 U2 g
      · rw [if_pos (by omega)]
        refine ih2 U ⟨hU.1, fun Y k h1 h2 h3 => ?_⟩
        obtain ⟨w, w1, w2⟩ := hU.2 Y k h1 h2 h3
        exact ⟨w, w1, GP_skip (by omega) (podd i) s2 c w2⟩
