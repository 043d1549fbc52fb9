/-! where to listen next: unlike ones, counted -/
def p9 (k : Nat) : Nat := pop k + k / 256
theorem p9_or : ∀ k, k < 512 → ∀ b, b < 9 → p9 (k ||| 2 ^ b) = p9 k + if k.testBit b then 0 else 1 := by decide +kernel
theorem p9_le : ∀ k, k < 512 → p9 k ≤ 9 := by decide +kernel
theorem bc_9 {k : Nat} (h : k < 512) (S : St) : fJ6_bitCount_0f7a4 (nI k) S = some (nI (p9 k), S) := by rw [bc_s, bcE_N k h]; rfl
def oN (h : Nat → Nat) (k : Nat) : Nat → Nat
  | 0 => k
  | n + 1 => oN h k n ||| h n
theorem oN_shift {h : Nat → Nat} {k : Nat} : ∀ n, oN h k (n + 1) = oN (fun i => h (i + 1)) (k ||| h 0) n := by
  intro n
  induction n with
  | zero => rfl
  | succ n ih => show oN h k (n + 1) ||| h (n + 1) = _; rw [ih]; rfl
theorem oN_fold {e : Nat → Nat} : ∀ (L : List Nat) (k : Nat), L.foldl (fun k c => k ||| e c) k = oN (fun i => e (L.getD i 0)) k L.length := by
  intro L
  induction L with
  | nil => intro k; rfl
  | cons c L ih =>
    intro k
    show L.foldl (fun k c => k ||| e c) (k ||| e c) = oN (fun i => e ((c :: L).getD i 0)) k (L.length + 1)
    rw [ih, oN_shift]; rfl
theorem oN_lt {e : Nat → Nat} (he : ∀ i, e i < 9) : ∀ n, oN (fun i => 2 ^ e i) 0 n < 512 := by
  intro n
  induction n with
  | zero => show (0 : Nat) < 512; decide
  | succ n ih => exact or_lt (n := 9) ih (pw_lt (F := 9) (he n))
theorem oN_test {e : Nat → Nat} {b : Nat} : ∀ n, (oN (fun i => 2 ^ e i) 0 n).testBit b = !(allB (fun i => !(decide (e i = b))) n) := by
  intro n
  induction n with
  | zero => simp [oN, allB]
  | succ n ih =>
    show (oN (fun i => 2 ^ e i) 0 n ||| 2 ^ e n).testBit b = !(allB (fun i => !(decide (e i = b))) n && !(decide (e n = b)))
    rw [Nat.testBit_or, ih, Nat.testBit_two_pow]
    cases allB (fun i => !(decide (e i = b))) n <;> cases decide (e n = b) <;> rfl
theorem oN_cnt {e : Nat → Nat} (he : ∀ i, e i < 9) : ∀ n, p9 (oN (fun i => 2 ^ e i) 0 n) = cnt (fun a => allB (fun b => !(decide (e b = e a))) a) n := by
  intro n
  induction n with
  | zero => show p9 0 = 0; decide
  | succ n ih =>
    show p9 (oN (fun i => 2 ^ e i) 0 n ||| 2 ^ e n) = cnt _ n + if allB (fun b => !(decide (e b = e n))) n then 1 else 0
    rw [p9_or _ (oN_lt he n) _ (he n), ih, oN_test]
    cases allB (fun i => !(decide (e i = e n))) n <;> rfl
theorem allB_mono {p : Nat → Bool} {b : Nat} : ∀ a, b ≤ a → allB p b = false → allB p a = false := by
  intro a
  induction a with
  | zero => intro h q; rw [show b = 0 by omega] at q; exact q
  | succ a ih =>
    intro h q
    by_cases c : b = a + 1
    · subst c; exact q
    · show (allB p a && p a) = false
      rw [ih (by omega) q]; rfl
/-- the first of the most -/
def selN (c : Nat → Nat) : Nat → Int32 × Nat
  | 0 => (-1, 0)
  | f + 1 => if (selN c f).2 < c f then (nI f, c f) else selN c f
theorem selN_congr {c c' : Nat → Nat} : ∀ n, (∀ f, f < n → c f = c' f) → selN c n = selN c' n := by
  intro n
  induction n with
  | zero => intro _; rfl
  | succ n ih =>
    intro h
    show (if (selN c n).2 < c n then (nI n, c n) else selN c n) = (if (selN c' n).2 < c' n then (nI n, c' n) else selN c' n)
    rw [ih (fun f hf => h f (by omega)), h n (by omega)]
theorem selN_le {c : Nat → Nat} {b : Nat} (h : ∀ f, c f ≤ b) : ∀ n, (selN c n).2 ≤ b := by
  intro n
  induction n with
  | zero => exact Nat.zero_le _
  | succ n ih =>
    show (if (selN c n).2 < c n then (nI n, c n) else selN c n).2 ≤ b
    split
    · exact h n
    · exact ih
theorem selN_0 {c : Nat → Nat} : ∀ n, (∀ f, f < n → c f = 0) → selN c n = (-1, 0) := by
  intro n
  induction n with
  | zero => intro _; rfl
  | succ n ih =>
    intro h
    show (if (selN c n).2 < c n then (nI n, c n) else selN c n) = _
    rw [h n (by omega), if_neg (Nat.not_lt_zero _)]
    exact ih (fun f hf => h f (by omega))
theorem selN_b {c : Nat → Nat} (hp : ∀ f, 0 < c f) : ∀ n, 0 < n → ∃ b, b < n ∧ (selN c n).1 = nI b ∧ (selN c n).2 = c b := by
  intro n
  induction n with
  | zero => intro h; omega
  | succ n ih =>
    intro _
    have e : selN c (n + 1) = if (selN c n).2 < c n then (nI n, c n) else selN c n := rfl
    by_cases q : (selN c n).2 < c n
    · rw [if_pos q] at e
      exact ⟨n, by omega, by rw [e], by rw [e]⟩
    · rw [if_neg q] at e
      by_cases z : n = 0
      · subst z; exact absurd (hp 0) q
      · obtain ⟨b, hb, h1, h2⟩ := ih (by omega)
        exact ⟨b, by omega, by rw [e, h1], by rw [e, h2]⟩
/-- of a field: how many unlike ones -/
def unl (V : Vy) (r : Rw) (L : List Nat) (f : Nat) : Nat := p9 (orL9 V r f L)
theorem orL9_oN {V : Vy} {r : Rw} {f : Nat} {L : List Nat} : orL9 V r f L = oN (fun i => 2 ^ lsX V (rwC r (L.getD i 0)) f) 0 L.length := oN_fold (e := fun c => 2 ^ lsX V (rwC r c) f) L 0
theorem unl_cnt {V : Vy} {r : Rw} {L : List Nat} {f : Nat} : unl V r L f = cnt (fun a => allB (fun b => !(decide (lsI V (rwC r (L.getD b 0)) f = lsI V (rwC r (L.getD a 0)) f))) a) L.length := by
  unfold unl
  rw [orL9_oN, oN_cnt (e := fun i => lsX V (rwC r (L.getD i 0)) f) (fun i => by have := (lsX_is (V := V) (r := rwC r (L.getD i 0)) (f := f)).1; omega)]
  refine cnt_congr _ (fun a _ => allB_congr _ (fun b _ => ?_))
  have : (lsX V (rwC r (L.getD b 0)) f = lsX V (rwC r (L.getD a 0)) f) = (lsI V (rwC r (L.getD b 0)) f = lsI V (rwC r (L.getD a 0)) f) := propext ⟨fun h => (lsX_is (V := V) (r := rwC r (L.getD b 0)) (f := f)).2.2 _ h, fun h => by unfold lsX; rw [h]⟩
  simp only [this]
theorem unl_lt {V : Vy} {r : Rw} {L : List Nat} {f : Nat} : orL9 V r f L < 512 := orL9_lt L 0 (by decide)
theorem unl_le {V : Vy} {r : Rw} {L : List Nat} {f : Nat} : unl V r L f ≤ 9 := p9_le _ unl_lt
theorem cnt_pos {p : Nat → Bool} (h : p 0 = true) : ∀ n, 0 < n → 0 < cnt p n := by
  intro n
  induction n with
  | zero => intro h; omega
  | succ n ih =>
    intro _
    show 0 < cnt p n + if p n then 1 else 0
    by_cases z : n = 0
    · subst z; rw [h, if_pos rfl]; omega
    · have := ih (by omega); omega
theorem unl_pos {V : Vy} {r : Rw} {L : List Nat} {f : Nat} (h : L.length ≠ 0) : 0 < unl V r L f := by
  rw [unl_cnt]
  exact cnt_pos rfl _ (by omega)
theorem C_unlike {V : Vy} {S T : St} {L : List Nat} (hF8 : vF V ≤ 8) (hx : Ex V S L T) (hl : L.length ≤ 288) : fX1_mostUnlike T = some ((selN (unl V (S 37) L) (vF V)).1, T) := by
  obtain ⟨x1, x2, x3, x4, x5⟩ := hx
  have : ok (fX1_mostUnlike T) (fun q => q = ((selN (unl V (S 37) L) (vF V)).1, T)) := by
    unfold fX1_mostUnlike
    by_cases cl : L.length = 0
    · have u0 : ∀ f, f < vF V → unl V (S 37) L f = 0 := fun f _ => by rw [unl_cnt, cl]; rfl
      rw [FU_s]
      show ok (KX1_mostUnlike_4 (LX1_mostUnlike_4 4999) (-1) 0 T) _
      unfold KX1_mostUnlike_4
      rw [selN_0 _ u0, x1, cl]
      split
      · exact ok_some rfl
      · rw [if_pos (by decide)]; exact ok_some rfl
    · have hp : ∀ f, 0 < unl V (S 37) L f := fun f => unl_pos cl
      refine ok_for (σ := Int32) (fun k f l => LX1_mostUnlike_4 k l (nI f) T) _ (fun f l => l = (selN (unl V (S 37) L) f).1) (vF V) ?_ ?_ FU 0 (-1) (by omega) (by unfold FU; omega) rfl
      · intro k l hI
        simp (disch := omega) only [LX1_mostUnlike_4, KX1_mostUnlike_4, x3, nI_leE, nI_ltE, nI_eqE, nI_m1, c0a, c0b, c0c, c0d, c0e, c1a, c1b, c1c, c1d, c1e, c2a, c2b, c2c, c2d, c2e, c3a, c3b, c3c, c3d, c3e, c4a, c4b, c4c, c4d, c4e, c5a, c5b, c5c, c5d, c5e, c6a, c6b, c6c, c6d, c6e, c7a, c7b, c7c, c7d, c7e, c8a, c8b, c8c, c8d, c8e, c9a, c9b, c9c, c9d, c9e, c10a, c10b, c10c, c10d, c10e, c12a, c12b, c12c, c12d, c12e, c14a, c14b, c14c, c14d, c14e, c16a, c16b, c16c, c16d, c16e, c20a, c20b, c20c, c20d, c20e, c30a, c30b, c30c, c30d, c30e, c32a, c32b, c32c, c32d, c32e, c36a, c36b, c36c, c36d, c36e, c40a, c40b, c40c, c40d, c40e, c41a, c41b, c41c, c41d, c41e, c42a, c42b, c42c, c42d, c42e, c43a, c43b, c43c, c43d, c43e, c45a, c45b, c45c, c45d, c45e, c47a, c47b, c47c, c47d, c47e, c48a, c48b, c48c, c48d, c48e, c57a, c57b, c57c, c57d, c57e, c59a, c59b, c59c, c59d, c59e, c60a, c60b, c60c, c60d, c60e, c61a, c61b, c61c, c61d, c61e, c62a, c62b, c62c, c62d, c62e, c64a, c64b, c64c, c64d, c64e, c96a, c96b, c96c, c96d, c96e, c97a, c97b, c97c, c97d, c97e, c98a, c98b, c98c, c98d, c98e, c99a, c99b, c99c, c99d, c99e, c100a, c100b, c100c, c100d, c100e, c122a, c122b, c122c, c122d, c122e, c700a, c700b, c700c, c700d, c700e, c4240a, c4240b, c4240c, c4240d, c4240e, c9999a, c9999b, c9999c, c9999d, c9999e, c100000a, c100000b, c100000c, c100000d, c100000e, c1000000a, c1000000b, c1000000c, c1000000d, c1000000e, if_T, ri_s]
        exact ok_some (by rw [hI])
      · intro k f l hf hI ih
        subst hI
        have e : selN (unl V (S 37) L) (f + 1) = if (selN (unl V (S 37) L) f).2 < unl V (S 37) L f then (nI f, unl V (S 37) L f) else selN (unl V (S 37) L) f := rfl
        have lp : ¬ nI L.length ≤ 0 := by rw [show (0 : Int32) = nI 0 from rfl, nI_leI (by omega) (by omega)]; omega
        show ok (KX1_mostUnlike_4 (LX1_mostUnlike_4 k) (selN (unl V (S 37) L) f).1 (nI f) T) _
        unfold KX1_mostUnlike_4 BX1_mostUnlike_45 BX1_mostUnlike_47
        rw [x3, if_neg (by rw [nI_leI (by omega) (by omega)]; omega), x1, if_neg lp]
        by_cases z : f = 0
        · subst z
          rw [if_pos (show (selN (unl V (S 37) L) 0).1 = -1 from rfl), vl_s, nI_1]
          refine ih _ ?_
          rw [e, if_pos (show (selN (unl V (S 37) L) 0).2 < _ from hp 0)]
        · obtain ⟨b, hb, h1, h2⟩ := selN_b hp f (by omega)
          have l1 := unl_le (V := V) (r := S 37) (L := L) (f := f)
          have l2 := unl_le (V := V) (r := S 37) (L := L) (f := b)
          rw [h1, if_neg (nI_ne_m1 (by omega)), rd138 (by omega), x4 f hf, bc_9 unl_lt, bd_s, rd138 (by omega), x4 b (by omega), bc_9 unl_lt, bd_s, vl_s, nI_1]
          by_cases q : unl V (S 37) L b < unl V (S 37) L f
          · rw [if_neg (by rw [nI_leI (by show unl V (S 37) L f < _; omega) (by show unl V (S 37) L b < _; omega)]; show ¬ unl V (S 37) L f ≤ unl V (S 37) L b; omega)]
            refine ih _ ?_
            rw [e, h2, if_pos q]
          · rw [if_pos (by rw [nI_leI (by show unl V (S 37) L f < _; omega) (by show unl V (S 37) L b < _; omega)]; show unl V (S 37) L f ≤ unl V (S 37) L b; omega)]
            refine ih _ ?_
            rw [e, h2, if_neg q, h1]
  obtain ⟨b, e, q⟩ := this
  rw [e, q]
/-! the reference -/
theorem M_unlike {T : St} {n f : Nat} {x : Nat → Int32} (hn : n ≤ 288) (hf : f < 8) (e55 : T 142 55 = nI n) (hx : ∀ a, a < n → T 179 (8 * a + f) = x a) : fX10_unlike (nI f) T = some (nI (cnt (fun a => allB (fun b => !(decide (x b = x a))) a) n), T) := by
  have cle : ∀ (p : Nat → Bool) n, cnt p n ≤ n := by
    intro p n
    induction n with
    | zero => exact Nat.le_refl _
    | succ n ih => show cnt p n + (if p n then 1 else 0) ≤ n + 1; split <;> omega
  have : ok (fX10_unlike (nI f) T) (fun q => q = (nI (cnt (fun a => allB (fun b => !(decide (x b = x a))) a) n), T)) := by
    unfold fX10_unlike
    refine ok_for (σ := Int32) (fun k a y => LX10_unlike_4 k (nI f) y (nI a) T) _ (fun a y => y = nI (cnt (fun a => allB (fun b => !(decide (x b = x a))) a) a)) n ?_ ?_ FU 0 0 (by omega) (by unfold FU; omega) rfl
    · intro k y hy
      simp (disch := omega) only [LX10_unlike_4, KX10_unlike_4, e55, nI_leE, nI_ltE, nI_eqE, nI_m1, c0a, c0b, c0c, c0d, c0e, c1a, c1b, c1c, c1d, c1e, c2a, c2b, c2c, c2d, c2e, c3a, c3b, c3c, c3d, c3e, c4a, c4b, c4c, c4d, c4e, c5a, c5b, c5c, c5d, c5e, c6a, c6b, c6c, c6d, c6e, c7a, c7b, c7c, c7d, c7e, c8a, c8b, c8c, c8d, c8e, c9a, c9b, c9c, c9d, c9e, c10a, c10b, c10c, c10d, c10e, c12a, c12b, c12c, c12d, c12e, c14a, c14b, c14c, c14d, c14e, c16a, c16b, c16c, c16d, c16e, c20a, c20b, c20c, c20d, c20e, c30a, c30b, c30c, c30d, c30e, c32a, c32b, c32c, c32d, c32e, c36a, c36b, c36c, c36d, c36e, c40a, c40b, c40c, c40d, c40e, c41a, c41b, c41c, c41d, c41e, c42a, c42b, c42c, c42d, c42e, c43a, c43b, c43c, c43d, c43e, c45a, c45b, c45c, c45d, c45e, c47a, c47b, c47c, c47d, c47e, c48a, c48b, c48c, c48d, c48e, c57a, c57b, c57c, c57d, c57e, c59a, c59b, c59c, c59d, c59e, c60a, c60b, c60c, c60d, c60e, c61a, c61b, c61c, c61d, c61e, c62a, c62b, c62c, c62d, c62e, c64a, c64b, c64c, c64d, c64e, c96a, c96b, c96c, c96d, c96e, c97a, c97b, c97c, c97d, c97e, c98a, c98b, c98c, c98d, c98e, c99a, c99b, c99c, c99d, c99e, c100a, c100b, c100c, c100d, c100e, c122a, c122b, c122c, c122d, c122e, c700a, c700b, c700c, c700d, c700e, c4240a, c4240b, c4240c, c4240d, c4240e, c9999a, c9999b, c9999c, c9999d, c9999e, c100000a, c100000b, c100000c, c100000d, c100000e, c1000000a, c1000000b, c1000000c, c1000000d, c1000000e, if_T, ri_s]
      exact ok_some (by rw [hy])
    · intro k a y ha hy ih
      subst hy
      simp (disch := omega) only [LX10_unlike_4, KX10_unlike_4, e55, nI_leE, nI_ltE, nI_eqE, nI_m1, c0a, c0b, c0c, c0d, c0e, c1a, c1b, c1c, c1d, c1e, c2a, c2b, c2c, c2d, c2e, c3a, c3b, c3c, c3d, c3e, c4a, c4b, c4c, c4d, c4e, c5a, c5b, c5c, c5d, c5e, c6a, c6b, c6c, c6d, c6e, c7a, c7b, c7c, c7d, c7e, c8a, c8b, c8c, c8d, c8e, c9a, c9b, c9c, c9d, c9e, c10a, c10b, c10c, c10d, c10e, c12a, c12b, c12c, c12d, c12e, c14a, c14b, c14c, c14d, c14e, c16a, c16b, c16c, c16d, c16e, c20a, c20b, c20c, c20d, c20e, c30a, c30b, c30c, c30d, c30e, c32a, c32b, c32c, c32d, c32e, c36a, c36b, c36c, c36d, c36e, c40a, c40b, c40c, c40d, c40e, c41a, c41b, c41c, c41d, c41e, c42a, c42b, c42c, c42d, c42e, c43a, c43b, c43c, c43d, c43e, c45a, c45b, c45c, c45d, c45e, c47a, c47b, c47c, c47d, c47e, c48a, c48b, c48c, c48d, c48e, c57a, c57b, c57c, c57d, c57e, c59a, c59b, c59c, c59d, c59e, c60a, c60b, c60c, c60d, c60e, c61a, c61b, c61c, c61d, c61e, c62a, c62b, c62c, c62d, c62e, c64a, c64b, c64c, c64d, c64e, c96a, c96b, c96c, c96d, c96e, c97a, c97b, c97c, c97d, c97e, c98a, c98b, c98c, c98d, c98e, c99a, c99b, c99c, c99d, c99e, c100a, c100b, c100c, c100d, c100e, c122a, c122b, c122c, c122d, c122e, c700a, c700b, c700c, c700d, c700e, c4240a, c4240b, c4240c, c4240d, c4240e, c9999a, c9999b, c9999c, c9999d, c9999e, c100000a, c100000b, c100000c, c100000d, c100000e, c1000000a, c1000000b, c1000000c, c1000000d, c1000000e, if_F]
      have nxt : ∀ b : Bool, allB (fun b => !(decide (x b = x a))) a = b → ok (BX10_unlike_68 (LX10_unlike_4 k) (nI f) (nI (cnt (fun a => allB (fun b => !(decide (x b = x a))) a) a)) (nI a) (b2i b) T) (fun q => q = (nI (cnt (fun a => allB (fun b => !(decide (x b = x a))) a) n), T)) := by
        intro b hb
        unfold BX10_unlike_68 BX10_unlike_79
        cases b with
        | true =>
          rw [if_neg (show ¬ b2i true = 0 by decide), vl_s, nI_1, vl_s, nI_1]
          refine ih _ ?_
          show _ = nI (cnt _ a + if allB (fun b => !(decide (x b = x a))) a then 1 else 0)
          rw [hb]; rfl
        | false =>
          rw [if_pos (show b2i false = 0 from rfl), vl_s, show (0 : Int32) = nI 0 from rfl, nI_add, vl_s, nI_1]
          refine ih _ ?_
          show _ = nI (cnt _ a + if allB (fun b => !(decide (x b = x a))) a then 1 else 0)
          rw [hb]; rfl
      refine ok_for (σ := Int32) (fun k2 b y => LX10_unlike_18 (LX10_unlike_4 k) k2 (nI f) (nI (cnt (fun a => allB (fun b => !(decide (x b = x a))) a) a)) (nI a) y (nI b) T) _ (fun b y => y = b2i (allB (fun b => !(decide (x b = x a))) b)) a ?_ ?_ FU 0 1 (by omega) (by unfold FU; omega) rfl
      · intro k2 y hy
        subst hy
        simp (disch := omega) only [LX10_unlike_18, KX10_unlike_18, nI_leE, nI_ltE, nI_eqE, nI_m1, c0a, c0b, c0c, c0d, c0e, c1a, c1b, c1c, c1d, c1e, c2a, c2b, c2c, c2d, c2e, c3a, c3b, c3c, c3d, c3e, c4a, c4b, c4c, c4d, c4e, c5a, c5b, c5c, c5d, c5e, c6a, c6b, c6c, c6d, c6e, c7a, c7b, c7c, c7d, c7e, c8a, c8b, c8c, c8d, c8e, c9a, c9b, c9c, c9d, c9e, c10a, c10b, c10c, c10d, c10e, c12a, c12b, c12c, c12d, c12e, c14a, c14b, c14c, c14d, c14e, c16a, c16b, c16c, c16d, c16e, c20a, c20b, c20c, c20d, c20e, c30a, c30b, c30c, c30d, c30e, c32a, c32b, c32c, c32d, c32e, c36a, c36b, c36c, c36d, c36e, c40a, c40b, c40c, c40d, c40e, c41a, c41b, c41c, c41d, c41e, c42a, c42b, c42c, c42d, c42e, c43a, c43b, c43c, c43d, c43e, c45a, c45b, c45c, c45d, c45e, c47a, c47b, c47c, c47d, c47e, c48a, c48b, c48c, c48d, c48e, c57a, c57b, c57c, c57d, c57e, c59a, c59b, c59c, c59d, c59e, c60a, c60b, c60c, c60d, c60e, c61a, c61b, c61c, c61d, c61e, c62a, c62b, c62c, c62d, c62e, c64a, c64b, c64c, c64d, c64e, c96a, c96b, c96c, c96d, c96e, c97a, c97b, c97c, c97d, c97e, c98a, c98b, c98c, c98d, c98e, c99a, c99b, c99c, c99d, c99e, c100a, c100b, c100c, c100d, c100e, c122a, c122b, c122c, c122d, c122e, c700a, c700b, c700c, c700d, c700e, c4240a, c4240b, c4240c, c4240d, c4240e, c9999a, c9999b, c9999c, c9999d, c9999e, c100000a, c100000b, c100000c, c100000d, c100000e, c1000000a, c1000000b, c1000000c, c1000000d, c1000000e, if_T]
        exact nxt _ rfl
      · intro k2 b y hb hy ih2
        subst hy
        simp (disch := omega) only [LX10_unlike_18, KX10_unlike_18, nI_leE, nI_ltE, nI_eqE, nI_m1, c0a, c0b, c0c, c0d, c0e, c1a, c1b, c1c, c1d, c1e, c2a, c2b, c2c, c2d, c2e, c3a, c3b, c3c, c3d, c3e, c4a, c4b, c4c, c4d, c4e, c5a, c5b, c5c, c5d, c5e, c6a, c6b, c6c, c6d, c6e, c7a, c7b, c7c, c7d, c7e, c8a, c8b, c8c, c8d, c8e, c9a, c9b, c9c, c9d, c9e, c10a, c10b, c10c, c10d, c10e, c12a, c12b, c12c, c12d, c12e, c14a, c14b, c14c, c14d, c14e, c16a, c16b, c16c, c16d, c16e, c20a, c20b, c20c, c20d, c20e, c30a, c30b, c30c, c30d, c30e, c32a, c32b, c32c, c32d, c32e, c36a, c36b, c36c, c36d, c36e, c40a, c40b, c40c, c40d, c40e, c41a, c41b, c41c, c41d, c41e, c42a, c42b, c42c, c42d, c42e, c43a, c43b, c43c, c43d, c43e, c45a, c45b, c45c, c45d, c45e, c47a, c47b, c47c, c47d, c47e, c48a, c48b, c48c, c48d, c48e, c57a, c57b, c57c, c57d, c57e, c59a, c59b, c59c, c59d, c59e, c60a, c60b, c60c, c60d, c60e, c61a, c61b, c61c, c61d, c61e, c62a, c62b, c62c, c62d, c62e, c64a, c64b, c64c, c64d, c64e, c96a, c96b, c96c, c96d, c96e, c97a, c97b, c97c, c97d, c97e, c98a, c98b, c98c, c98d, c98e, c99a, c99b, c99c, c99d, c99e, c100a, c100b, c100c, c100d, c100e, c122a, c122b, c122c, c122d, c122e, c700a, c700b, c700c, c700d, c700e, c4240a, c4240b, c4240c, c4240d, c4240e, c9999a, c9999b, c9999c, c9999d, c9999e, c100000a, c100000b, c100000c, c100000d, c100000e, c1000000a, c1000000b, c1000000c, c1000000d, c1000000e, if_F, lm8, nI_add, rd179, hx b (by omega), hx a ha, BX10_unlike_60, vl_s, ra1]
        cases hal : allB (fun b => !(decide (x b = x a))) b with
        | false =>
          rw [if_pos (show b2i false = 0 from rfl)]
          exact nxt false (allB_mono a (by omega) hal)
        | true =>
          rw [if_neg (show ¬ b2i true = 0 by decide)]
          by_cases q : x b = x a
          · rw [if_pos q]
            refine ih2 _ ?_
            show 0 = b2i (allB _ b && !(decide (x b = x a)))
            rw [decide_eq_true q]; simp [b2i]
          · rw [if_neg q]
            refine ih2 _ ?_
            show 1 = b2i (allB _ b && !(decide (x b = x a)))
            rw [decide_eq_false q, hal]; rfl
  obtain ⟨b, e, q⟩ := this
  rw [e, q]
theorem fdF_mem {P : Nat → Bool} {c0 c : Nat} : ∀ f, c ∈ fdF P c0 f → ∃ g, g < f ∧ c = c0 + g := by
  intro f
  induction f with
  | zero => intro h; cases h
  | succ f ih =>
    intro h
    have h' : c ∈ fdF P c0 f ++ (if P (c0 + f) then [c0 + f] else []) := h
    rcases List.mem_append.mp h' with q | q
    · obtain ⟨g, hg, e⟩ := ih q
      exact ⟨g, by omega, e⟩
    · split at q
      · exact ⟨f, by omega, List.mem_singleton.mp q⟩
      · cases q
theorem fdI_mem {P : Nat → Bool} {F s c : Nat} : ∀ i, c ∈ fdI P F s i → ∃ j g, j < i ∧ g < F ∧ c = s * 100 + j * 10 + g := by
  intro i
  induction i with
  | zero => intro h; cases h
  | succ i ih =>
    intro h
    have h' : c ∈ fdI P F s i ++ fdF P (s * 100 + i * 10) F := h
    rcases List.mem_append.mp h' with q | q
    · obtain ⟨j, g, hj, hg, e⟩ := ih q
      exact ⟨j, g, by omega, hg, e⟩
    · obtain ⟨g, hg, e⟩ := fdF_mem F q
      exact ⟨i, g, by omega, hg, e⟩
theorem fdS_mem {P : Nat → Bool} {F c : Nat} {w : Nat → Nat} : ∀ s, c ∈ fdS P F w s → ∃ q j g, q < s ∧ j < w q ∧ g < F ∧ c = q * 100 + j * 10 + g := by
  intro s
  induction s with
  | zero => intro h; cases h
  | succ s ih =>
    intro h
    have h' : c ∈ fdS P F w s ++ fdI P F s (w s) := h
    rcases List.mem_append.mp h' with q | q
    · obtain ⟨a, j, g, ha, hj, hg, e⟩ := ih q
      exact ⟨a, j, g, by omega, hj, hg, e⟩
    · obtain ⟨j, g, hj, hg, e⟩ := fdI_mem (w s) q
      exact ⟨s, j, g, by omega, hj, hg, e⟩
/-- what listening may touch besides -/
def lFr (S S' : St) : Prop := (∀ a, (a < 142 ∨ 168 < a ∨ (142 < a ∧ a < 158) ∨ a = 163 ∨ a = 164) → a ≠ 169 → a ≠ 177 → a ≠ 179 → S' a = S a) ∧ ∀ j, j ≠ 34 → j ≠ 35 → S' 142 j = S 142 j
theorem lFr.rf {S : St} : lFr S S := ⟨fun _ _ _ _ _ => rfl, fun _ _ _ => rfl⟩
set_option maxHeartbeats 6000000 in
theorem M_listen {V : Vy} {S : St} {r : Rw} {L : List Nat} (hM : VM V S) (hr : ROk V 10000 r) (har : ag (mr S) r) (hz : S 142 41 = -1) (hL : L.length ≤ 288) (hLm : ∀ c, c ∈ L → ∃ q j g, q < vS' V ∧ j < vW V q ∧ g < vF V ∧ c = q * 100 + j * 10 + g) (e55 : S 142 55 = nI L.length) (e178 : ∀ j, j < L.length → S 178 j = nI (L.getD j 0)) {w : Nat} (hw : w ≤ 1) : ok (LX10_listen_26 FU (nI w) 0 S) (fun q => q.1 = (if w = 0 then (selN (unl V r L) (vF V)).1 else nI (selN (unl V r L) (vF V)).2) ∧ ag (mr q.2) r ∧ lFr S q.2) := by
  have hV := hM.1
  have hF8 := hV.1
  have hS6 := hV.2.1
  have hW := hV.2.2.1
  refine ok_for (fun k a T => LX10_listen_26 k (nI w) (nI a) T) _ (fun a T => ag (mr T) r ∧ lFr S T ∧ ∀ b f, b < a → f < 8 → T 179 (8 * b + f) = lsI V (rwC r (L.getD b 0)) f) L.length ?_ ?_ FU 0 S (by omega) (by unfold FU; omega) ⟨har, lFr.rf, fun b f hb => absurd hb (by omega)⟩
  · intro k T hI
    obtain ⟨i1, i2, i3⟩ := hI
    have MT : VM V T := hM.go (fun a ha => i2.1 a (by omega) (by omega) (by omega) (by omega))
    have eT : T 142 55 = nI L.length := by rw [i2.2 55 (by decide) (by decide)]; exact e55
    simp (disch := omega) only [LX10_listen_26, KX10_listen_26, eT, nI_leE, nI_ltE, nI_eqE, nI_m1, c0a, c0b, c0c, c0d, c0e, c1a, c1b, c1c, c1d, c1e, c2a, c2b, c2c, c2d, c2e, c3a, c3b, c3c, c3d, c3e, c4a, c4b, c4c, c4d, c4e, c5a, c5b, c5c, c5d, c5e, c6a, c6b, c6c, c6d, c6e, c7a, c7b, c7c, c7d, c7e, c8a, c8b, c8c, c8d, c8e, c9a, c9b, c9c, c9d, c9e, c10a, c10b, c10c, c10d, c10e, c12a, c12b, c12c, c12d, c12e, c14a, c14b, c14c, c14d, c14e, c16a, c16b, c16c, c16d, c16e, c20a, c20b, c20c, c20d, c20e, c30a, c30b, c30c, c30d, c30e, c32a, c32b, c32c, c32d, c32e, c36a, c36b, c36c, c36d, c36e, c40a, c40b, c40c, c40d, c40e, c41a, c41b, c41c, c41d, c41e, c42a, c42b, c42c, c42d, c42e, c43a, c43b, c43c, c43d, c43e, c45a, c45b, c45c, c45d, c45e, c47a, c47b, c47c, c47d, c47e, c48a, c48b, c48c, c48d, c48e, c57a, c57b, c57c, c57d, c57e, c59a, c59b, c59c, c59d, c59e, c60a, c60b, c60c, c60d, c60e, c61a, c61b, c61c, c61d, c61e, c62a, c62b, c62c, c62d, c62e, c64a, c64b, c64c, c64d, c64e, c96a, c96b, c96c, c96d, c96e, c97a, c97b, c97c, c97d, c97e, c98a, c98b, c98c, c98d, c98e, c99a, c99b, c99c, c99d, c99e, c100a, c100b, c100c, c100d, c100e, c122a, c122b, c122c, c122d, c122e, c700a, c700b, c700c, c700d, c700e, c4240a, c4240b, c4240c, c4240d, c4240e, c9999a, c9999b, c9999c, c9999d, c9999e, c100000a, c100000b, c100000c, c100000d, c100000e, c1000000a, c1000000b, c1000000c, c1000000d, c1000000e, if_T]
    refine ok_for (σ := Int32 × Int32) (fun k2 f W => LX10_listen_142 k2 (nI w) W.1 W.2 (nI f) T) _ (fun f W => W.1 = (selN (unl V r L) f).1 ∧ W.2 = nI (selN (unl V r L) f).2) (vF V) ?_ ?_ FU 0 (-1, 0) (by omega) (by unfold FU; omega) ⟨rfl, rfl⟩
    · intro k2 W hW2
      simp (disch := omega) only [LX10_listen_142, KX10_listen_142, rd145_0, MT.2.1, nI_leE, nI_ltE, nI_eqE, nI_m1, c0a, c0b, c0c, c0d, c0e, c1a, c1b, c1c, c1d, c1e, c2a, c2b, c2c, c2d, c2e, c3a, c3b, c3c, c3d, c3e, c4a, c4b, c4c, c4d, c4e, c5a, c5b, c5c, c5d, c5e, c6a, c6b, c6c, c6d, c6e, c7a, c7b, c7c, c7d, c7e, c8a, c8b, c8c, c8d, c8e, c9a, c9b, c9c, c9d, c9e, c10a, c10b, c10c, c10d, c10e, c12a, c12b, c12c, c12d, c12e, c14a, c14b, c14c, c14d, c14e, c16a, c16b, c16c, c16d, c16e, c20a, c20b, c20c, c20d, c20e, c30a, c30b, c30c, c30d, c30e, c32a, c32b, c32c, c32d, c32e, c36a, c36b, c36c, c36d, c36e, c40a, c40b, c40c, c40d, c40e, c41a, c41b, c41c, c41d, c41e, c42a, c42b, c42c, c42d, c42e, c43a, c43b, c43c, c43d, c43e, c45a, c45b, c45c, c45d, c45e, c47a, c47b, c47c, c47d, c47e, c48a, c48b, c48c, c48d, c48e, c57a, c57b, c57c, c57d, c57e, c59a, c59b, c59c, c59d, c59e, c60a, c60b, c60c, c60d, c60e, c61a, c61b, c61c, c61d, c61e, c62a, c62b, c62c, c62d, c62e, c64a, c64b, c64c, c64d, c64e, c96a, c96b, c96c, c96d, c96e, c97a, c97b, c97c, c97d, c97e, c98a, c98b, c98c, c98d, c98e, c99a, c99b, c99c, c99d, c99e, c100a, c100b, c100c, c100d, c100e, c122a, c122b, c122c, c122d, c122e, c700a, c700b, c700c, c700d, c700e, c4240a, c4240b, c4240c, c4240d, c4240e, c9999a, c9999b, c9999c, c9999d, c9999e, c100000a, c100000b, c100000c, c100000d, c100000e, c1000000a, c1000000b, c1000000c, c1000000d, c1000000e, if_T, ri_s, hW2.1, hW2.2]
      by_cases c : w = 0
      · rw [if_pos c]; exact ok_some ⟨(if_pos c).symm, i1, i2⟩
      · rw [if_neg c]; exact ok_some ⟨(if_neg c).symm, i1, i2⟩
    · intro k2 f W hf hW2 ih
      have l1 := unl_le (V := V) (r := r) (L := L) (f := f)
      have l2 := selN_le (c := unl V r L) (b := 9) (fun f => unl_le) f
      have eu : fX10_unlike (nI f) T = some (nI (unl V r L f), T) := by
        rw [M_unlike (n := L.length) (x := fun a => lsI V (rwC r (L.getD a 0)) f) hL (by omega) eT (fun a ha => i3 a f ha (by omega)), unl_cnt]
      have e : selN (unl V r L) (f + 1) = if (selN (unl V r L) f).2 < unl V r L f then (nI f, unl V r L f) else selN (unl V r L) f := rfl
      simp (disch := omega) only [LX10_listen_142, KX10_listen_142, rd145_0, MT.2.1, nI_leE, nI_ltE, nI_eqE, nI_m1, c0a, c0b, c0c, c0d, c0e, c1a, c1b, c1c, c1d, c1e, c2a, c2b, c2c, c2d, c2e, c3a, c3b, c3c, c3d, c3e, c4a, c4b, c4c, c4d, c4e, c5a, c5b, c5c, c5d, c5e, c6a, c6b, c6c, c6d, c6e, c7a, c7b, c7c, c7d, c7e, c8a, c8b, c8c, c8d, c8e, c9a, c9b, c9c, c9d, c9e, c10a, c10b, c10c, c10d, c10e, c12a, c12b, c12c, c12d, c12e, c14a, c14b, c14c, c14d, c14e, c16a, c16b, c16c, c16d, c16e, c20a, c20b, c20c, c20d, c20e, c30a, c30b, c30c, c30d, c30e, c32a, c32b, c32c, c32d, c32e, c36a, c36b, c36c, c36d, c36e, c40a, c40b, c40c, c40d, c40e, c41a, c41b, c41c, c41d, c41e, c42a, c42b, c42c, c42d, c42e, c43a, c43b, c43c, c43d, c43e, c45a, c45b, c45c, c45d, c45e, c47a, c47b, c47c, c47d, c47e, c48a, c48b, c48c, c48d, c48e, c57a, c57b, c57c, c57d, c57e, c59a, c59b, c59c, c59d, c59e, c60a, c60b, c60c, c60d, c60e, c61a, c61b, c61c, c61d, c61e, c62a, c62b, c62c, c62d, c62e, c64a, c64b, c64c, c64d, c64e, c96a, c96b, c96c, c96d, c96e, c97a, c97b, c97c, c97d, c97e, c98a, c98b, c98c, c98d, c98e, c99a, c99b, c99c, c99d, c99e, c100a, c100b, c100c, c100d, c100e, c122a, c122b, c122c, c122d, c122e, c700a, c700b, c700c, c700d, c700e, c4240a, c4240b, c4240c, c4240d, c4240e, c9999a, c9999b, c9999c, c9999d, c9999e, c100000a, c100000b, c100000c, c100000d, c100000e, c1000000a, c1000000b, c1000000c, c1000000d, c1000000e, if_F, eu, bd_s, hW2.1, hW2.2, BX10_listen_176, vl_s, ra1]
      by_cases q : (selN (unl V r L) f).2 < unl V r L f
      · rw [if_pos q] at e
        rw [if_pos q]
        exact ih (nI f, nI (unl V r L f)) ⟨by rw [e], by rw [e]⟩
      · rw [if_neg q] at e
        rw [if_neg q]
        exact ih ((selN (unl V r L) f).1, nI (selN (unl V r L) f).2) ⟨by rw [e], by rw [e]⟩
  · intro k a T ha hI ih
    obtain ⟨i1, i2, i3⟩ := hI
    have MT : VM V T := hM.go (fun a ha => i2.1 a (by omega) (by omega) (by omega) (by omega))
    have eT : T 142 55 = nI L.length := by rw [i2.2 55 (by decide) (by decide)]; exact e55
    have zT : T 142 41 = -1 := by rw [i2.2 41 (by decide) (by decide)]; exact hz
    have e178T : T 178 a = nI (L.getD a 0) := by rw [i2.1 178 (by decide) (by decide) (by decide) (by decide)]; exact e178 a ha
    obtain ⟨q, j, g, hq, hj, hg, ec⟩ := hLm (L.getD a 0) (by rw [List.getD_eq_getElem?_getD, List.getElem?_eq_getElem ha]; exact List.getElem_mem ha)
    have hj6 : j < 6 := by have := (hW q hq).2; omega
    obtain ⟨d1, d2, d3⟩ := code_d (s := q) (f := g) hj6 (by omega : g < 8)
    generalize hc : L.getD a 0 = c at *
    subst ec
    have erw : rwC r (q * 100 + j * 10 + g) = upd r (62 + q * 6 + j) (nI g) := by unfold rwC; rw [d1, d2, d3]
    have d4 : (q * 100 + j * 10 + g) / 10 < 2 ^ 31 := by omega
    simp (disch := omega) only [LX10_listen_26, KX10_listen_26, eT, nI_leE, nI_ltE, nI_eqE, nI_m1, c0a, c0b, c0c, c0d, c0e, c1a, c1b, c1c, c1d, c1e, c2a, c2b, c2c, c2d, c2e, c3a, c3b, c3c, c3d, c3e, c4a, c4b, c4c, c4d, c4e, c5a, c5b, c5c, c5d, c5e, c6a, c6b, c6c, c6d, c6e, c7a, c7b, c7c, c7d, c7e, c8a, c8b, c8c, c8d, c8e, c9a, c9b, c9c, c9d, c9e, c10a, c10b, c10c, c10d, c10e, c12a, c12b, c12c, c12d, c12e, c14a, c14b, c14c, c14d, c14e, c16a, c16b, c16c, c16d, c16e, c20a, c20b, c20c, c20d, c20e, c30a, c30b, c30c, c30d, c30e, c32a, c32b, c32c, c32d, c32e, c36a, c36b, c36c, c36d, c36e, c40a, c40b, c40c, c40d, c40e, c41a, c41b, c41c, c41d, c41e, c42a, c42b, c42c, c42d, c42e, c43a, c43b, c43c, c43d, c43e, c45a, c45b, c45c, c45d, c45e, c47a, c47b, c47c, c47d, c47e, c48a, c48b, c48c, c48d, c48e, c57a, c57b, c57c, c57d, c57e, c59a, c59b, c59c, c59d, c59e, c60a, c60b, c60c, c60d, c60e, c61a, c61b, c61c, c61d, c61e, c62a, c62b, c62c, c62d, c62e, c64a, c64b, c64c, c64d, c64e, c96a, c96b, c96c, c96d, c96e, c97a, c97b, c97c, c97d, c97e, c98a, c98b, c98c, c98d, c98e, c99a, c99b, c99c, c99d, c99e, c100a, c100b, c100c, c100d, c100e, c122a, c122b, c122c, c122d, c122e, c700a, c700b, c700c, c700d, c700e, c4240a, c4240b, c4240c, c4240d, c4240e, c9999a, c9999b, c9999c, c9999d, c9999e, c100000a, c100000b, c100000c, c100000d, c100000e, c1000000a, c1000000b, c1000000c, c1000000d, c1000000e, if_F]
    rw [show fX10_pack 169 0 T = some (row T 169 (pkd T 169 0)) from M_pack (a := 169) (f := 0) (by omega) (by decide), bv_s]
    generalize hT0 : row T 169 (pkd T 169 0) = T0
    have c0 : ∀ b, b ≠ 169 → T0 b = T b := fun b hb => by rw [← hT0, row_ne hb]
    have e178' : T0 178 a = nI (q * 100 + j * 10 + g) := by rw [c0 178 (by decide)]; exact e178T
    rw [rd178 (by omega), e178', show (100 : Int32) = nI 100 from rfl, dv_n (by omega) (by decide) (by decide), d1, rd178 (by omega), e178', show (10 : Int32) = nI 10 from rfl, dv_n (by omega) (by decide) (by decide), rm_n d4 (by decide) (by decide), d2, rd178 (by omega), e178', rm_n (by omega) (by decide) (by decide), d3, lm6, nI_add, wr161 (by omega)]
    generalize hT1 : up T0 161 (6 * q + j) (nI g) = T1
    have c1 : ∀ b, b ≠ 161 → T1 b = T0 b := fun b hb => by rw [← hT1, up_ne hb]
    have m0 : mr T0 = mr T := mr_cell (fun b hb => c0 b (by omega))
    have ag1 : ag (mr T1) (rwC r (q * 100 + j * 10 + g)) := by
      rw [erw, ← hT1, mr_uW (by omega), m0, show 62 + (6 * q + j) = 62 + q * 6 + j by omega]
      exact ag_upd i1
    have ro : ROk V 10000 (rwC r (q * 100 + j * 10 + g)) := by rw [erw]; exact ROk_w hV hr (by omega) hj6 hg
    have ro1 : ROk V 10000 (mr T1) := ag_ROk hV ag1.sm ro
    have M1 : VM V T1 := MT.go (fun b hb => by rw [c1 b (by omega), c0 b (by omega)])
    obtain ⟨T2, e2, g1, g2, g3⟩ := M_told M1 ro1 (by decide) (by rw [c1 142 (by decide), c0 142 (by decide)]; exact zT)
    rw [e2, bv_s]
    refine ok_for (fun k2 f U => LX10_listen_88 (LX10_listen_26 k) k2 (nI w) (nI a) (nI f) U) _ (fun f U => (∀ b, b ≠ 179 → U b = T2 b) ∧ (∀ b f', b < a → f' < 8 → U 179 (8 * b + f') = lsI V (rwC r (L.getD b 0)) f') ∧ ∀ f', f' < f → U 179 (8 * a + f') = lsI V (rwC r (q * 100 + j * 10 + g)) f') 8 ?_ ?_ FU 0 T2 (by omega) (by decide) ⟨fun _ _ => rfl, fun b f' hb hf' => by rw [g3.1 179 (by decide) (by decide), c1 179 (by decide), c0 179 (by decide)]; exact i3 b f' hb hf', fun f' hf' => absurd hf' (by omega)⟩
    · intro k2 U hU
      obtain ⟨u1, u2, u3⟩ := hU
      obtain ⟨T3, e3, v1, v2⟩ := M_unpack (a := 169) (f := 0) (S := U) (by omega) (by decide)
      have e3' : fX10_unpack 169 0 U = some T3 := e3
      show ok (KX10_listen_88 (LX10_listen_26 k) (LX10_listen_88 (LX10_listen_26 k) k2) (nI w) (nI a) (nI 8) U) _
      unfold KX10_listen_88
      rw [if_pos (by decide), e3', bv_s, vl_s, nI_1]
      refine ih T3 ⟨?_, ⟨fun b h1 h2 h3 h4 => ?_, fun i h1 h2 => ?_⟩, fun b f' hb hf' => ?_⟩
      · refine ag.tr (fun i hi => ?_) i1
        rw [v1 i hi, u1 169 (by decide), g3.1 169 (by decide) (by decide), c1 169 (by decide), ← hT0, row_at]
        unfold pkd
        rw [if_pos (by omega), show 0 + i - 0 = i by omega]
      · rw [v2.1 b (by omega) (by omega), u1 b h4, g3.1 b h1 h3, c1 b (by omega), c0 b h2, i2.1 b h1 h2 h3 h4]
      · rw [v2.2 i h1 h2, u1 142 (by decide), g3.2 i h1 h2, c1 142 (by decide), c0 142 (by decide), i2.2 i h1 h2]
      · rw [v2.1 179 (by decide) (by decide)]
        by_cases c : b = a
        · subst c; rw [hc]; exact u3 f' hf'
        · exact u2 b f' (by omega) hf'
    · intro k2 f U hf hU ih2
      obtain ⟨u1, u2, u3⟩ := hU
      have e177 : U 177 f = nI (hbits (suB V (mr T1) f) 8) := by rw [u1 177 (by decide)]; exact g2 f hf
      simp (disch := omega) only [LX10_listen_88, KX10_listen_88, nI_leE, nI_ltE, nI_eqE, nI_m1, c0a, c0b, c0c, c0d, c0e, c1a, c1b, c1c, c1d, c1e, c2a, c2b, c2c, c2d, c2e, c3a, c3b, c3c, c3d, c3e, c4a, c4b, c4c, c4d, c4e, c5a, c5b, c5c, c5d, c5e, c6a, c6b, c6c, c6d, c6e, c7a, c7b, c7c, c7d, c7e, c8a, c8b, c8c, c8d, c8e, c9a, c9b, c9c, c9d, c9e, c10a, c10b, c10c, c10d, c10e, c12a, c12b, c12c, c12d, c12e, c14a, c14b, c14c, c14d, c14e, c16a, c16b, c16c, c16d, c16e, c20a, c20b, c20c, c20d, c20e, c30a, c30b, c30c, c30d, c30e, c32a, c32b, c32c, c32d, c32e, c36a, c36b, c36c, c36d, c36e, c40a, c40b, c40c, c40d, c40e, c41a, c41b, c41c, c41d, c41e, c42a, c42b, c42c, c42d, c42e, c43a, c43b, c43c, c43d, c43e, c45a, c45b, c45c, c45d, c45e, c47a, c47b, c47c, c47d, c47e, c48a, c48b, c48c, c48d, c48e, c57a, c57b, c57c, c57d, c57e, c59a, c59b, c59c, c59d, c59e, c60a, c60b, c60c, c60d, c60e, c61a, c61b, c61c, c61d, c61e, c62a, c62b, c62c, c62d, c62e, c64a, c64b, c64c, c64d, c64e, c96a, c96b, c96c, c96d, c96e, c97a, c97b, c97c, c97d, c97e, c98a, c98b, c98c, c98d, c98e, c99a, c99b, c99c, c99d, c99e, c100a, c100b, c100c, c100d, c100e, c122a, c122b, c122c, c122d, c122e, c700a, c700b, c700c, c700d, c700e, c4240a, c4240b, c4240c, c4240d, c4240e, c9999a, c9999b, c9999c, c9999d, c9999e, c100000a, c100000b, c100000c, c100000d, c100000e, c1000000a, c1000000b, c1000000c, c1000000d, c1000000e, if_F, rd177, e177, M_lowest, bd_s, lm8, nI_add, wr179, vl_s, ra1]
      refine ih2 _ ⟨fun b hb => by rw [up_ne hb]; exact u1 b hb, fun b f' hb hf' => ?_, fun f' hf' => ?_⟩
      · rw [up_off (by omega)]; exact u2 b f' hb hf'
      · rw [up_row]
        by_cases c : f' = f
        · subst c; rw [upd_at]; exact rg_lsI hV (ag1.w hV) ro1 (by decide)
        · rw [upd_ne (by omega)]; exact u3 f' (by omega)
theorem rg_unl {V : Vy} (hV : VOk V) {r r' : Rw} (h : rg V r r') (hr : ROk V 10000 r) {L : List Nat} (hL : ∀ c, c ∈ L → ∃ q j g, q < vS' V ∧ j < vW V q ∧ g < vF V ∧ c = q * 100 + j * 10 + g) {f : Nat} : unl V r L f = unl V r' L f := by
  have key : ∀ b, b < L.length → lsI V (rwC r (L.getD b 0)) f = lsI V (rwC r' (L.getD b 0)) f := by
    intro b hb
    have hm : L.getD b 0 ∈ L := by
      rw [List.getD_eq_getElem?_getD, List.getElem?_eq_getElem hb]
      exact List.getElem_mem hb
    obtain ⟨q, j, g, hq, hj, hg, e⟩ := hL _ hm
    have h6 := hV.2.1
    have h8 := hV.1
    have w6 := (hV.2.2.1 q hq).2
    obtain ⟨d1, d2, d3⟩ := code_d (s := q) (i := j) (f := g) (by omega) (by omega)
    unfold rwC
    rw [e, d1, d2, d3]
    exact rg_lsI hV (rg_upd h) (ROk_w hV hr (by omega) (by omega) hg) (by decide)
  rw [unl_cnt, unl_cnt]
  refine cnt_congr _ (fun a ha => ?_)
  rw [key a ha]
  exact allB_congr _ (fun b hb => by rw [key b (by omega)])
theorem A_listen {nX : Int32} (a1 : Int32) : Agr nX (fX9_listen a1) (fX10_listen a1) := by
  refine look (fun S V v d hR => ?_)
  have hV := hR.vk
  have hF8 := hV.1
  have hv := hR.hv
  obtain ⟨m, hF, hK, hT, hh, hcC, hcM⟩ := hR.hd
  have fails : ∀ T, (a1 < 0 ∨ ¬ a1 ≤ 1) → fX10_listen a1 T = some (0, up (up T 142 3 0) 142 3 1) := by
    intro T h
    unfold fX10_listen BX10_listen_14
    rw [pf_s]
    by_cases c : a1 < 0
    · rw [if_pos c, m_fail]
    · rw [if_neg c]
      rcases h with h | h
      · exact absurd h c
      · rw [if_neg h, m_fail]
  rcases arg2 a1 (lo := 0) (hi := 1) (by decide) (by decide) with ⟨w, -, hw, rfl⟩ | h4
  · have needs : fX9_needWhat (nI w) 1 S = some (.inl 0, S) := C_nW_t (m := 1) hw (by decide)
    obtain ⟨S1, e1, hx⟩ := C_explore hR hh hcC
    have lenL := fnd_len hV (r := S 37) (m := m) (hF := hF) (hK := hK) (hT := hT)
    have memL : ∀ c, c ∈ fnd V (S 37) m hF hK hT → ∃ q j g, q < vS' V ∧ j < vW V q ∧ g < vF V ∧ c = q * 100 + j * 10 + g := fun c hc => fdS_mem (vS' V) hc
    generalize hL : fnd V (S 37) m hF hK hT = L at *
    have ebest := C_unlike hF8 hx lenL
    obtain ⟨x1, x2, x3, x4, x5⟩ := hx
    refine ⟨.inl (if w = 0 then (selN (unl V (S 37) L) (vF V)).1 else nI (selN (unl V (S 37) L) (vF V)).2), ?_, fun T hT1 => ?_⟩
    · unfold fX9_listen
      rw [needs, bt_s, gm_v hR.2.1 hv, e1, bv_s, ebest, bd_s]
      by_cases c0 : w = 0
      · subst c0
        rw [if_pos (show nI 0 = 0 from rfl), if_pos rfl]; exact ok_some ⟨rfl, x5⟩
      · rw [if_neg (by rw [show (0 : Int32) = nI 0 from rfl, nI_eq (by omega) (by omega)]; exact c0), if_neg c0]
        by_cases cl : L.length = 0 ∨ vF V = 0
        · have e0 : selN (unl V (S 37) L) (vF V) = (-1, 0) := by
            rcases cl with cl | cl
            · exact selN_0 _ (fun f _ => by rw [unl_cnt, cl]; rfl)
            · rw [cl]; rfl
          rw [e0, if_pos rfl]; exact ok_some ⟨rfl, x5⟩
        · obtain ⟨b, hb, h1, h2⟩ := selN_b (c := unl V (S 37) L) (fun f => unl_pos (by omega)) (vF V) (by omega)
          rw [h1, if_neg (nI_ne_m1 (by omega)), rd138 (by omega), x4 b hb, bc_9 unl_lt, bd_s, h2]
          exact ok_some ⟨rfl, x5⟩
    · have M0 : VM V (up T 142 3 0) := (hR.c hT1).M.go (fun a ha => up_ne (by omega))
      have ag0 : rg V (mr (up T 142 3 0)) (S 37) := by rw [mr_up (by omega) (by omega), hT1.mr]; exact hR.rag.sm
      have z0 : (up T 142 3 0) 142 41 = -1 := by rw [up_off (by decide)]; exact (hR.c hT1).z
      have hd0 : HdM m hF hK hT (up T 142 3 0) := by
        unfold HdM at hcM ⊢
        rw [up_off (by decide), up_ne (by decide), up_ne (by decide), up_ne (by decide), hT1 142 (by decide) (by decide) (by decide) (by decide) (by decide), hT1 173 (by decide) (by decide) (by decide) (by decide) (by decide), hT1 174 (by decide) (by decide) (by decide) (by decide) (by decide), hT1 175 (by decide) (by decide) (by decide) (by decide) (by decide)]
        exact hcM
      obtain ⟨T2, e2, ⟨q1, q2, q3⟩, q4⟩ := M_fits M0 (rg_ROk hV ag0.sm hR.rok) ag.rf z0 hh hd0
      rw [rg_fnd hV ag0 (rg_ROk hV ag0.sm hR.rok) hh, hL] at q1 q2
      obtain ⟨⟨x, T3⟩, e3, y1, y2, y3⟩ := M_listen (w := w) (M0.t q3) (rg_ROk hV ag0.sm hR.rok) q4 (by rw [q3.2 41 (by decide) (by decide) (by decide)]; exact z0) lenL memL q1 q2 hw
      have y2' : ag (mr T3) (mr (up T 142 3 0)) := y2
      have eun : selN (unl V (mr (up T 142 3 0)) L) (vF V) = selN (unl V (S 37) L) (vF V) := selN_congr _ (fun f _ => rg_unl hV ag0 (rg_ROk hV ag0.sm hR.rok) memL)
      have y3' : lFr T2 T3 := y3
      unfold fX10_listen
      rw [pf_s, if_neg (nI_pos (by omega)), if_pos (show nI w ≤ 1 from nI_le hw (by decide)), e2, bv_s]
      have e3' : LX10_listen_26 FU (nI w) 0 T2 = some (x, T3) := e3
      rw [e3']
      refine ok_some ⟨⟨y2'.tr (by rw [mr_up (by omega) (by omega)]; exact ag.rf), fun a h1 => ?_, fun j hj => ?_⟩, ?_, by rw [← eun]; exact y1⟩
      · show T3 a = T a
        rw [y3'.1 a (by omega) (by omega) (by omega) (by omega), q3.1 a (by omega) (by omega) (by omega) (by omega), up_ne (by omega)]
      · show T3 142 j = T 142 j
        rw [y3'.2 j (by omega) (by omega), q3.2 j (by omega) (by omega) (by omega), up_off (by omega)]
      · show T3 142 3 = 0
        rw [y3'.2 3 (by decide) (by decide), q3.2 3 (by decide) (by decide) (by decide), up_at]
  · refine ⟨.inr 1, ?_, fun T hT1 => ?_⟩
    · unfold fX9_listen
      rw [show fX9_needWhat a1 1 S = some (.inr 1, S) from C_nW_f (m := 1) (by decide) h4, bt_x]
      exact ok_some ⟨rfl, cK.rf⟩
    · rw [fails T (by
        by_cases c : a1 < 0
        · exact Or.inl c
        · exact Or.inr (ltle h4 (by decide) (by decide) c))]
      exact ok_some ⟨mKx, Or.inl ⟨rfl, rfl⟩⟩
