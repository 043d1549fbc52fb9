/-! trespasses -/
def sm (g : Nat → Nat) : Nat → Nat
  | 0 => 0
  | n + 1 => sm g n + g n
theorem sm_add (g h : Nat → Nat) : ∀ n, sm (fun i => g i + h i) n = sm g n + sm h n := by
  intro n
  induction n with
  | zero => rfl
  | succ n ih => show sm _ n + (g n + h n) = _; rw [ih]; show _ = (sm g n + g n) + (sm h n + h n); omega
theorem sm_congr {g h : Nat → Nat} : ∀ n, (∀ i, i < n → g i = h i) → sm g n = sm h n := by
  intro n
  induction n with
  | zero => intro _; rfl
  | succ n ih => intro e; show sm g n + g n = sm h n + h n; rw [ih (fun i hi => e i (by omega)), e n (by omega)]
theorem sm_zero {g : Nat → Nat} : ∀ n, (∀ i, i < n → g i = 0) → sm g n = 0 := by
  intro n
  induction n with
  | zero => intro _; rfl
  | succ n ih => intro e; show sm g n + g n = 0; rw [ih (fun i hi => e i (by omega)), e n (by omega)]
theorem sm_one {g : Nat → Nat} {t : Nat} : ∀ n, t < n → (∀ i, i < n → i ≠ t → g i = 0) → sm g n = g t := by
  intro n
  induction n with
  | zero => intro h; omega
  | succ n ih =>
    intro h e
    show sm g n + g n = g t
    by_cases c : t = n
    · subst c; rw [sm_zero _ (fun i hi => e i (by omega) (by omega)), Nat.zero_add]
    · rw [ih (by omega) (fun i hi => e i (by omega)), e n (by omega) (by omega)]; rfl
def trA (V : Vy) (r : Rw) (s n : Nat) : Nat := sm (fun f => if r (98 + f) = nI s then trT V r f n else 0) (vF V)
/-- one hour's, told by those who tread -/
def trH (V : Vy) (r : Rw) (s : Nat) (q : Nat) : Bool := decide (¬ trI V r q = -1) && decide (r (98 + (trI V r q).toNatClampNeg) = nI s)
theorem trI_ok {V : Vy} {hm : Nat} {r : Rw} (hr : ROk V hm r) (hV : VOk V) (hm9 : hm ≤ 20000) {s : Nat} (hs : s < vS' V) : trI V r s = -1 ∨ ∃ t, t < vF V ∧ trI V r s = nI t := by
  unfold trI
  obtain ⟨ro, -⟩ := sns_ok hr hV hm9 s (by omega)
  rcases tuI_ok ro hV hm9 hs with h1 | ⟨t, ht, e, e2, -⟩
  · have : sgI V r s = -1 := h1
    rw [if_pos this]; exact Or.inl rfl
  · have e' : sgI V r s = nI t := e
    rw [e', if_neg (nI_ne_m1 (by have := hV.1; omega))]
    split
    · exact Or.inr ⟨t, ht, rfl⟩
    · exact Or.inl rfl
theorem trH_cnt {V : Vy} {hm : Nat} {r : Rw} (hr : ROk V hm r) (hV : VOk V) (hm9 : hm ≤ 20000) {s : Nat} : ∀ N, N ≤ vS' V → sm (fun f => if r (98 + f) = nI s then cnt (fun q => decide (trI V r q = nI f)) N else 0) (vF V) = cnt (trH V r s) N := by
  have hF := hV.1
  intro N
  induction N with
  | zero => intro _; exact sm_zero _ (fun i _ => by split <;> rfl)
  | succ N ih =>
    intro hN
    show _ = cnt (trH V r s) N + if trH V r s N then 1 else 0
    rw [← ih (by omega)]
    have e1 : (fun f => if r (98 + f) = nI s then cnt (fun q => decide (trI V r q = nI f)) (N + 1) else 0) = (fun f => (if r (98 + f) = nI s then cnt (fun q => decide (trI V r q = nI f)) N else 0) + (if r (98 + f) = nI s ∧ trI V r N = nI f then 1 else 0)) := by
      funext f
      show (if r (98 + f) = nI s then cnt (fun q => decide (trI V r q = nI f)) N + (if decide (trI V r N = nI f) then 1 else 0) else 0) = _
      by_cases c : r (98 + f) = nI s
      · by_cases c2 : trI V r N = nI f
        · simp only [if_pos c, c2, c, and_self, if_true, decide_true]
        · simp only [if_pos c, c2, c, and_false, if_false, decide_false, Bool.false_eq_true, if_true]
      · simp only [if_neg c, c, false_and, if_false]
    rw [e1, sm_add]
    congr 1
    rcases trI_ok hr hV hm9 (s := N) (by omega) with h | ⟨t, ht, e⟩
    · rw [sm_zero _ (fun i hi => by rw [if_neg]; rintro ⟨-, z⟩; rw [h] at z; exact nI_ne_m1 (n := i) (by omega) z.symm)]
      unfold trH
      simp [h]
    · rw [sm_one (t := t) _ ht (fun i hi hne => by rw [if_neg]; rintro ⟨-, z⟩; rw [e, nI_eq (by omega) (by omega)] at z; exact hne z.symm)]
      unfold trH
      rw [e, nI_clamp (by omega)]
      have hn : ¬ nI t = -1 := nI_ne_m1 (by omega)
      by_cases c : r (98 + t) = nI s
      · simp [c, hn]
      · simp [c]
theorem trA_s {V : Vy} {hm : Nat} {r : Rw} (hr : ROk V hm r) (hV : VOk V) {s n : Nat} (hm9 : hm + n ≤ 20000) : trA V r s (n + 1) = trA V r s n + cnt (trH V (hrs V r n) s) (vS' V) := by
  obtain ⟨a, b, -⟩ := hrs_ok hr hV n hm9
  rw [← trH_cnt a hV hm9 (vS' V) (Nat.le_refl _)]
  unfold trA
  rw [← sm_add]
  apply sm_congr
  intro f hf
  rw [b (98 + f) (by omega)]
  show (if r (98 + f) = nI s then trT V r f n + _ else 0) = _
  split <;> rfl
theorem C_against {V : Vy} {v n : Nat} {S : St} {r : Rw} (hC : VC V v S) (h0 : S 130 0 = nI v) (ho : ∀ f, f < vF V → S 131 (98 + f) = r (98 + f)) (ht : ∀ f, f < vF V → S 135 f = nI (trT V r f n)) {s : Nat} : fX0_trespassesAgainst (nI s) S = some (nI (trA V r s n), S) := by
  have hV := hC.1
  have hF8 := hV.1
  have hv := hC.2.1
  have hF := hC.2.2.1
  have : ok (fX0_trespassesAgainst (nI s) S) (fun q => q = (nI (trA V r s n), S)) := by
    unfold fX0_trespassesAgainst
    refine ok_for (σ := Int32) (fun n i x => LX0_trespassesAgainst_4 n (nI s) x (nI i) S) _ (fun i x => x = nI (sm (fun f => if r (98 + f) = nI s then trT V r f n else 0) i)) (vF V) ?_ ?_ FU 0 0 (by omega) (by unfold FU; omega) rfl
    · intro n x hI
      subst hI
      simp (disch := omega) only [LX0_trespassesAgainst_4, KX0_trespassesAgainst_4, gm_v h0 hv, hF, nI_leE, nI_ltE, nI_eqE, nI_m1, c0a, c0b, c0c, c0d, c0e, c1a, c1b, c1c, c1d, c1e, c2a, c2b, c2c, c2d, c2e, c3a, c3b, c3c, c3d, c3e, c4a, c4b, c4c, c4d, c4e, c5a, c5b, c5c, c5d, c5e, c6a, c6b, c6c, c6d, c6e, c7a, c7b, c7c, c7d, c7e, c8a, c8b, c8c, c8d, c8e, c9a, c9b, c9c, c9d, c9e, c10a, c10b, c10c, c10d, c10e, c12a, c12b, c12c, c12d, c12e, c14a, c14b, c14c, c14d, c14e, c16a, c16b, c16c, c16d, c16e, c20a, c20b, c20c, c20d, c20e, c30a, c30b, c30c, c30d, c30e, c32a, c32b, c32c, c32d, c32e, c36a, c36b, c36c, c36d, c36e, c40a, c40b, c40c, c40d, c40e, c41a, c41b, c41c, c41d, c41e, c42a, c42b, c42c, c42d, c42e, c43a, c43b, c43c, c43d, c43e, c45a, c45b, c45c, c45d, c45e, c47a, c47b, c47c, c47d, c47e, c48a, c48b, c48c, c48d, c48e, c57a, c57b, c57c, c57d, c57e, c59a, c59b, c59c, c59d, c59e, c60a, c60b, c60c, c60d, c60e, c61a, c61b, c61c, c61d, c61e, c62a, c62b, c62c, c62d, c62e, c64a, c64b, c64c, c64d, c64e, c96a, c96b, c96c, c96d, c96e, c97a, c97b, c97c, c97d, c97e, c98a, c98b, c98c, c98d, c98e, c99a, c99b, c99c, c99d, c99e, c100a, c100b, c100c, c100d, c100e, c122a, c122b, c122c, c122d, c122e, c700a, c700b, c700c, c700d, c700e, c4240a, c4240b, c4240c, c4240d, c4240e, c9999a, c9999b, c9999c, c9999d, c9999e, c100000a, c100000b, c100000c, c100000d, c100000e, c1000000a, c1000000b, c1000000c, c1000000d, c1000000e, if_T, ri_s]
      exact ok_some rfl
    · intro k i x hi hI ih
      subst hI
      simp (disch := omega) only [LX0_trespassesAgainst_4, KX0_trespassesAgainst_4, gm_v h0 hv, hF, nI_leE, nI_ltE, nI_eqE, nI_m1, c0a, c0b, c0c, c0d, c0e, c1a, c1b, c1c, c1d, c1e, c2a, c2b, c2c, c2d, c2e, c3a, c3b, c3c, c3d, c3e, c4a, c4b, c4c, c4d, c4e, c5a, c5b, c5c, c5d, c5e, c6a, c6b, c6c, c6d, c6e, c7a, c7b, c7c, c7d, c7e, c8a, c8b, c8c, c8d, c8e, c9a, c9b, c9c, c9d, c9e, c10a, c10b, c10c, c10d, c10e, c12a, c12b, c12c, c12d, c12e, c14a, c14b, c14c, c14d, c14e, c16a, c16b, c16c, c16d, c16e, c20a, c20b, c20c, c20d, c20e, c30a, c30b, c30c, c30d, c30e, c32a, c32b, c32c, c32d, c32e, c36a, c36b, c36c, c36d, c36e, c40a, c40b, c40c, c40d, c40e, c41a, c41b, c41c, c41d, c41e, c42a, c42b, c42c, c42d, c42e, c43a, c43b, c43c, c43d, c43e, c45a, c45b, c45c, c45d, c45e, c47a, c47b, c47c, c47d, c47e, c48a, c48b, c48c, c48d, c48e, c57a, c57b, c57c, c57d, c57e, c59a, c59b, c59c, c59d, c59e, c60a, c60b, c60c, c60d, c60e, c61a, c61b, c61c, c61d, c61e, c62a, c62b, c62c, c62d, c62e, c64a, c64b, c64c, c64d, c64e, c96a, c96b, c96c, c96d, c96e, c97a, c97b, c97c, c97d, c97e, c98a, c98b, c98c, c98d, c98e, c99a, c99b, c99c, c99d, c99e, c100a, c100b, c100c, c100d, c100e, c122a, c122b, c122c, c122d, c122e, c700a, c700b, c700c, c700d, c700e, c4240a, c4240b, c4240c, c4240d, c4240e, c9999a, c9999b, c9999c, c9999d, c9999e, c100000a, c100000b, c100000c, c100000d, c100000e, c1000000a, c1000000b, c1000000c, c1000000d, c1000000e, if_F, bd_s, bv_s, bt_s, bt_x, vl_s, pf_s, ri_s, rz_0, rz_1, tri_s, trz_0, trz_1, trx_s, pz_0, pz_1, nI_add, pk_mul, up_at, la2, la5, la6, la8, la14, la62, la64, la98, la700, ra1, ra2, ra6, ra8, ra12, ra20, ra36, ra48, lm6, lm8, lm10, lm100, lm106, rm6, rm8, rm10, rm100, rm106, rd131, rd132, rd133, rd134, rd135, rd136, rd131_0, rd131_1, rd131_8, BX0_trespassesAgainst_37, ho i hi, ht i hi]
      by_cases c : r (98 + i) = nI s
      · rw [if_pos c]
        refine ih _ ?_
        show _ = nI (sm _ i + if r (98 + i) = nI s then trT V r i n else 0)
        rw [if_pos c]
      · rw [if_neg c]
        refine ih _ ?_
        show _ = nI (sm _ i + if r (98 + i) = nI s then trT V r i n else 0)
        rw [if_neg c]; rfl
  obtain ⟨b, e, q⟩ := this
  rw [e, q]
theorem cnt_one {p : Nat → Bool} {s : Nat} : ∀ n, s < n → (∀ i, i < n → i ≠ s → p i = false) → cnt p n = if p s then 1 else 0 := by
  have z : ∀ n, (∀ i, i < n → p i = false) → cnt p n = 0 := by
    intro n
    induction n with
    | zero => intro _; rfl
    | succ n ih => intro h; show cnt p n + _ = 0; rw [ih (fun i hi => h i (by omega)), h n (by omega)]; rfl
  intro n
  induction n with
  | zero => intro h; omega
  | succ n ih =>
    intro h e
    show cnt p n + (if p n then 1 else 0) = _
    by_cases c : s = n
    · subst c; rw [z s (fun i hi => e i (by omega) (by omega))]; simp
    · rw [ih (by omega) (fun i hi => e i (by omega)), e n (by omega) (by omega)]; rfl
