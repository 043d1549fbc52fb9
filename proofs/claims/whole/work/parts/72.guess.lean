theorem FU_s : FU = 4999 + 1 := rfl
/-! what is heard: which tunes are sung in a field in an hour -/
theorem sg_ok {V : Vy} {hm : Nat} {r : Rw} (hr : ROk V hm r) (hV : VOk V) (hm9 : hm ≤ 20000) {s : Nat} (hs : s < vS' V) : sgI V r s = -1 ∨ ∃ t, t < vF V ∧ sgI V r s = nI t := by
  unfold sgI
  rcases tuI_ok (sns_ok hr hV hm9 s (by omega)).1 hV hm9 hs with h | ⟨t, ht, e, -⟩
  · exact Or.inl h
  · exact Or.inr ⟨t, ht, e⟩
def suN (V : Vy) (r : Rw) (f n t : Nat) : Bool := !(allB (fun s => !(decide (plN V r s = f) && decide (sgI V r s = nI t))) n)
abbrev suB (V : Vy) (r : Rw) (f t : Nat) : Bool := suN V r f (vS' V) t
theorem suN_t {V : Vy} {r : Rw} {f n t : Nat} : suN V r f n t = true ↔ ∃ s, s < n ∧ plN V r s = f ∧ sgI V r s = nI t := by
  unfold suN
  constructor
  · intro h
    by_cases c : ∃ s, s < n ∧ plN V r s = f ∧ sgI V r s = nI t
    · exact c
    · exfalso
      have : allB (fun s => !(decide (plN V r s = f) && decide (sgI V r s = nI t))) n = true := (allB_t _).mpr (fun i hi => by
        by_cases c1 : plN V r i = f
        · by_cases c2 : sgI V r i = nI t
          · exact absurd ⟨i, hi, c1, c2⟩ c
          · simp [c2]
        · simp [c1])
      rw [this] at h
      exact absurd h (by decide)
  · rintro ⟨s, hs, h1, h2⟩
    rw [allB_f (i := s) (by simp [h1, h2]) _ hs]
    rfl
theorem suN_f {V : Vy} {r : Rw} {f n t : Nat} : suN V r f n t = false ↔ ∀ s, s < n → plN V r s = f → ¬ sgI V r s = nI t := by
  rw [← Bool.not_eq_true, suN_t]
  constructor
  · intro h s hs a b; exact h ⟨s, hs, a, b⟩
  · rintro h ⟨s, hs, a, b⟩; exact h s hs a b
theorem rg_suB {V : Vy} (hV : VOk V) {hm : Nat} {r r' : Rw} (h : rg V r r') (hr : ROk V hm r) (hm9 : hm ≤ 20000) {f t : Nat} : suB V r f t = suB V r' f t := by
  show suN V r f (vS' V) t = suN V r' f (vS' V) t
  unfold suN
  rw [allB_congr (vS' V) (fun i hi => by rw [rg_plN hV h hi, rg_sgI hV h hr hm9 hi])]
def lowN (p : Nat → Bool) : Nat → Nat → Int32
  | 0, _ => -1
  | n + 1, k => if p k then nI k else lowN p n (k + 1)
theorem lowN_is {p : Nat → Bool} : ∀ n k, (∀ j, j < k → p j = false) → isF p (k + n) (lowN p n k) := by
  intro n
  induction n with
  | zero => intro k h; exact Or.inr ⟨h, rfl⟩
  | succ n ih =>
    intro k h
    show isF p (k + (n + 1)) (if p k then nI k else lowN p n (k + 1))
    cases hk : p k with
    | true => rw [if_pos rfl]; exact Or.inl ⟨k, by omega, hk, h, rfl⟩
    | false =>
      rw [if_neg (by decide), show k + (n + 1) = (k + 1) + n by omega]
      refine ih (k + 1) (fun j hj => ?_)
      by_cases c : j = k
      · subst c; exact hk
      · exact h j (by omega)
/-- the least tune that is sung in a field, -1: none -/
def lsI (V : Vy) (r : Rw) (f : Nat) : Int32 := lowN (suB V r f) 8 0
theorem lsI_is {V : Vy} {r : Rw} {f : Nat} : isF (suB V r f) 8 (lsI V r f) := by
  have := lowN_is (p := suB V r f) 8 0 (fun j hj => absurd hj (by omega))
  rw [Nat.zero_add] at this
  exact this
theorem rg_lsI {V : Vy} (hV : VOk V) {hm : Nat} {r r' : Rw} (h : rg V r r') (hr : ROk V hm r) (hm9 : hm ≤ 20000) {f : Nat} : lsI V r f = lsI V r' f := isF_u lsI_is (isF_congr (fun _ _ => (rg_suB hV h hr hm9).symm) lsI_is)
def hdB (V : Vy) (r : Rw) (f : Nat) (t : Int32) : Bool := if t = -1 then decide (lsI V r f = -1) else suB V r f t.toNatClampNeg
theorem rg_hdB {V : Vy} (hV : VOk V) {hm : Nat} {r r' : Rw} (h : rg V r r') (hr : ROk V hm r) (hm9 : hm ≤ 20000) {f : Nat} {t : Int32} : hdB V r f t = hdB V r' f t := by
  unfold hdB
  rw [rg_lsI hV h hr hm9, rg_suB hV h hr hm9]
/-- in the class: an hour has gone by, that r began -/
def Sn (V : Vy) (v : Nat) (r : Rw) (S : St) : Prop := VC V v S ∧ S 130 0 = nI v ∧ (∀ s, s < vS' V → S 132 s = pl V r s) ∧ (∀ s, s < vS' V → S 133 s = sgI V r s) ∧ (∀ s, s < vS' V → ∃ f, f < vF V ∧ pl V r s = nI f ∧ plN V r s = f) ∧ (∀ s, s < vS' V → sgI V r s = -1 ∨ ∃ t, t < vF V ∧ sgI V r s = nI t)
def lsV (V : Vy) (r : Rw) (f i : Nat) (l : Int32) : Prop := (l = -1 ∧ ∀ s, s < i → plN V r s = f → sgI V r s = -1) ∨ ∃ t, t < vF V ∧ l = nI t ∧ (∃ s, s < i ∧ plN V r s = f ∧ sgI V r s = nI t) ∧ ∀ s t', s < i → t' < vF V → plN V r s = f → sgI V r s = nI t' → t ≤ t'
theorem C_least {V : Vy} {v : Nat} {S : St} {r : Rw} (hn : Sn V v r S) {f : Nat} (hf : f < vF V) : fX0_leastSungIn (nI f) S = some (lsI V r f, S) := by
  obtain ⟨hC, h0, hp, hg, hpo, hso⟩ := hn
  have hV := hC.1
  have hS6 := hV.2.1
  have hF8 := hV.1
  have hv := hC.2.1
  have hS := hC.2.2.2.1
  have : ok (fX0_leastSungIn (nI f) S) (fun q => isF (suB V r f) 8 q.1 ∧ q.2 = S) := by
    unfold fX0_leastSungIn
    refine ok_for (σ := Int32) (fun k i l => LX0_leastSungIn_4 k (nI f) l (nI i) S) _ (fun i l => lsV V r f i l) (vS' V) ?_ ?_ FU 0 (-1) (by omega) (by unfold FU; omega) (Or.inl ⟨rfl, fun s hs => absurd hs (by omega)⟩)
    · intro k l hI
      simp (disch := omega) only [LX0_leastSungIn_4, KX0_leastSungIn_4, gm_v h0 hv, hS, nI_leE, nI_ltE, nI_eqE, nI_m1, c0a, c0b, c0c, c0d, c0e, c1a, c1b, c1c, c1d, c1e, c2a, c2b, c2c, c2d, c2e, c3a, c3b, c3c, c3d, c3e, c4a, c4b, c4c, c4d, c4e, c5a, c5b, c5c, c5d, c5e, c6a, c6b, c6c, c6d, c6e, c7a, c7b, c7c, c7d, c7e, c8a, c8b, c8c, c8d, c8e, c9a, c9b, c9c, c9d, c9e, c10a, c10b, c10c, c10d, c10e, c12a, c12b, c12c, c12d, c12e, c14a, c14b, c14c, c14d, c14e, c16a, c16b, c16c, c16d, c16e, c20a, c20b, c20c, c20d, c20e, c30a, c30b, c30c, c30d, c30e, c32a, c32b, c32c, c32d, c32e, c36a, c36b, c36c, c36d, c36e, c40a, c40b, c40c, c40d, c40e, c41a, c41b, c41c, c41d, c41e, c42a, c42b, c42c, c42d, c42e, c43a, c43b, c43c, c43d, c43e, c45a, c45b, c45c, c45d, c45e, c47a, c47b, c47c, c47d, c47e, c48a, c48b, c48c, c48d, c48e, c57a, c57b, c57c, c57d, c57e, c59a, c59b, c59c, c59d, c59e, c60a, c60b, c60c, c60d, c60e, c61a, c61b, c61c, c61d, c61e, c62a, c62b, c62c, c62d, c62e, c64a, c64b, c64c, c64d, c64e, c96a, c96b, c96c, c96d, c96e, c97a, c97b, c97c, c97d, c97e, c98a, c98b, c98c, c98d, c98e, c99a, c99b, c99c, c99d, c99e, c100a, c100b, c100c, c100d, c100e, c122a, c122b, c122c, c122d, c122e, c700a, c700b, c700c, c700d, c700e, c4240a, c4240b, c4240c, c4240d, c4240e, c9999a, c9999b, c9999c, c9999d, c9999e, c100000a, c100000b, c100000c, c100000d, c100000e, c1000000a, c1000000b, c1000000c, c1000000d, c1000000e, if_T, ri_s]
      refine ok_some ⟨?_, rfl⟩
      show isF (suB V r f) 8 l
      rcases hI with ⟨rfl, h⟩ | ⟨t, ht, rfl, ⟨s, hs, h1, h2⟩, h3⟩
      · refine Or.inr ⟨fun j hj => suN_f.mpr (fun s hs a b => ?_), rfl⟩
        rw [h s hs a] at b
        exact nI_ne_m1 (by omega) b.symm
      · refine Or.inl ⟨t, by omega, suN_t.mpr ⟨s, hs, h1, h2⟩, fun j hj => suN_f.mpr (fun s' hs' a b => ?_), rfl⟩
        have := h3 s' j hs' (by omega) a b
        omega
    · intro k i l hi hI ih
      obtain ⟨p, hpF, e1, e2⟩ := hpo i hi
      have keep : (plN V r i = f → sgI V r i = -1) → lsV V r f (i + 1) l := by
        intro hno
        rcases hI with ⟨rfl, h⟩ | ⟨t, ht, rfl, ⟨s, hs, h1, h2⟩, h3⟩
        · refine Or.inl ⟨rfl, fun s hs a => ?_⟩
          by_cases c : s = i
          · subst c; exact hno a
          · exact h s (by omega) a
        · refine Or.inr ⟨t, ht, rfl, ⟨s, by omega, h1, h2⟩, fun s' t' hs' ht' a b => ?_⟩
          by_cases c : s' = i
          · subst c; rw [hno a] at b; exact absurd b.symm (nI_ne_m1 (by omega))
          · exact h3 s' t' (by omega) ht' a b
      simp (disch := omega) only [LX0_leastSungIn_4, KX0_leastSungIn_4, gm_v h0 hv, hS, nI_leE, nI_ltE, nI_eqE, nI_m1, c0a, c0b, c0c, c0d, c0e, c1a, c1b, c1c, c1d, c1e, c2a, c2b, c2c, c2d, c2e, c3a, c3b, c3c, c3d, c3e, c4a, c4b, c4c, c4d, c4e, c5a, c5b, c5c, c5d, c5e, c6a, c6b, c6c, c6d, c6e, c7a, c7b, c7c, c7d, c7e, c8a, c8b, c8c, c8d, c8e, c9a, c9b, c9c, c9d, c9e, c10a, c10b, c10c, c10d, c10e, c12a, c12b, c12c, c12d, c12e, c14a, c14b, c14c, c14d, c14e, c16a, c16b, c16c, c16d, c16e, c20a, c20b, c20c, c20d, c20e, c30a, c30b, c30c, c30d, c30e, c32a, c32b, c32c, c32d, c32e, c36a, c36b, c36c, c36d, c36e, c40a, c40b, c40c, c40d, c40e, c41a, c41b, c41c, c41d, c41e, c42a, c42b, c42c, c42d, c42e, c43a, c43b, c43c, c43d, c43e, c45a, c45b, c45c, c45d, c45e, c47a, c47b, c47c, c47d, c47e, c48a, c48b, c48c, c48d, c48e, c57a, c57b, c57c, c57d, c57e, c59a, c59b, c59c, c59d, c59e, c60a, c60b, c60c, c60d, c60e, c61a, c61b, c61c, c61d, c61e, c62a, c62b, c62c, c62d, c62e, c64a, c64b, c64c, c64d, c64e, c96a, c96b, c96c, c96d, c96e, c97a, c97b, c97c, c97d, c97e, c98a, c98b, c98c, c98d, c98e, c99a, c99b, c99c, c99d, c99e, c100a, c100b, c100c, c100d, c100e, c122a, c122b, c122c, c122d, c122e, c700a, c700b, c700c, c700d, c700e, c4240a, c4240b, c4240c, c4240d, c4240e, c9999a, c9999b, c9999c, c9999d, c9999e, c100000a, c100000b, c100000c, c100000d, c100000e, c1000000a, c1000000b, c1000000c, c1000000d, c1000000e, if_F, rd131, rd132, rd133, rd134, rd135, rd136, rd131_0, rd131_1, rd131_8, hp i hi, hg i hi, BX0_leastSungIn_57, BX0_leastSungIn_50, bd_s, bv_s, bt_s, bt_x, vl_s, pf_s, ri_s, rz_0, rz_1, tri_s, trz_0, trz_1, trx_s, pz_0, pz_1, nI_add, pk_mul, up_at, la2, la5, la6, la8, la14, la62, la64, la98, la700, ra1, ra2, ra6, ra8, ra12, ra20, ra36, ra48, lm6, lm8, lm10, lm100, lm106, rm6, rm8, rm10, rm100, rm106]
      rw [e1]
      by_cases c1 : p = f
      · have e2' : plN V r i = f := by omega
        rw [if_pos (by rw [c1])]
        rcases hso i hi with c2 | ⟨t, ht, c2⟩
        · rw [if_pos c2]; exact ih l (keep (fun _ => c2))
        · rw [c2, if_neg (nI_ne_m1 (by omega))]
          rcases hI with ⟨rfl, h⟩ | ⟨t0, ht0, rfl, ⟨s, hs, h1, h2⟩, h3⟩
          · rw [if_pos rfl]
            refine ih _ (Or.inr ⟨t, ht, rfl, ⟨i, by omega, e2', c2⟩, fun s t' hs ht' a b => ?_⟩)
            by_cases c3 : s = i
            · subst c3; rw [c2] at b; exact Nat.le_of_eq ((nI_eq (by omega) (by omega)).mp b)
            · have := h s (by omega) a
              rw [this] at b
              exact absurd b.symm (nI_ne_m1 (by omega))
          · rw [if_neg (nI_ne_m1 (by omega))]
            by_cases c4 : t0 ≤ t
            · rw [if_pos (nI_le c4 (by omega))]
              refine ih _ (Or.inr ⟨t0, ht0, rfl, ⟨s, by omega, h1, h2⟩, fun s' t' hs' ht' a b => ?_⟩)
              by_cases c3 : s' = i
              · subst c3; rw [c2] at b; have := (nI_eq (by omega) (by omega)).mp b; omega
              · exact h3 s' t' (by omega) ht' a b
            · rw [if_neg (by rw [nI_leI (by omega) (by omega)]; exact c4)]
              refine ih _ (Or.inr ⟨t, ht, rfl, ⟨i, by omega, e2', c2⟩, fun s' t' hs' ht' a b => ?_⟩)
              by_cases c3 : s' = i
              · subst c3; rw [c2] at b; have := (nI_eq (by omega) (by omega)).mp b; omega
              · have := h3 s' t' (by omega) ht' a b
                omega
      · rw [if_neg (by rw [nI_eq (by omega) (by omega)]; exact c1)]
        exact ih l (keep (fun z => absurd (e2 ▸ z) c1))
  obtain ⟨⟨x, T⟩, e, q1, q2⟩ := this
  rw [e, show T = S from q2, isF_u (show isF (suB V r f) 8 x from q1) lsI_is]
theorem C_was {V : Vy} {v : Nat} {S : St} {r : Rw} (hn : Sn V v r S) {f : Nat} (hf : f < vF V) {t : Int32} (ht : t = -1 ∨ ∃ k, k < vF V ∧ t = nI k) : fX0_wasSungIn (nI f) t S = some (b2i (hdB V r f t), S) := by
  have hn' := hn
  obtain ⟨hC, h0, hp, hg, hpo, hso⟩ := hn
  have hV := hC.1
  have hS6 := hV.2.1
  have hF8 := hV.1
  have hv := hC.2.1
  have hS := hC.2.2.2.1
  unfold fX0_wasSungIn hdB
  rcases ht with rfl | ⟨t, ht, rfl⟩
  · rw [if_pos rfl, if_pos rfl, C_least hn' hf, bd_s]
    by_cases c : lsI V r f = -1
    · rw [if_pos c, decide_eq_true c]; rfl
    · rw [if_neg c, decide_eq_false c]; rfl
  · rw [if_neg (nI_ne_m1 (by omega)), if_neg (nI_ne_m1 (by omega)), nI_clamp (by omega)]
    have : ok (LX0_wasSungIn_22 FU (nI f) (nI t) 0 S) (fun q => q = (b2i (suB V r f t), S)) := by
      refine ok_for (σ := Unit) (fun k i _ => LX0_wasSungIn_22 k (nI f) (nI t) (nI i) S) _ (fun i _ => ∀ s, s < i → plN V r s = f → ¬ sgI V r s = nI t) (vS' V) ?_ ?_ FU 0 () (by omega) (by unfold FU; omega) (fun s hs => absurd hs (by omega))
      · intro k _ hI
        simp (disch := omega) only [LX0_wasSungIn_22, KX0_wasSungIn_22, gm_v h0 hv, hS, nI_leE, nI_ltE, nI_eqE, nI_m1, c0a, c0b, c0c, c0d, c0e, c1a, c1b, c1c, c1d, c1e, c2a, c2b, c2c, c2d, c2e, c3a, c3b, c3c, c3d, c3e, c4a, c4b, c4c, c4d, c4e, c5a, c5b, c5c, c5d, c5e, c6a, c6b, c6c, c6d, c6e, c7a, c7b, c7c, c7d, c7e, c8a, c8b, c8c, c8d, c8e, c9a, c9b, c9c, c9d, c9e, c10a, c10b, c10c, c10d, c10e, c12a, c12b, c12c, c12d, c12e, c14a, c14b, c14c, c14d, c14e, c16a, c16b, c16c, c16d, c16e, c20a, c20b, c20c, c20d, c20e, c30a, c30b, c30c, c30d, c30e, c32a, c32b, c32c, c32d, c32e, c36a, c36b, c36c, c36d, c36e, c40a, c40b, c40c, c40d, c40e, c41a, c41b, c41c, c41d, c41e, c42a, c42b, c42c, c42d, c42e, c43a, c43b, c43c, c43d, c43e, c45a, c45b, c45c, c45d, c45e, c47a, c47b, c47c, c47d, c47e, c48a, c48b, c48c, c48d, c48e, c57a, c57b, c57c, c57d, c57e, c59a, c59b, c59c, c59d, c59e, c60a, c60b, c60c, c60d, c60e, c61a, c61b, c61c, c61d, c61e, c62a, c62b, c62c, c62d, c62e, c64a, c64b, c64c, c64d, c64e, c96a, c96b, c96c, c96d, c96e, c97a, c97b, c97c, c97d, c97e, c98a, c98b, c98c, c98d, c98e, c99a, c99b, c99c, c99d, c99e, c100a, c100b, c100c, c100d, c100e, c122a, c122b, c122c, c122d, c122e, c700a, c700b, c700c, c700d, c700e, c4240a, c4240b, c4240c, c4240d, c4240e, c9999a, c9999b, c9999c, c9999d, c9999e, c100000a, c100000b, c100000c, c100000d, c100000e, c1000000a, c1000000b, c1000000c, c1000000d, c1000000e, if_T, rz_0]
        refine ok_some ?_
        rw [show suB V r f t = false from suN_f.mpr hI]; rfl
      · intro k i _ hi hI ih
        obtain ⟨p, hpF, e1, e2⟩ := hpo i hi
        simp (disch := omega) only [LX0_wasSungIn_22, KX0_wasSungIn_22, gm_v h0 hv, hS, nI_leE, nI_ltE, nI_eqE, nI_m1, c0a, c0b, c0c, c0d, c0e, c1a, c1b, c1c, c1d, c1e, c2a, c2b, c2c, c2d, c2e, c3a, c3b, c3c, c3d, c3e, c4a, c4b, c4c, c4d, c4e, c5a, c5b, c5c, c5d, c5e, c6a, c6b, c6c, c6d, c6e, c7a, c7b, c7c, c7d, c7e, c8a, c8b, c8c, c8d, c8e, c9a, c9b, c9c, c9d, c9e, c10a, c10b, c10c, c10d, c10e, c12a, c12b, c12c, c12d, c12e, c14a, c14b, c14c, c14d, c14e, c16a, c16b, c16c, c16d, c16e, c20a, c20b, c20c, c20d, c20e, c30a, c30b, c30c, c30d, c30e, c32a, c32b, c32c, c32d, c32e, c36a, c36b, c36c, c36d, c36e, c40a, c40b, c40c, c40d, c40e, c41a, c41b, c41c, c41d, c41e, c42a, c42b, c42c, c42d, c42e, c43a, c43b, c43c, c43d, c43e, c45a, c45b, c45c, c45d, c45e, c47a, c47b, c47c, c47d, c47e, c48a, c48b, c48c, c48d, c48e, c57a, c57b, c57c, c57d, c57e, c59a, c59b, c59c, c59d, c59e, c60a, c60b, c60c, c60d, c60e, c61a, c61b, c61c, c61d, c61e, c62a, c62b, c62c, c62d, c62e, c64a, c64b, c64c, c64d, c64e, c96a, c96b, c96c, c96d, c96e, c97a, c97b, c97c, c97d, c97e, c98a, c98b, c98c, c98d, c98e, c99a, c99b, c99c, c99d, c99e, c100a, c100b, c100c, c100d, c100e, c122a, c122b, c122c, c122d, c122e, c700a, c700b, c700c, c700d, c700e, c4240a, c4240b, c4240c, c4240d, c4240e, c9999a, c9999b, c9999c, c9999d, c9999e, c100000a, c100000b, c100000c, c100000d, c100000e, c1000000a, c1000000b, c1000000c, c1000000d, c1000000e, if_F, rd131, rd132, rd133, rd134, rd135, rd136, rd131_0, rd131_1, rd131_8, hp i hi, hg i hi, BX0_wasSungIn_55, bd_s, bv_s, bt_s, bt_x, vl_s, pf_s, ri_s, rz_0, rz_1, tri_s, trz_0, trz_1, trx_s, pz_0, pz_1, nI_add, pk_mul, up_at, la2, la5, la6, la8, la14, la62, la64, la98, la700, ra1, ra2, ra6, ra8, ra12, ra20, ra36, ra48, lm6, lm8, lm10, lm100, lm106, rm6, rm8, rm10, rm100, rm106]
        rw [e1]
        by_cases c1 : p = f
        · rw [if_pos (by rw [c1])]
          by_cases c2 : sgI V r i = nI t
          · rw [if_pos c2]
            refine ok_some ?_
            rw [show suB V r f t = true from suN_t.mpr ⟨i, hi, by omega, c2⟩]; rfl
          · rw [if_neg c2]
            refine ih () (fun s hs a => ?_)
            by_cases c : s = i
            · subst c; exact c2
            · exact hI s (by omega) a
        · rw [if_neg (by rw [nI_eq (by omega) (by omega)]; exact c1)]
          refine ih () (fun s hs a => ?_)
          by_cases c : s = i
          · subst c; exact absurd (e2 ▸ a) c1
          · exact hI s (by omega) a
    obtain ⟨b, e, q⟩ := this
    rw [e, q]
/-! all that is heard -/
def Hd (V : Vy) (m : Nat) (hF hK : Nat → Nat) (hT : Nat → Int32) : Prop := m ≤ 8 ∧ ∀ i, i < m → hF i < vF V ∧ 1 ≤ hK i ∧ hK i ≤ 30 ∧ (hT i = -1 ∨ ∃ t, t < vF V ∧ hT i = nI t)
def HdC (m : Nat) (hF hK : Nat → Nat) (hT : Nat → Int32) (S : St) : Prop := S 36 4 = nI m ∧ ∀ i, i < m → S 79 i = nI (hF i) ∧ S 80 i = nI (hK i) ∧ S 81 i = hT i
def HdM (m : Nat) (hF hK : Nat → Nat) (hT : Nat → Int32) (S : St) : Prop := S 142 37 = nI m ∧ ∀ i, i < m → S 173 i = nI (hF i) ∧ S 174 i = nI (hK i) ∧ S 175 i = hT i
theorem Rl.hd {V : Vy} {v d : Nat} {S : St} (h : Rl V v d S) : ∃ m hF hK hT, Hd V m hF hK hT ∧ HdC m hF hK hT S ∧ HdM m hF hK hT S := by
  have hF8 := h.vk.1
  obtain ⟨-, -, -, ⟨m, m8, e1, e2, hi⟩, -⟩ := h.st
  refine ⟨m, fun i => (S 173 i).toNatClampNeg, fun i => (S 174 i).toNatClampNeg, fun i => S 175 i, ⟨m8, fun i hm => ?_⟩, ⟨e1, fun i hm => ?_⟩, ⟨e2, fun i hm => ?_⟩⟩
  · obtain ⟨-, -, -, ⟨f, hf, a⟩, ⟨k, k1, k30, b⟩, c⟩ := hi i hm
    show (S 173 i).toNatClampNeg < vF V ∧ 1 ≤ (S 174 i).toNatClampNeg ∧ (S 174 i).toNatClampNeg ≤ 30 ∧ _
    rw [a, b, nI_clamp (by omega), nI_clamp (by omega)]
    exact ⟨hf, k1, k30, c⟩
  · obtain ⟨x1, x2, x3, ⟨f, hf, a⟩, ⟨k, k1, k30, b⟩, c⟩ := hi i hm
    show S 79 i = nI (S 173 i).toNatClampNeg ∧ S 80 i = nI (S 174 i).toNatClampNeg ∧ S 81 i = S 175 i
    refine ⟨?_, ?_, x3⟩
    · rw [show S 79 i = S 173 i from x1, a, nI_clamp (by omega)]
    · rw [show S 80 i = S 174 i from x2, b, nI_clamp (by omega)]
  · obtain ⟨x1, x2, x3, ⟨f, hf, a⟩, ⟨k, k1, k30, b⟩, c⟩ := hi i hm
    show S 173 i = nI (S 173 i).toNatClampNeg ∧ S 174 i = nI (S 174 i).toNatClampNeg ∧ S 175 i = S 175 i
    refine ⟨?_, ?_, rfl⟩
    · rw [a, nI_clamp (by omega)]
    · rw [b, nI_clamp (by omega)]
def asH (V : Vy) (r : Rw) (m : Nat) (hF hK : Nat → Nat) (hT : Nat → Int32) : Bool := allB (fun i => hdB V (hrs V r (hK i - 1)) (hF i) (hT i)) m
theorem rg_asH {V : Vy} (hV : VOk V) {r r' : Rw} (h : rg V r r') (hr : ROk V 10000 r) {m : Nat} {hF hK : Nat → Nat} {hT : Nat → Int32} (hh : Hd V m hF hK hT) : asH V r m hF hK hT = asH V r' m hF hK hT := by
  refine allB_congr _ (fun i hi => ?_)
  obtain ⟨-, k1, k30, -⟩ := hh.2 i hi
  exact rg_hdB hV (rg_hrs hV h hr _ (by omega)) (hrs_ok hr hV _ (by omega)).1 (by omega)
theorem C_last {S : St} {m : Nat} {hF hK : Nat → Nat} {hT : Nat → Int32} (m8 : m ≤ 8) (hk : ∀ i, i < m → hK i ≤ 30) (hc : HdC m hF hK hT S) : ok (fX4_lastHeardHour 36 S) (fun q => q.2 = S ∧ ∃ L, L ≤ 30 ∧ q.1 = nI L ∧ ∀ i, i < m → hK i ≤ L) := by
  obtain ⟨h4, hi⟩ := hc
  unfold fX4_lastHeardHour
  refine ok_for (σ := Int32) (fun k i l => LX4_lastHeardHour_4 k 36 l (nI i) S) _ (fun i l => ∃ L, L ≤ 30 ∧ l = nI L ∧ ∀ j, j < i → hK j ≤ L) m ?_ ?_ FU 0 0 (by omega) (by unfold FU; omega) ⟨0, by omega, rfl, fun j hj => absurd hj (by omega)⟩
  · intro k l hI
    simp (disch := omega) only [LX4_lastHeardHour_4, KX4_lastHeardHour_4, h4, nI_leE, nI_ltE, nI_eqE, nI_m1, c0a, c0b, c0c, c0d, c0e, c1a, c1b, c1c, c1d, c1e, c2a, c2b, c2c, c2d, c2e, c3a, c3b, c3c, c3d, c3e, c4a, c4b, c4c, c4d, c4e, c5a, c5b, c5c, c5d, c5e, c6a, c6b, c6c, c6d, c6e, c7a, c7b, c7c, c7d, c7e, c8a, c8b, c8c, c8d, c8e, c9a, c9b, c9c, c9d, c9e, c10a, c10b, c10c, c10d, c10e, c12a, c12b, c12c, c12d, c12e, c14a, c14b, c14c, c14d, c14e, c16a, c16b, c16c, c16d, c16e, c20a, c20b, c20c, c20d, c20e, c30a, c30b, c30c, c30d, c30e, c32a, c32b, c32c, c32d, c32e, c36a, c36b, c36c, c36d, c36e, c40a, c40b, c40c, c40d, c40e, c41a, c41b, c41c, c41d, c41e, c42a, c42b, c42c, c42d, c42e, c43a, c43b, c43c, c43d, c43e, c45a, c45b, c45c, c45d, c45e, c47a, c47b, c47c, c47d, c47e, c48a, c48b, c48c, c48d, c48e, c57a, c57b, c57c, c57d, c57e, c59a, c59b, c59c, c59d, c59e, c60a, c60b, c60c, c60d, c60e, c61a, c61b, c61c, c61d, c61e, c62a, c62b, c62c, c62d, c62e, c64a, c64b, c64c, c64d, c64e, c96a, c96b, c96c, c96d, c96e, c97a, c97b, c97c, c97d, c97e, c98a, c98b, c98c, c98d, c98e, c99a, c99b, c99c, c99d, c99e, c100a, c100b, c100c, c100d, c100e, c122a, c122b, c122c, c122d, c122e, c700a, c700b, c700c, c700d, c700e, c4240a, c4240b, c4240c, c4240d, c4240e, c9999a, c9999b, c9999c, c9999d, c9999e, c100000a, c100000b, c100000c, c100000d, c100000e, c1000000a, c1000000b, c1000000c, c1000000d, c1000000e, if_T, ri_s]
    exact ok_some ⟨rfl, hI⟩
  · intro k i l hi' hI ih
    obtain ⟨L, L30, rfl, hL⟩ := hI
    have k30 := hk i hi'
    simp (disch := omega) only [LX4_lastHeardHour_4, KX4_lastHeardHour_4, h4, nI_leE, nI_ltE, nI_eqE, nI_m1, c0a, c0b, c0c, c0d, c0e, c1a, c1b, c1c, c1d, c1e, c2a, c2b, c2c, c2d, c2e, c3a, c3b, c3c, c3d, c3e, c4a, c4b, c4c, c4d, c4e, c5a, c5b, c5c, c5d, c5e, c6a, c6b, c6c, c6d, c6e, c7a, c7b, c7c, c7d, c7e, c8a, c8b, c8c, c8d, c8e, c9a, c9b, c9c, c9d, c9e, c10a, c10b, c10c, c10d, c10e, c12a, c12b, c12c, c12d, c12e, c14a, c14b, c14c, c14d, c14e, c16a, c16b, c16c, c16d, c16e, c20a, c20b, c20c, c20d, c20e, c30a, c30b, c30c, c30d, c30e, c32a, c32b, c32c, c32d, c32e, c36a, c36b, c36c, c36d, c36e, c40a, c40b, c40c, c40d, c40e, c41a, c41b, c41c, c41d, c41e, c42a, c42b, c42c, c42d, c42e, c43a, c43b, c43c, c43d, c43e, c45a, c45b, c45c, c45d, c45e, c47a, c47b, c47c, c47d, c47e, c48a, c48b, c48c, c48d, c48e, c57a, c57b, c57c, c57d, c57e, c59a, c59b, c59c, c59d, c59e, c60a, c60b, c60c, c60d, c60e, c61a, c61b, c61c, c61d, c61e, c62a, c62b, c62c, c62d, c62e, c64a, c64b, c64c, c64d, c64e, c96a, c96b, c96c, c96d, c96e, c97a, c97b, c97c, c97d, c97e, c98a, c98b, c98c, c98d, c98e, c99a, c99b, c99c, c99d, c99e, c100a, c100b, c100c, c100d, c100e, c122a, c122b, c122c, c122d, c122e, c700a, c700b, c700c, c700d, c700e, c4240a, c4240b, c4240c, c4240d, c4240e, c9999a, c9999b, c9999c, c9999d, c9999e, c100000a, c100000b, c100000c, c100000d, c100000e, c1000000a, c1000000b, c1000000c, c1000000d, c1000000e, if_F, show sr 36 6 = 80 from rfl, rd80, (hi i hi').2.1, bd_s, bv_s, bt_s, bt_x, vl_s, pf_s, ri_s, rz_0, rz_1, tri_s, trz_0, trz_1, trx_s, pz_0, pz_1, nI_add, pk_mul, up_at, la2, la5, la6, la8, la14, la62, la64, la98, la700, ra1, ra2, ra6, ra8, ra12, ra20, ra36, ra48, lm6, lm8, lm10, lm100, lm106, rm6, rm8, rm10, rm100, rm106]
    by_cases c : L < hK i
    · rw [if_pos c]
      refine ih _ ⟨hK i, k30, rfl, fun j hj => ?_⟩
      by_cases c2 : j = i
      · subst c2; omega
      · have := hL j (by omega); omega
    · rw [if_neg c]
      refine ih _ ⟨L, L30, rfl, fun j hj => ?_⟩
      by_cases c2 : j = i
      · subst c2; omega
      · exact hL j (by omega)
