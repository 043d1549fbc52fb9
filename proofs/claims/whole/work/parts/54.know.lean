theorem ok_for2 {β σ : Type} (L : Nat → Nat → σ → Option β) (Q : β → Prop) (I : Nat → σ → Prop) (N : Nat)
    (hend : ∀ n s, I N s → ok (L (n + 1) N s) Q) (hstep : ∀ n i s, i < N → N - i ≤ n → I i s → (∀ s', I (i + 1) s' → ok (L n (i + 1) s') Q) → ok (L (n + 1) i s) Q) :
    ∀ n i s, i ≤ N → N - i < n → I i s → ok (L n i s) Q := by
  intro n
  induction n with
  | zero => intro i s _ h; omega
  | succ n ih =>
    intro i s hi hn hI
    rcases Nat.lt_or_ge i N with h | h
    · exact hstep n i s h (by omega) hI (fun s' hs' => ih (i + 1) s' (by omega) (by omega) hs')
    · have : i = N := by omega
      subst this
      exact hend n s hI
def allB (p : Nat → Bool) : Nat → Bool
  | 0 => true
  | n + 1 => allB p n && p n
theorem allB_f {p : Nat → Bool} {i : Nat} (hp : p i = false) : ∀ n, i < n → allB p n = false := by
  intro n
  induction n with
  | zero => intro h; omega
  | succ n ih =>
    intro h
    show (allB p n && p n) = false
    by_cases c : i = n
    · subst c; rw [hp]; simp
    · rw [ih (by omega)]; rfl
theorem allB_congr {p p' : Nat → Bool} : ∀ n, (∀ i, i < n → p i = p' i) → allB p n = allB p' n := by
  intro n
  induction n with
  | zero => intro _; rfl
  | succ n ih => intro h; show (allB p n && p n) = (allB p' n && p' n); rw [ih (fun i hi => h i (by omega)), h n (by omega)]
def b2i (b : Bool) : Int32 := if b then 1 else 0
/-- whether all of these know the tune -/
def knw (V : Vy) (r : Rw) (who t : Int32) : Bool := allB (fun q => !(bit who (nI q)) || bit (r (2 + q)) t) (vS' V)
theorem rg_knw {V : Vy} (hV : VOk V) {r r' : Rw} (h : rg V r r') {who t : Int32} : knw V r who t = knw V r' who t := by
  have hS6 := hV.2.1
  exact allB_congr _ (fun i hi => by rw [h _ (rl_a (by omega) (by omega) (by omega))])
theorem C_know {V : Vy} {v : Nat} {S : St} (hC : VC V v S) (h0 : S 130 0 = nI v) {who t : Int32} : fX0_know who t S = some (b2i (knw V (S 131) who t), S) := by
  have hV := hC.1
  have hS6 := hV.2.1
  have hv := hC.2.1
  have hS := hC.2.2.2.1
  have : ok (fX0_know who t S) (fun q => q = (b2i (knw V (S 131) who t), S)) := by
    unfold fX0_know
    refine ok_for (σ := Unit) (fun n i _ => LX0_know_2 n who t (nI i) S) _ (fun i _ => allB (fun q => !(bit who (nI q)) || bit (S 131 (2 + q)) t) i = true) (vS' V) ?_ ?_ FU 0 () (by omega) (by unfold FU; omega) rfl
    · intro n _ hI
      simp (disch := omega) only [LX0_know_2, KX0_know_2, gm_v h0 hv, hS, nI_leE, nI_ltE, nI_eqE, nI_m1, c0a, c0b, c0c, c0d, c0e, c1a, c1b, c1c, c1d, c1e, c2a, c2b, c2c, c2d, c2e, c3a, c3b, c3c, c3d, c3e, c4a, c4b, c4c, c4d, c4e, c5a, c5b, c5c, c5d, c5e, c6a, c6b, c6c, c6d, c6e, c7a, c7b, c7c, c7d, c7e, c8a, c8b, c8c, c8d, c8e, c9a, c9b, c9c, c9d, c9e, c10a, c10b, c10c, c10d, c10e, c12a, c12b, c12c, c12d, c12e, c14a, c14b, c14c, c14d, c14e, c16a, c16b, c16c, c16d, c16e, c20a, c20b, c20c, c20d, c20e, c30a, c30b, c30c, c30d, c30e, c32a, c32b, c32c, c32d, c32e, c36a, c36b, c36c, c36d, c36e, c40a, c40b, c40c, c40d, c40e, c41a, c41b, c41c, c41d, c41e, c42a, c42b, c42c, c42d, c42e, c43a, c43b, c43c, c43d, c43e, c45a, c45b, c45c, c45d, c45e, c47a, c47b, c47c, c47d, c47e, c48a, c48b, c48c, c48d, c48e, c57a, c57b, c57c, c57d, c57e, c59a, c59b, c59c, c59d, c59e, c60a, c60b, c60c, c60d, c60e, c61a, c61b, c61c, c61d, c61e, c62a, c62b, c62c, c62d, c62e, c64a, c64b, c64c, c64d, c64e, c96a, c96b, c96c, c96d, c96e, c97a, c97b, c97c, c97d, c97e, c98a, c98b, c98c, c98d, c98e, c99a, c99b, c99c, c99d, c99e, c100a, c100b, c100c, c100d, c100e, c122a, c122b, c122c, c122d, c122e, c700a, c700b, c700c, c700d, c700e, c4240a, c4240b, c4240c, c4240d, c4240e, c9999a, c9999b, c9999c, c9999d, c9999e, c100000a, c100000b, c100000c, c100000d, c100000e, c1000000a, c1000000b, c1000000c, c1000000d, c1000000e, if_T, rz_1]
      refine ok_some ?_
      unfold knw
      rw [hI]; rfl
    · intro n i _ hi hI ih
      simp (disch := omega) only [LX0_know_2, KX0_know_2, gm_v h0 hv, hS, nI_leE, nI_ltE, nI_eqE, nI_m1, c0a, c0b, c0c, c0d, c0e, c1a, c1b, c1c, c1d, c1e, c2a, c2b, c2c, c2d, c2e, c3a, c3b, c3c, c3d, c3e, c4a, c4b, c4c, c4d, c4e, c5a, c5b, c5c, c5d, c5e, c6a, c6b, c6c, c6d, c6e, c7a, c7b, c7c, c7d, c7e, c8a, c8b, c8c, c8d, c8e, c9a, c9b, c9c, c9d, c9e, c10a, c10b, c10c, c10d, c10e, c12a, c12b, c12c, c12d, c12e, c14a, c14b, c14c, c14d, c14e, c16a, c16b, c16c, c16d, c16e, c20a, c20b, c20c, c20d, c20e, c30a, c30b, c30c, c30d, c30e, c32a, c32b, c32c, c32d, c32e, c36a, c36b, c36c, c36d, c36e, c40a, c40b, c40c, c40d, c40e, c41a, c41b, c41c, c41d, c41e, c42a, c42b, c42c, c42d, c42e, c43a, c43b, c43c, c43d, c43e, c45a, c45b, c45c, c45d, c45e, c47a, c47b, c47c, c47d, c47e, c48a, c48b, c48c, c48d, c48e, c57a, c57b, c57c, c57d, c57e, c59a, c59b, c59c, c59d, c59e, c60a, c60b, c60c, c60d, c60e, c61a, c61b, c61c, c61d, c61e, c62a, c62b, c62c, c62d, c62e, c64a, c64b, c64c, c64d, c64e, c96a, c96b, c96c, c96d, c96e, c97a, c97b, c97c, c97d, c97e, c98a, c98b, c98c, c98d, c98e, c99a, c99b, c99c, c99d, c99e, c100a, c100b, c100c, c100d, c100e, c122a, c122b, c122c, c122d, c122e, c700a, c700b, c700c, c700d, c700e, c4240a, c4240b, c4240c, c4240d, c4240e, c9999a, c9999b, c9999c, c9999d, c9999e, c100000a, c100000b, c100000c, c100000d, c100000e, c1000000a, c1000000b, c1000000c, c1000000d, c1000000e, if_F, bd_s, bv_s, bt_s, bt_x, vl_s, pf_s, ri_s, rz_0, rz_1, tri_s, trz_0, trz_1, trx_s, pz_0, pz_1, nI_add, pk_mul, up_at, la2, la5, la6, la8, la14, la62, la64, la98, la700, ra1, ra2, ra6, ra8, ra12, ra20, ra36, ra48, lm6, lm8, lm10, lm100, lm106, rm6, rm8, rm10, rm100, rm106, rd131, rd132, rd133, rd134, rd135, rd136, rd131_0, rd131_1, rd131_8, BX0_know_38]
      by_cases c : ((who >>> (nI i &&& 31)) &&& 1) = 0
      · rw [if_pos c]
        refine ih () ?_
        show (allB _ i && (!(bit who (nI i)) || bit (S 131 (2 + i)) t)) = true
        rw [hI, bit_f c]; rfl
      · rw [if_neg c]
        by_cases e : ((S 131 (2 + i) >>> (t &&& 31)) &&& 1) = 0
        · rw [if_pos e]
          refine ok_some ?_
          unfold knw
          rw [allB_f (i := i) (by rw [bit_t c, bit_f e]; rfl) _ hi]; rfl
        · rw [if_neg e]
          refine ih () ?_
          show (allB _ i && (!(bit who (nI i)) || bit (S 131 (2 + i)) t)) = true
          rw [hI, bit_t e]; simp
  obtain ⟨b, e, q⟩ := this
  rw [e, q]
/-- the first of so many -/
def isF (p : Nat → Bool) (N : Nat) (x : Int32) : Prop := (∃ i, i < N ∧ p i = true ∧ (∀ j, j < i → p j = false) ∧ x = nI i) ∨ ((∀ j, j < N → p j = false) ∧ x = -1)
theorem isF_u {p : Nat → Bool} {N : Nat} {x y : Int32} (hx : isF p N x) (hy : isF p N y) : x = y := by
  rcases hx with ⟨i, hi, pi, bi, rfl⟩ | ⟨ha, rfl⟩ <;> rcases hy with ⟨j, hj, pj, bj, rfl⟩ | ⟨hb, rfl⟩
  · rcases Nat.lt_trichotomy i j with c | c | c
    · rw [bj i c] at pi; cases pi
    · rw [c]
    · rw [bi j c] at pj; cases pj
  · rw [hb i hi] at pi; cases pi
  · rw [ha j hj] at pj; cases pj
  · rfl
theorem isF_congr {p p' : Nat → Bool} {N : Nat} {x : Int32} (h : ∀ i, i < N → p i = p' i) (hx : isF p N x) : isF p' N x := by
  rcases hx with ⟨i, hi, pi, bi, e⟩ | ⟨ha, e⟩
  · exact Or.inl ⟨i, hi, by rw [← h i hi]; exact pi, fun j hj => by rw [← h j (by omega)]; exact bi j hj, e⟩
  · exact Or.inr ⟨fun j hj => by rw [← h j hj]; exact ha j hj, e⟩
theorem C_behind {V : Vy} {v d : Nat} {S : St} (h : Rl V v d S) {who t : Int32} : ok (fX9_behindHowMany who t S) (fun q => isF (fun i => knw V (hrs V (S 37) i) who t) 61 q.1 ∧ cK S q.2) := by
  have hV := h.vk
  obtain ⟨S1, e1, b1, b2, b3, b4, b5⟩ := C_begin (a2 := 37) h.C rfl (by decide) h.rok (by decide)
  have hr1 := b2.2.2.1
  unfold fX9_behindHowMany
  rw [gm_v h.2.1 h.hv, e1, bv_s]
  refine ok_for (fun n i T => LX9_behindHowMany_20 n who t (nI i) T) _ (fun i T => (∀ j, j < i → knw V (hrs V (S 37) j) who t = false) ∧ T 131 = hrs V (S1 131) i ∧ VC V v T ∧ T 130 0 = nI v ∧ cFr S T) 61 ?_ ?_ FU 0 S1 (by omega) (by decide) ⟨fun j hj => absurd hj (by omega), rfl, b2.1, b2.2.1, b5⟩
  · intro n T hI
    simp (disch := omega) only [LX9_behindHowMany_20, KX9_behindHowMany_20, nI_leE, nI_ltE, nI_eqE, nI_m1, c0a, c0b, c0c, c0d, c0e, c1a, c1b, c1c, c1d, c1e, c2a, c2b, c2c, c2d, c2e, c3a, c3b, c3c, c3d, c3e, c4a, c4b, c4c, c4d, c4e, c5a, c5b, c5c, c5d, c5e, c6a, c6b, c6c, c6d, c6e, c7a, c7b, c7c, c7d, c7e, c8a, c8b, c8c, c8d, c8e, c9a, c9b, c9c, c9d, c9e, c10a, c10b, c10c, c10d, c10e, c12a, c12b, c12c, c12d, c12e, c14a, c14b, c14c, c14d, c14e, c16a, c16b, c16c, c16d, c16e, c20a, c20b, c20c, c20d, c20e, c30a, c30b, c30c, c30d, c30e, c32a, c32b, c32c, c32d, c32e, c36a, c36b, c36c, c36d, c36e, c40a, c40b, c40c, c40d, c40e, c41a, c41b, c41c, c41d, c41e, c42a, c42b, c42c, c42d, c42e, c43a, c43b, c43c, c43d, c43e, c45a, c45b, c45c, c45d, c45e, c47a, c47b, c47c, c47d, c47e, c48a, c48b, c48c, c48d, c48e, c57a, c57b, c57c, c57d, c57e, c59a, c59b, c59c, c59d, c59e, c60a, c60b, c60c, c60d, c60e, c61a, c61b, c61c, c61d, c61e, c62a, c62b, c62c, c62d, c62e, c64a, c64b, c64c, c64d, c64e, c96a, c96b, c96c, c96d, c96e, c97a, c97b, c97c, c97d, c97e, c98a, c98b, c98c, c98d, c98e, c99a, c99b, c99c, c99d, c99e, c100a, c100b, c100c, c100d, c100e, c122a, c122b, c122c, c122d, c122e, c700a, c700b, c700c, c700d, c700e, c4240a, c4240b, c4240c, c4240d, c4240e, c9999a, c9999b, c9999c, c9999d, c9999e, c100000a, c100000b, c100000c, c100000d, c100000e, c1000000a, c1000000b, c1000000c, c1000000d, c1000000e, if_T]
    exact ok_some ⟨Or.inr ⟨hI.1, rfl⟩, cFr.k hI.2.2.2.2⟩
  · intro n i T hi hI ih
    obtain ⟨i1, i2, i3, i4, i5⟩ := hI
    have ro := (hrs_ok hr1 hV i (by omega)).1
    have ek : knw V (T 131) who t = knw V (hrs V (S 37) i) who t := by rw [i2]; exact rg_knw hV ((ag_hrs hV b1 hr1 i (by omega)).w hV)
    simp (disch := omega) only [LX9_behindHowMany_20, KX9_behindHowMany_20, nI_leE, nI_ltE, nI_eqE, nI_m1, c0a, c0b, c0c, c0d, c0e, c1a, c1b, c1c, c1d, c1e, c2a, c2b, c2c, c2d, c2e, c3a, c3b, c3c, c3d, c3e, c4a, c4b, c4c, c4d, c4e, c5a, c5b, c5c, c5d, c5e, c6a, c6b, c6c, c6d, c6e, c7a, c7b, c7c, c7d, c7e, c8a, c8b, c8c, c8d, c8e, c9a, c9b, c9c, c9d, c9e, c10a, c10b, c10c, c10d, c10e, c12a, c12b, c12c, c12d, c12e, c14a, c14b, c14c, c14d, c14e, c16a, c16b, c16c, c16d, c16e, c20a, c20b, c20c, c20d, c20e, c30a, c30b, c30c, c30d, c30e, c32a, c32b, c32c, c32d, c32e, c36a, c36b, c36c, c36d, c36e, c40a, c40b, c40c, c40d, c40e, c41a, c41b, c41c, c41d, c41e, c42a, c42b, c42c, c42d, c42e, c43a, c43b, c43c, c43d, c43e, c45a, c45b, c45c, c45d, c45e, c47a, c47b, c47c, c47d, c47e, c48a, c48b, c48c, c48d, c48e, c57a, c57b, c57c, c57d, c57e, c59a, c59b, c59c, c59d, c59e, c60a, c60b, c60c, c60d, c60e, c61a, c61b, c61c, c61d, c61e, c62a, c62b, c62c, c62d, c62e, c64a, c64b, c64c, c64d, c64e, c96a, c96b, c96c, c96d, c96e, c97a, c97b, c97c, c97d, c97e, c98a, c98b, c98c, c98d, c98e, c99a, c99b, c99c, c99d, c99e, c100a, c100b, c100c, c100d, c100e, c122a, c122b, c122c, c122d, c122e, c700a, c700b, c700c, c700d, c700e, c4240a, c4240b, c4240c, c4240d, c4240e, c9999a, c9999b, c9999c, c9999d, c9999e, c100000a, c100000b, c100000c, c100000d, c100000e, c1000000a, c1000000b, c1000000c, c1000000d, c1000000e, if_F, C_know i3 i4, ek, bd_s, bv_s, bt_s, bt_x, vl_s, pf_s, ri_s, rz_0, rz_1, tri_s, trz_0, trz_1, trx_s, pz_0, pz_1, nI_add, pk_mul, up_at, la2, la5, la6, la8, la14, la62, la64, la98, la700, ra1, ra2, ra6, ra8, ra12, ra20, ra36, ra48, lm6, lm8, lm10, lm100, lm106, rm6, rm8, rm10, rm100, rm106]
    cases hk : knw V (hrs V (S 37) i) who t with
    | true =>
      unfold b2i
      simp only [if_true]
      rw [if_neg (by decide)]
      exact ok_some ⟨Or.inl ⟨i, hi, hk, i1, rfl⟩, cFr.k i5⟩
    | false =>
      unfold b2i
      simp only [Bool.false_eq_true, if_false, if_true]
      obtain ⟨T1, e2, g1, g2, g3, g4, g5, g6⟩ := C_go (n := 1) i3 i4 (by rw [i2]; exact ro) (by decide) (by omega)
      rw [show (1 : Int32) = nI 1 from rfl, e2, bv_s]
      refine ih _ ⟨fun j hj => ?_, by rw [g1, i2]; rfl, i3.fr g6, by rw [g5]; exact i4, fun a h1 h2 h3 h4 h5 => (g6 a h1 h2 h3 h4 h5).trans (i5 a h1 h2 h3 h4 h5)⟩
      by_cases c : j = i
      · subst c; exact hk
      · exact i1 j (by omega)
theorem M_knownIn {V : Vy} {v d : Nat} {S : St} (h : Rl V v d S) {who t : Int32} : ok (fX10_knownIn who t (up S 142 3 0)) (fun q => isF (fun i => knw V (hrs V (S 37) i) who t) 61 q.1 ∧ mK S q.2 ∧ q.2 142 3 = 0) := by
  have hV := h.vk
  have hS6 := hV.2.1
  obtain ⟨T1, e1, e1', m1, m2, m3, m4, m5⟩ := M_lay h
  have ha : rg V (mr T1) (S 37) := by rw [m2]; exact h.rag.sm
  have out : ∀ (T : St) (x : Int32), mFr T1 T → isF (fun i => knw V (hrs V (S 37) i) who t) 61 x → ok (BX10_knownIn_102 x T) (fun q => isF (fun i => knw V (hrs V (S 37) i) who t) 61 q.1 ∧ mK S q.2 ∧ q.2 142 3 = 0) := by
    intro T x hT hx
    rw [e1'] at hT
    obtain ⟨T3, e3, c1, c2, c3⟩ := M_back hT
    unfold BX10_knownIn_102
    rw [e3, bv_s]
    refine ok_some ⟨hx, mK0.tr c1, ?_⟩
    show T3 142 3 = 0
    rw [c3 3 (by decide) (by decide), hT.2 3 (by decide) (by decide), row_ne (by decide), up_at]
  unfold fX10_knownIn
  rw [e1, bv_s]
  refine ok_for2 (fun n i T => LX10_knownIn_14 n who t (-1) (nI i) T) _ (fun i T => (∀ j, j < i → knw V (hrs V (S 37) j) who t = false) ∧ mr T = hrs V (mr T1) i ∧ mFr T1 T) 61 ?_ ?_ FU 0 T1 (by omega) (by decide) ⟨fun j hj => absurd hj (by omega), rfl, mFr.rf⟩
  · intro n T hI
    simp (disch := omega) only [LX10_knownIn_14, KX10_knownIn_14, nI_leE, nI_ltE, nI_eqE, nI_m1, c0a, c0b, c0c, c0d, c0e, c1a, c1b, c1c, c1d, c1e, c2a, c2b, c2c, c2d, c2e, c3a, c3b, c3c, c3d, c3e, c4a, c4b, c4c, c4d, c4e, c5a, c5b, c5c, c5d, c5e, c6a, c6b, c6c, c6d, c6e, c7a, c7b, c7c, c7d, c7e, c8a, c8b, c8c, c8d, c8e, c9a, c9b, c9c, c9d, c9e, c10a, c10b, c10c, c10d, c10e, c12a, c12b, c12c, c12d, c12e, c14a, c14b, c14c, c14d, c14e, c16a, c16b, c16c, c16d, c16e, c20a, c20b, c20c, c20d, c20e, c30a, c30b, c30c, c30d, c30e, c32a, c32b, c32c, c32d, c32e, c36a, c36b, c36c, c36d, c36e, c40a, c40b, c40c, c40d, c40e, c41a, c41b, c41c, c41d, c41e, c42a, c42b, c42c, c42d, c42e, c43a, c43b, c43c, c43d, c43e, c45a, c45b, c45c, c45d, c45e, c47a, c47b, c47c, c47d, c47e, c48a, c48b, c48c, c48d, c48e, c57a, c57b, c57c, c57d, c57e, c59a, c59b, c59c, c59d, c59e, c60a, c60b, c60c, c60d, c60e, c61a, c61b, c61c, c61d, c61e, c62a, c62b, c62c, c62d, c62e, c64a, c64b, c64c, c64d, c64e, c96a, c96b, c96c, c96d, c96e, c97a, c97b, c97c, c97d, c97e, c98a, c98b, c98c, c98d, c98e, c99a, c99b, c99c, c99d, c99e, c100a, c100b, c100c, c100d, c100e, c122a, c122b, c122c, c122d, c122e, c700a, c700b, c700c, c700d, c700e, c4240a, c4240b, c4240c, c4240d, c4240e, c9999a, c9999b, c9999c, c9999d, c9999e, c100000a, c100000b, c100000c, c100000d, c100000e, c1000000a, c1000000b, c1000000c, c1000000d, c1000000e, if_T]
    exact out T _ hI.2.2 (Or.inr ⟨hI.1, rfl⟩)
  · intro n i T hi hfu hI ih
    obtain ⟨i1, i2, i3⟩ := hI
    have ro := (hrs_ok m3 hV i (by omega)).1
    have hM : VM V T := m1.fr i3
    have hS := hM.2.2.1
    have ek : knw V (mr T) who t = knw V (hrs V (S 37) i) who t := by rw [i2]; exact rg_knw hV (rg_hrs hV ha m3 i (by omega))
    obtain ⟨T2, e2, g1, -, -, g4⟩ := M_hour hM (by rw [i2]; exact ro) (by omega) (by rw [i3.2 41 (by decide) (by decide)]; exact m4)
    have g14 : mFr T1 T2 := i3.tr g4
    simp (disch := omega) only [LX10_knownIn_14, KX10_knownIn_14, nI_leE, nI_ltE, nI_eqE, nI_m1, c0a, c0b, c0c, c0d, c0e, c1a, c1b, c1c, c1d, c1e, c2a, c2b, c2c, c2d, c2e, c3a, c3b, c3c, c3d, c3e, c4a, c4b, c4c, c4d, c4e, c5a, c5b, c5c, c5d, c5e, c6a, c6b, c6c, c6d, c6e, c7a, c7b, c7c, c7d, c7e, c8a, c8b, c8c, c8d, c8e, c9a, c9b, c9c, c9d, c9e, c10a, c10b, c10c, c10d, c10e, c12a, c12b, c12c, c12d, c12e, c14a, c14b, c14c, c14d, c14e, c16a, c16b, c16c, c16d, c16e, c20a, c20b, c20c, c20d, c20e, c30a, c30b, c30c, c30d, c30e, c32a, c32b, c32c, c32d, c32e, c36a, c36b, c36c, c36d, c36e, c40a, c40b, c40c, c40d, c40e, c41a, c41b, c41c, c41d, c41e, c42a, c42b, c42c, c42d, c42e, c43a, c43b, c43c, c43d, c43e, c45a, c45b, c45c, c45d, c45e, c47a, c47b, c47c, c47d, c47e, c48a, c48b, c48c, c48d, c48e, c57a, c57b, c57c, c57d, c57e, c59a, c59b, c59c, c59d, c59e, c60a, c60b, c60c, c60d, c60e, c61a, c61b, c61c, c61d, c61e, c62a, c62b, c62c, c62d, c62e, c64a, c64b, c64c, c64d, c64e, c96a, c96b, c96c, c96d, c96e, c97a, c97b, c97c, c97d, c97e, c98a, c98b, c98c, c98d, c98e, c99a, c99b, c99c, c99d, c99e, c100a, c100b, c100c, c100d, c100e, c122a, c122b, c122c, c122d, c122e, c700a, c700b, c700c, c700d, c700e, c4240a, c4240b, c4240c, c4240d, c4240e, c9999a, c9999b, c9999c, c9999d, c9999e, c100000a, c100000b, c100000c, c100000d, c100000e, c1000000a, c1000000b, c1000000c, c1000000d, c1000000e, if_F, if_T]
    refine ok_for (σ := Int32) (fun k q x => LX10_knownIn_32 (LX10_knownIn_14 n) k who t (-1) (nI i) x (nI q) T) _ (fun q x => x = b2i (allB (fun q => !(bit who (nI q)) || bit (mr T (2 + q)) t) q)) (vS' V) ?_ ?_ FU 0 1 (by omega) (by unfold FU; omega) rfl
    · intro k x hx
      subst hx
      have hkw : allB (fun q => !(bit who (nI q)) || bit (mr T (2 + q)) t) (vS' V) = knw V (hrs V (S 37) i) who t := ek
      rw [hkw]
      simp (disch := omega) only [LX10_knownIn_32, KX10_knownIn_32, rd145, rd146, rd147, rd148, rd149, rd150, rd151, rd152, rd153, rd154, rd155, rd156, rd157, rd158, rd159, rd160, rd161, rd162, rd163, rd164, rd165, rd166, rd167, rd168, rd169, rd170, rd171, rd172, rd173, rd174, rd175, rd176, rd177, rd178, rd179, rd180, rd181, rd182, rd183, rd184, rd185, rd145_0, rd145_2, rd145_3, rd145_4, rd145_5, rd145_6, rd145_7, rd156_0, rd156_1, rd166_0, rd178_0, hS, nI_leE, nI_ltE, nI_eqE, nI_m1, c0a, c0b, c0c, c0d, c0e, c1a, c1b, c1c, c1d, c1e, c2a, c2b, c2c, c2d, c2e, c3a, c3b, c3c, c3d, c3e, c4a, c4b, c4c, c4d, c4e, c5a, c5b, c5c, c5d, c5e, c6a, c6b, c6c, c6d, c6e, c7a, c7b, c7c, c7d, c7e, c8a, c8b, c8c, c8d, c8e, c9a, c9b, c9c, c9d, c9e, c10a, c10b, c10c, c10d, c10e, c12a, c12b, c12c, c12d, c12e, c14a, c14b, c14c, c14d, c14e, c16a, c16b, c16c, c16d, c16e, c20a, c20b, c20c, c20d, c20e, c30a, c30b, c30c, c30d, c30e, c32a, c32b, c32c, c32d, c32e, c36a, c36b, c36c, c36d, c36e, c40a, c40b, c40c, c40d, c40e, c41a, c41b, c41c, c41d, c41e, c42a, c42b, c42c, c42d, c42e, c43a, c43b, c43c, c43d, c43e, c45a, c45b, c45c, c45d, c45e, c47a, c47b, c47c, c47d, c47e, c48a, c48b, c48c, c48d, c48e, c57a, c57b, c57c, c57d, c57e, c59a, c59b, c59c, c59d, c59e, c60a, c60b, c60c, c60d, c60e, c61a, c61b, c61c, c61d, c61e, c62a, c62b, c62c, c62d, c62e, c64a, c64b, c64c, c64d, c64e, c96a, c96b, c96c, c96d, c96e, c97a, c97b, c97c, c97d, c97e, c98a, c98b, c98c, c98d, c98e, c99a, c99b, c99c, c99d, c99e, c100a, c100b, c100c, c100d, c100e, c122a, c122b, c122c, c122d, c122e, c700a, c700b, c700c, c700d, c700e, c4240a, c4240b, c4240c, c4240d, c4240e, c9999a, c9999b, c9999c, c9999d, c9999e, c100000a, c100000b, c100000c, c100000d, c100000e, c1000000a, c1000000b, c1000000c, c1000000d, c1000000e, if_T, BX10_knownIn_92, e2, bd_s, bv_s, bt_s, bt_x, vl_s, pf_s, ri_s, rz_0, rz_1, tri_s, trz_0, trz_1, trx_s, pz_0, pz_1, nI_add, pk_mul, up_at, la2, la5, la6, la8, la14, la62, la64, la98, la700, ra1, ra2, ra6, ra8, ra12, ra20, ra36, ra48, lm6, lm8, lm10, lm100, lm106, rm6, rm8, rm10, rm100, rm106]
      cases hk : knw V (hrs V (S 37) i) who t with
      | true =>
        unfold b2i
        simp only [if_true]
        rw [if_neg (by decide)]
        have hx : isF (fun i => knw V (hrs V (S 37) i) who t) 61 (nI i) := Or.inl ⟨i, hi, hk, i1, rfl⟩
        cases n with
        | zero => omega
        | succ n =>
          simp (disch := omega) only [LX10_knownIn_14, KX10_knownIn_14, nI_leE, nI_ltE, nI_eqE, nI_m1, c0a, c0b, c0c, c0d, c0e, c1a, c1b, c1c, c1d, c1e, c2a, c2b, c2c, c2d, c2e, c3a, c3b, c3c, c3d, c3e, c4a, c4b, c4c, c4d, c4e, c5a, c5b, c5c, c5d, c5e, c6a, c6b, c6c, c6d, c6e, c7a, c7b, c7c, c7d, c7e, c8a, c8b, c8c, c8d, c8e, c9a, c9b, c9c, c9d, c9e, c10a, c10b, c10c, c10d, c10e, c12a, c12b, c12c, c12d, c12e, c14a, c14b, c14c, c14d, c14e, c16a, c16b, c16c, c16d, c16e, c20a, c20b, c20c, c20d, c20e, c30a, c30b, c30c, c30d, c30e, c32a, c32b, c32c, c32d, c32e, c36a, c36b, c36c, c36d, c36e, c40a, c40b, c40c, c40d, c40e, c41a, c41b, c41c, c41d, c41e, c42a, c42b, c42c, c42d, c42e, c43a, c43b, c43c, c43d, c43e, c45a, c45b, c45c, c45d, c45e, c47a, c47b, c47c, c47d, c47e, c48a, c48b, c48c, c48d, c48e, c57a, c57b, c57c, c57d, c57e, c59a, c59b, c59c, c59d, c59e, c60a, c60b, c60c, c60d, c60e, c61a, c61b, c61c, c61d, c61e, c62a, c62b, c62c, c62d, c62e, c64a, c64b, c64c, c64d, c64e, c96a, c96b, c96c, c96d, c96e, c97a, c97b, c97c, c97d, c97e, c98a, c98b, c98c, c98d, c98e, c99a, c99b, c99c, c99d, c99e, c100a, c100b, c100c, c100d, c100e, c122a, c122b, c122c, c122d, c122e, c700a, c700b, c700c, c700d, c700e, c4240a, c4240b, c4240c, c4240d, c4240e, c9999a, c9999b, c9999c, c9999d, c9999e, c100000a, c100000b, c100000c, c100000d, c100000e, c1000000a, c1000000b, c1000000c, c1000000d, c1000000e, if_F]
          split
          · exact out T2 _ g14 hx
          · exact out T2 _ g14 hx
      | false =>
        unfold b2i
        simp only [Bool.false_eq_true, if_false, if_true]
        refine ih _ ⟨fun j hj => ?_, by rw [g1, i2]; rfl, g14⟩
        by_cases c : j = i
        · subst c; exact hk
        · exact i1 j (by omega)
    · intro k q x hq hx ih2
      subst hx
      simp (disch := omega) only [LX10_knownIn_32, KX10_knownIn_32, rd145, rd146, rd147, rd148, rd149, rd150, rd151, rd152, rd153, rd154, rd155, rd156, rd157, rd158, rd159, rd160, rd161, rd162, rd163, rd164, rd165, rd166, rd167, rd168, rd169, rd170, rd171, rd172, rd173, rd174, rd175, rd176, rd177, rd178, rd179, rd180, rd181, rd182, rd183, rd184, rd185, rd145_0, rd145_2, rd145_3, rd145_4, rd145_5, rd145_6, rd145_7, rd156_0, rd156_1, rd166_0, rd178_0, hS, nI_leE, nI_ltE, nI_eqE, nI_m1, c0a, c0b, c0c, c0d, c0e, c1a, c1b, c1c, c1d, c1e, c2a, c2b, c2c, c2d, c2e, c3a, c3b, c3c, c3d, c3e, c4a, c4b, c4c, c4d, c4e, c5a, c5b, c5c, c5d, c5e, c6a, c6b, c6c, c6d, c6e, c7a, c7b, c7c, c7d, c7e, c8a, c8b, c8c, c8d, c8e, c9a, c9b, c9c, c9d, c9e, c10a, c10b, c10c, c10d, c10e, c12a, c12b, c12c, c12d, c12e, c14a, c14b, c14c, c14d, c14e, c16a, c16b, c16c, c16d, c16e, c20a, c20b, c20c, c20d, c20e, c30a, c30b, c30c, c30d, c30e, c32a, c32b, c32c, c32d, c32e, c36a, c36b, c36c, c36d, c36e, c40a, c40b, c40c, c40d, c40e, c41a, c41b, c41c, c41d, c41e, c42a, c42b, c42c, c42d, c42e, c43a, c43b, c43c, c43d, c43e, c45a, c45b, c45c, c45d, c45e, c47a, c47b, c47c, c47d, c47e, c48a, c48b, c48c, c48d, c48e, c57a, c57b, c57c, c57d, c57e, c59a, c59b, c59c, c59d, c59e, c60a, c60b, c60c, c60d, c60e, c61a, c61b, c61c, c61d, c61e, c62a, c62b, c62c, c62d, c62e, c64a, c64b, c64c, c64d, c64e, c96a, c96b, c96c, c96d, c96e, c97a, c97b, c97c, c97d, c97e, c98a, c98b, c98c, c98d, c98e, c99a, c99b, c99c, c99d, c99e, c100a, c100b, c100c, c100d, c100e, c122a, c122b, c122c, c122d, c122e, c700a, c700b, c700c, c700d, c700e, c4240a, c4240b, c4240c, c4240d, c4240e, c9999a, c9999b, c9999c, c9999d, c9999e, c100000a, c100000b, c100000c, c100000d, c100000e, c1000000a, c1000000b, c1000000c, c1000000d, c1000000e, if_F, BX10_knownIn_75, BX10_knownIn_71, BX10_knownIn_76, M_isOf, bd_s, bv_s, bt_s, bt_x, vl_s, pf_s, ri_s, rz_0, rz_1, tri_s, trz_0, trz_1, trx_s, pz_0, pz_1, nI_add, pk_mul, up_at, la2, la5, la6, la8, la14, la62, la64, la98, la700, ra1, ra2, ra6, ra8, ra12, ra20, ra36, ra48, lm6, lm8, lm10, lm100, lm106, rm6, rm8, rm10, rm100, rm106]
      have e158 : T 158 q = mr T (2 + q) := (mr_k (by omega)).symm
      have nxt : ∀ y : Bool, (allB (fun q => !(bit who (nI q)) || bit (mr T (2 + q)) t) (q + 1)) = y → ok (LX10_knownIn_32 (LX10_knownIn_14 n) k who t (-1) (nI i) (b2i y) (nI (q + 1)) T) (fun q => isF (fun i => knw V (hrs V (S 37) i) who t) 61 q.1 ∧ mK S q.2 ∧ q.2 142 3 = 0) := fun y hy => ih2 _ (by rw [hy])
      cases hal : allB (fun q => !(bit who (nI q)) || bit (mr T (2 + q)) t) q with
      | false =>
        rw [if_pos (by rfl)]
        exact nxt false (by show (allB _ q && (!(bit who (nI q)) || bit (mr T (2 + q)) t)) = false; rw [hal]; rfl)
      | true =>
        rw [if_neg (by decide)]
        cases hw : bit who (nI q) with
        | false =>
          simp only [Bool.false_eq_true, if_false, if_true]
          exact nxt true (by show (allB _ q && (!(bit who (nI q)) || bit (mr T (2 + q)) t)) = true; rw [hal, hw]; rfl)
        | true =>
          simp only [if_true]
          rw [if_neg (by decide), e158]
          cases hb : bit (mr T (2 + q)) t with
          | false =>
            simp only [Bool.false_eq_true, if_false, if_true]
            exact nxt false (by show (allB _ q && (!(bit who (nI q)) || bit (mr T (2 + q)) t)) = false; rw [hb, hw]; simp)
          | true =>
            simp only [if_true]
            rw [if_neg (by decide)]
            exact nxt true (by show (allB _ q && (!(bit who (nI q)) || bit (mr T (2 + q)) t)) = true; rw [hal, hb]; simp)
theorem A_learnt {nX : Int32} (a1 a2 : Int32) : Agr nX (fX9_learnt a1 a2) (fX10_learnt a1 a2) := by
  refine look (fun S V v d hR => ?_)
  have hV := hR.vk
  have hS6 := hV.2.1
  have hF8 := hV.1
  rcases arg a1 (n := vS' V) (by omega) with ⟨s, hs, rfl⟩ | h1
  · rcases arg a2 (n := vF V) (by omega) with ⟨t, ht, rfl⟩ | h2
    · obtain ⟨⟨x, S1⟩, e1, p1, p2⟩ := C_behind hR (who := (1 : Int32) <<< (nI s &&& 31)) (t := nI t)
      refine ⟨.inl x, ?_, fun T hT => ?_⟩
      · unfold fX9_learnt
        rw [C_nS_t hR hs, bt_s, C_nF_t hR ht, bt_s, e1, bd_s]
        exact ok_some ⟨rfl, p2⟩
      · have hT' := hR.c hT
        have hM0 : VM V (up T 142 3 0) := hT'.M.go (fun a ha => up_ne (by omega))
        obtain ⟨⟨y, T1⟩, e2, q1, q2, q3⟩ := M_knownIn hT' (who := (1 : Int32) <<< (nI s &&& 31)) (t := nI t)
        unfold fX10_learnt
        rw [pf_s, M_isS_t hM0 hs, bd_s, if_neg (by decide), M_isF_t hM0 ht, bd_s, if_neg (by decide), e2, bd_s]
        refine ok_some ⟨q2, q3, ?_⟩
        have q1' : isF _ 61 y := q1
        rw [hT.at 37 (by decide) (by decide) (by decide) (by decide) (by decide)] at q1'
        exact isF_u q1' p1
    · refine ⟨.inr 1, ?_, fun T hT => ?_⟩
      · unfold fX9_learnt
        rw [C_nS_t hR hs, bt_s, C_nF_f hR h2, bt_x]
        exact ok_some ⟨rfl, cK.rf⟩
      · have hM0 : VM V (up T 142 3 0) := (hR.c hT).M.go (fun a ha => up_ne (by omega))
        unfold fX10_learnt
        rw [pf_s, M_isS_t hM0 hs, bd_s, if_neg (by decide), M_isF_f hM0 h2, bd_s, if_pos rfl]
        unfold BX10_learnt_32
        rw [m_fail]
        exact ok_some ⟨mKx, Or.inl ⟨rfl, rfl⟩⟩
  · refine ⟨.inr 1, ?_, fun T hT => ?_⟩
    · unfold fX9_learnt
      rw [C_nS_f hR h1, bt_x]
      exact ok_some ⟨rfl, cK.rf⟩
    · unfold fX10_learnt
      rw [pf_s, M_isS_f ((hR.c hT).M.go (fun a ha => up_ne (by omega))) h1, bd_s, if_pos rfl]
      unfold BX10_learnt_32
      rw [m_fail]
      exact ok_some ⟨mKx, Or.inl ⟨rfl, rfl⟩⟩
theorem A_allKnow {nX : Int32} (a1 : Int32) : Agr nX (fX9_allKnow a1) (fX10_allKnow a1) := by
  refine look (fun S V v d hR => ?_)
  have hV := hR.vk
  have hF8 := hV.1
  rcases arg a1 (n := vF V) (by omega) with ⟨t, ht, rfl⟩ | h1
  · obtain ⟨⟨x, S1⟩, e1, p1, p2⟩ := C_behind hR (who := ((1 : Int32) <<< (nI (vS' V) &&& 31)) - 1) (t := nI t)
    refine ⟨.inl x, ?_, fun T hT => ?_⟩
    · unfold fX9_allKnow
      rw [C_nF_t hR ht, bt_s, gm_v hR.2.1 hR.hv, hR.C.2.2.2.1, e1, bd_s]
      exact ok_some ⟨rfl, p2⟩
    · have hT' := hR.c hT
      have hM0 : VM V (up T 142 3 0) := hT'.M.go (fun a ha => up_ne (by omega))
      obtain ⟨⟨y, T1⟩, e2, q1, q2, q3⟩ := M_knownIn hT' (who := ((1 : Int32) <<< (nI (vS' V) &&& 31)) - 1) (t := nI t)
      unfold fX10_allKnow
      rw [pf_s, M_isF_t hM0 ht, bd_s, if_neg (by decide), rd145_2, hM0.2.2.1, e2, bd_s]
      refine ok_some ⟨q2, q3, ?_⟩
      have q1' : isF _ 61 y := q1
      rw [hT.at 37 (by decide) (by decide) (by decide) (by decide) (by decide)] at q1'
      exact isF_u q1' p1
  · refine ⟨.inr 1, ?_, fun T hT => ?_⟩
    · unfold fX9_allKnow
      rw [C_nF_f hR h1, bt_x]
      exact ok_some ⟨rfl, cK.rf⟩
    · unfold fX10_allKnow
      rw [pf_s, M_isF_f ((hR.c hT).M.go (fun a ha => up_ne (by omega))) h1, bd_s, if_pos rfl, m_fail]
      exact ok_some ⟨mKx, Or.inl ⟨rfl, rfl⟩⟩
