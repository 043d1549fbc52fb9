/-! the reference's row -/
def mr (S : St) : Rw := fun i => if i = 0 then S 142 34 else if i = 1 then S 142 35 else if i < 8 then S 158 (i - 2) else if i < 14 then S 159 (i - 8) else if i < 62 then S 160 (i - 14) else if i < 98 then S 161 (i - 62) else S 162 (i - 98)
theorem mr_0 {S : St} : mr S 0 = S 142 34 := rfl
theorem mr_1 {S : St} : mr S 1 = S 142 35 := rfl
theorem mr_k {S : St} {q : Nat} (h : q < 6) : mr S (2 + q) = S 158 q := by unfold mr; rw [if_neg (by omega), if_neg (by omega), if_pos (by omega), Nat.add_sub_cancel_left]
theorem mr_p {S : St} {q : Nat} (h : q < 6) : mr S (8 + q) = S 159 q := by unfold mr; rw [if_neg (by omega), if_neg (by omega), if_neg (by omega), if_pos (by omega), Nat.add_sub_cancel_left]
theorem mr_e {S : St} {q t : Nat} (h : q * 8 + t < 48) : mr S (14 + q * 8 + t) = S 160 (8 * q + t) := by unfold mr; rw [if_neg (by omega), if_neg (by omega), if_neg (by omega), if_neg (by omega), if_pos (by omega)]; congr 1; omega
theorem mr_w {S : St} {q t : Nat} (h : q * 6 + t < 36) : mr S (62 + q * 6 + t) = S 161 (6 * q + t) := by unfold mr; rw [if_neg (by omega), if_neg (by omega), if_neg (by omega), if_neg (by omega), if_neg (by omega), if_pos (by omega)]; congr 1; omega
theorem mr_o {S : St} {t : Nat} : mr S (98 + t) = S 162 t := by unfold mr; rw [if_neg (by omega), if_neg (by omega), if_neg (by omega), if_neg (by omega), if_neg (by omega), if_neg (by omega), Nat.add_sub_cancel_left]
theorem mr_up {S : St} {a i : Nat} {x : Int32} (h : a ≠ 142 ∨ (i ≠ 34 ∧ i ≠ 35)) (h2 : a < 158 ∨ 162 < a) : mr (up S a i x) = mr S := by
  funext j
  unfold mr
  rw [up_ne (show 158 ≠ a by omega), up_ne (show 159 ≠ a by omega), up_ne (show 160 ≠ a by omega), up_ne (show 161 ≠ a by omega), up_ne (show 162 ≠ a by omega), up_2, up_2, if_neg (show ¬ (142 = a ∧ 34 = i) by omega), if_neg (show ¬ (142 = a ∧ 35 = i) by omega)]
theorem mr_uk {S : St} {q : Nat} {x : Int32} (h : q < 6) : mr (up S 158 q x) = upd (mr S) (2 + q) x := by
  funext j
  unfold mr upd
  simp (disch := decide) only [up_ne, up_row, upd]
  by_cases e : j = 2 + q
  · subst e; rw [if_neg (by omega), if_neg (by omega), if_pos (by omega), if_pos (by omega), if_pos rfl]
  · rw [if_neg e]
    by_cases c : j < 8 ∧ ¬ j = 0 ∧ ¬ j = 1
    · rw [if_neg (by omega), if_neg (by omega), if_pos (by omega), if_neg (by omega)]
      rw [if_neg (by omega), if_neg (by omega), if_pos (by omega)]
    · by_cases c0 : j = 0
      · rw [if_pos c0, if_pos c0]
      · by_cases c1 : j = 1
        · rw [if_neg c0, if_pos c1, if_neg c0, if_pos c1]
        · rw [if_neg c0, if_neg c1, if_neg (by omega), if_neg c0, if_neg c1, if_neg (show ¬ j < 8 by omega)]
theorem mr_up1 {S : St} {x : Int32} : mr (up S 142 35 x) = upd (mr S) 1 x := by
  funext j
  unfold mr upd
  simp (disch := decide) only [up_ne, up_row, upd]
  by_cases e : j = 1
  · subst e; rfl
  · rw [if_neg e, if_neg e, if_neg e]; rfl
theorem mr_up0 {S : St} {x : Int32} : mr (up S 142 34 x) = upd (mr S) 0 x := by
  funext j
  unfold mr upd
  simp (disch := decide) only [up_ne, up_row, upd]
  by_cases e : j = 0
  · subst e; rfl
  · rw [if_neg e, if_neg e, if_neg e]; rfl
theorem mr_uP {S : St} {q : Nat} {x : Int32} (h : q < 6) : mr (up S 159 q x) = upd (mr S) (8 + q) x := by
  funext j
  unfold mr upd
  simp (disch := decide) only [up_ne, up_row, upd]
  by_cases c0 : j = 0
  · rw [if_pos c0, if_pos c0, if_neg (by omega)]
  · by_cases c1 : j = 1
    · rw [if_neg c0, if_pos c1, if_neg c0, if_pos c1, if_neg (by omega)]
    · by_cases c2 : j < 8
      · rw [if_neg c0, if_neg c1, if_pos c2, if_neg c0, if_neg c1, if_pos c2, if_neg (by omega)]
      · by_cases c3 : j < 14
        · simp only [if_neg c0, if_neg c1, if_neg c2, if_pos c3, show (j - 8 = q) = (j = 8 + q) from propext (by omega)]
        · simp only [if_neg c0, if_neg c1, if_neg c2, if_neg c3]
          rw [if_neg (show ¬ j = 8 + q by omega)]
theorem mr_uE {S : St} {i : Nat} {x : Int32} (h : i < 48) : mr (up S 160 i x) = upd (mr S) (14 + i) x := by
  funext j
  unfold mr upd
  simp (disch := decide) only [up_ne, up_row, upd]
  by_cases c0 : j = 0
  · rw [if_pos c0, if_pos c0, if_neg (by omega)]
  · by_cases c1 : j = 1
    · rw [if_neg c0, if_pos c1, if_neg c0, if_pos c1, if_neg (by omega)]
    · by_cases c2 : j < 8
      · rw [if_neg c0, if_neg c1, if_pos c2, if_neg c0, if_neg c1, if_pos c2, if_neg (by omega)]
      · by_cases c3 : j < 14
        · simp only [if_neg c0, if_neg c1, if_neg c2, if_pos c3]
          rw [if_neg (show ¬ j = 14 + i by omega)]
        · by_cases c4 : j < 62
          · simp only [if_neg c0, if_neg c1, if_neg c2, if_neg c3, if_pos c4, show (j - 14 = i) = (j = 14 + i) from propext (by omega)]
          · simp only [if_neg c0, if_neg c1, if_neg c2, if_neg c3, if_neg c4]
            rw [if_neg (show ¬ j = 14 + i by omega)]
theorem mr_uW {S : St} {i : Nat} {x : Int32} (h : i < 36) : mr (up S 161 i x) = upd (mr S) (62 + i) x := by
  funext j
  unfold mr upd
  simp (disch := decide) only [up_ne, up_row, upd]
  by_cases c0 : j < 62
  · rw [if_neg (show ¬ j = 62 + i by omega)]
    simp only [if_pos c0]
  · by_cases c5 : j < 98
    · rw [if_neg (by omega), if_neg (by omega), if_neg (by omega), if_neg (by omega), if_neg c0, if_pos c5]
      simp only [show (j - 62 = i) = (j = 62 + i) from propext (by omega), if_neg (show ¬ j = 0 by omega), if_neg (show ¬ j = 1 by omega), if_neg (show ¬ j < 8 by omega), if_neg (show ¬ j < 14 by omega), if_neg c0, if_pos c5]
    · simp only [if_neg (show ¬ j = 62 + i by omega), if_neg c5]
theorem mr_uO {S : St} {i : Nat} {x : Int32} : mr (up S 162 i x) = upd (mr S) (98 + i) x := by
  funext j
  unfold mr upd
  simp (disch := decide) only [up_ne, up_row, upd]
  by_cases c5 : j < 98
  · rw [if_neg (show ¬ j = 98 + i by omega)]
    simp only [if_pos c5]
  · simp only [show (j - 98 = i) = (j = 98 + i) from propext (by omega), if_neg (show ¬ j = 0 by omega), if_neg (show ¬ j = 1 by omega), if_neg (show ¬ j < 8 by omega), if_neg (show ¬ j < 14 by omega), if_neg (show ¬ j < 62 by omega), if_neg c5]
/-! the reference's valley -/
def RM (c n : Nat) (g : Gf) (S : St) : Prop := ∀ S' : St, (∀ j, j < 700 → S' c j = S c j) → ∃ S'', fX10_valueNow c (nI n) S' = some (g (S' 165), S'') ∧ ∀ a, a ≠ 166 → S'' a = S' a
def MG (g : Option Gf) (c i : Nat) (S : St) : Prop := match g with
  | none => S 145 i = 0
  | some g => ∃ n, 0 < n ∧ n ≤ 700 ∧ S 145 i = nI n ∧ g5 g ∧ RM c n g S
def VM (V : Vy) (S : St) : Prop :=
  VOk V ∧ S 145 0 = nI (vF V) ∧ S 145 2 = nI (vS' V) ∧ (∀ s, s < vS' V → S 151 s = nI (vW V s)) ∧
  (∀ a b, a < vF V → b < vF V → decide (b = a ∨ ¬ S 149 (8 * a + b) ≤ 0) = vN V a b) ∧
  (∀ a b, a < vF V → b < vF V → (if S 164 (8 * a + b) < 100000 then S 164 (8 * a + b) else 99) = vD V a b) ∧
  (∀ t, t < vF V → S 146 t = vA V t ∧ S 147 t = vT V t) ∧ MG (vG V) 154 3 S ∧ MG (vH V) 155 4 S
theorem MG.go {g : Option Gf} {c i : Nat} {S S' : St} (h : MG g c i S) (h1 : S' 145 = S 145) (h2 : S' c = S c) : MG g c i S' := by
  cases g with
  | none => unfold MG at h ⊢; rw [h1]; exact h
  | some g =>
    unfold MG at h ⊢
    obtain ⟨n, a, b, c1, d, e⟩ := h
    exact ⟨n, a, b, by rw [h1]; exact c1, d, fun T q => e T (fun j hj => by rw [q j hj, h2])⟩
theorem VM.go {V : Vy} {S S' : St} (h : VM V S) (hk : ∀ a, (a = 145 ∨ a = 146 ∨ a = 147 ∨ a = 149 ∨ a = 151 ∨ a = 154 ∨ a = 155 ∨ a = 164) → S' a = S a) : VM V S' := by
  obtain ⟨h0, h1, h2, h3, h4, h5, h6, h7, h8⟩ := h
  have e145 := hk 145 (by omega)
  exact ⟨h0, by rw [e145]; exact h1, by rw [e145]; exact h2, by rw [hk 151 (by omega)]; exact h3, by rw [hk 149 (by omega)]; exact h4, by rw [hk 164 (by omega)]; exact h5, by rw [hk 146 (by omega), hk 147 (by omega)]; exact h6, h7.go e145 (hk 154 (by omega)), h8.go e145 (hk 155 (by omega))⟩
theorem M_placeOf {V : Vy} {hm : Nat} {S : St} (hM : VM V S) (hr : ROk V hm (mr S)) (hm9 : hm ≤ 20000) {s : Nat} (hs : s < vS' V) : fX10_placeOf (nI s) S = some (pl V (mr S) s, S) := by
  obtain ⟨hV, h1, h2, h3, -⟩ := hM
  obtain ⟨w0, w6⟩ := hV.2.2.1 s hs
  have hS6 := hV.2.1
  obtain ⟨⟨h, hh, e0⟩, -⟩ := hr
  have hmod := Nat.mod_lt h w0
  have e34 : S 142 34 = nI h := e0
  have hw := h3 s hs
  unfold fX10_placeOf
  simp (disch := omega) only [bd_s, bv_s, bt_s, bt_x, vl_s, pf_s, ri_s, rz_0, rz_1, tri_s, trz_0, trz_1, trx_s, pz_0, pz_1, nI_add, pk_mul, up_at, la2, la5, la6, la8, la14, la62, la64, la98, la700, ra1, ra2, ra6, ra8, ra12, ra20, ra36, ra48, lm6, lm8, lm10, lm100, lm106, rm6, rm8, rm10, rm100, rm106, rd145, rd146, rd147, rd148, rd149, rd150, rd151, rd152, rd153, rd154, rd155, rd156, rd157, rd158, rd159, rd160, rd161, rd162, rd163, rd164, rd165, rd166, rd167, rd168, rd169, rd170, rd171, rd172, rd173, rd174, rd175, rd176, rd177, rd178, rd179, rd180, rd181, rd182, rd183, rd184, rd185, rd145_0, rd145_2, rd145_3, rd145_4, rd145_5, rd145_6, rd145_7, rd156_0, rd156_1, rd166_0, rd178_0, hw, e34, rm_n]
  unfold pl
  rw [e0, nI_clamp (by omega), mr_w (by omega), Nat.mul_comm]
def hbits (p : Nat → Bool) : Nat → Nat
  | 0 => 0
  | n + 1 => hbits p n + if p n then 2 ^ n else 0
theorem hb_lt {p : Nat → Bool} : ∀ n, hbits p n < 2 ^ n := by
  intro n
  induction n with
  | zero => simp [hbits]
  | succ n ih =>
    show hbits p n + _ < _
    rw [Nat.pow_succ]
    split <;> omega
theorem hb_test {p : Nat → Bool} {q : Nat} : ∀ n, (hbits p n).testBit q = (decide (q < n) && p q) := by
  intro n
  induction n with
  | zero => simp [hbits]
  | succ n ih =>
    show (hbits p n + _).testBit q = _
    have hl := hb_lt (p := p) n
    rcases Nat.lt_trichotomy q n with h | h | h
    · split
      · rw [Nat.add_comm, Nat.testBit_two_pow_add_gt h, ih]; simp [h, show q < n + 1 by omega]
      · rw [Nat.add_zero, ih]; simp [h, show q < n + 1 by omega]
    · subst h
      split
      · rename_i hp; rw [Nat.add_comm, Nat.testBit_two_pow_add_eq, ih]; simp [hp]
      · rename_i hp; rw [Nat.add_zero, ih]; simp [hp]
    · have : (hbits p n + if p n = true then 2 ^ n else 0) < 2 ^ (n + 1) := hb_lt (p := p) (n + 1)
      rw [Nat.testBit_lt_two_pow (Nat.lt_of_lt_of_le this (Nat.pow_le_pow_right (by decide) (by omega)))]
      simp [show ¬ q < n + 1 by omega]
theorem pop_add : ∀ n, n < 8 → ∀ x, x < 2 ^ n → pop (x + 2 ^ n) = pop x + 1 := by decide +kernel
theorem or_add : ∀ n, n < 8 → ∀ x, x < 2 ^ n → (x ||| 2 ^ n) = x + 2 ^ n := by decide +kernel
theorem hb_pop {p : Nat → Bool} : ∀ n, n ≤ 8 → pop (hbits p n) = cnt p n := by
  intro n
  induction n with
  | zero => intro _; simp [hbits, cnt, pop]
  | succ n ih =>
    intro h
    show pop (hbits p n + _) = cnt p n + _
    split
    · rw [pop_add n (by omega) _ (hb_lt n), ih (by omega)]
    · rw [Nat.add_zero, Nat.add_zero, ih (by omega)]
theorem M_hearers {V : Vy} {hm : Nat} {S : St} (hM : VM V S) (hr : ROk V hm (mr S)) (hm9 : hm ≤ 20000) {a : Nat} {but : Int32} (ha : a < vF V) : fX10_hearers (nI a) but S = some (nI (hbits (hears V (mr S) a but) (vS' V)), S) := by
  have hV := hM.1
  have hS6 := hV.2.1
  have hF8 := hV.1
  have h2 := hM.2.2.1
  have hN := hM.2.2.2.2.1
  have : ok (fX10_hearers (nI a) but S) (fun q => q = (nI (hbits (hears V (mr S) a but) (vS' V)), S)) := by
    unfold fX10_hearers
    refine ok_for (σ := Int32) (fun n i x => LX10_hearers_5 n (nI a) but x (nI i) S) _ (fun i x => x = nI (hbits (hears V (mr S) a but) i)) (vS' V) ?_ ?_ FU 0 0 (by omega) (by unfold FU; omega) rfl
    · intro n x hI
      subst hI
      simp (disch := omega) only [LX10_hearers_5, KX10_hearers_5, rd145, rd146, rd147, rd148, rd149, rd150, rd151, rd152, rd153, rd154, rd155, rd156, rd157, rd158, rd159, rd160, rd161, rd162, rd163, rd164, rd165, rd166, rd167, rd168, rd169, rd170, rd171, rd172, rd173, rd174, rd175, rd176, rd177, rd178, rd179, rd180, rd181, rd182, rd183, rd184, rd185, rd145_0, rd145_2, rd145_3, rd145_4, rd145_5, rd145_6, rd145_7, rd156_0, rd156_1, rd166_0, rd178_0, h2, nI_leE, nI_ltE, nI_eqE, nI_m1, c0a, c0b, c0c, c0d, c0e, c1a, c1b, c1c, c1d, c1e, c2a, c2b, c2c, c2d, c2e, c3a, c3b, c3c, c3d, c3e, c4a, c4b, c4c, c4d, c4e, c5a, c5b, c5c, c5d, c5e, c6a, c6b, c6c, c6d, c6e, c7a, c7b, c7c, c7d, c7e, c8a, c8b, c8c, c8d, c8e, c9a, c9b, c9c, c9d, c9e, c10a, c10b, c10c, c10d, c10e, c12a, c12b, c12c, c12d, c12e, c14a, c14b, c14c, c14d, c14e, c16a, c16b, c16c, c16d, c16e, c20a, c20b, c20c, c20d, c20e, c30a, c30b, c30c, c30d, c30e, c32a, c32b, c32c, c32d, c32e, c36a, c36b, c36c, c36d, c36e, c40a, c40b, c40c, c40d, c40e, c41a, c41b, c41c, c41d, c41e, c42a, c42b, c42c, c42d, c42e, c43a, c43b, c43c, c43d, c43e, c45a, c45b, c45c, c45d, c45e, c47a, c47b, c47c, c47d, c47e, c48a, c48b, c48c, c48d, c48e, c57a, c57b, c57c, c57d, c57e, c59a, c59b, c59c, c59d, c59e, c60a, c60b, c60c, c60d, c60e, c61a, c61b, c61c, c61d, c61e, c62a, c62b, c62c, c62d, c62e, c64a, c64b, c64c, c64d, c64e, c96a, c96b, c96c, c96d, c96e, c97a, c97b, c97c, c97d, c97e, c98a, c98b, c98c, c98d, c98e, c99a, c99b, c99c, c99d, c99e, c100a, c100b, c100c, c100d, c100e, c122a, c122b, c122c, c122d, c122e, c700a, c700b, c700c, c700d, c700e, c4240a, c4240b, c4240c, c4240d, c4240e, c9999a, c9999b, c9999c, c9999d, c9999e, c100000a, c100000b, c100000c, c100000d, c100000e, c1000000a, c1000000b, c1000000c, c1000000d, c1000000e, if_T, ri_s]
      exact ok_some rfl
    · intro n i x hi hI ih
      subst hI
      have hl := hb_lt (p := hears V (mr S) a but) i
      have hl8 : hbits (hears V (mr S) a but) i < 256 := Nat.lt_of_lt_of_le hl (Nat.pow_le_pow_right (by decide) (by omega : i ≤ 8))
      obtain ⟨f, hf, ef, ef2⟩ := pl_ok hr hV hm9 hi
      have ep := M_placeOf hM hr hm9 hi
      rw [ef] at ep
      have hh : hears V (mr S) a but i = (decide (¬ nI i = but) && decide (f = a ∨ ¬ S 149 (8 * a + f) ≤ 0)) := by unfold hears; rw [ef2, ← hN a f ha hf]
      have one : ∀ b : Bool, hears V (mr S) a but i = b → ok (LX10_hearers_5 n (nI a) but (nI (hbits (hears V (mr S) a but) i) ||| if b then pw (nI i) else 0) (nI (i + 1)) S) (fun q => q = (nI (hbits (hears V (mr S) a but) (vS' V)), S)) := by
        intro b hb
        apply ih
        show _ = nI (hbits (hears V (mr S) a but) i + if hears V (mr S) a but i then 2 ^ i else 0)
        rw [hb]
        cases b with
        | true => simp only [if_true]; rw [pw_N i (by omega), or_N, or_add i (by omega) _ hl]
        | false => simp
      simp (disch := omega) only [LX10_hearers_5, KX10_hearers_5, rd145, rd146, rd147, rd148, rd149, rd150, rd151, rd152, rd153, rd154, rd155, rd156, rd157, rd158, rd159, rd160, rd161, rd162, rd163, rd164, rd165, rd166, rd167, rd168, rd169, rd170, rd171, rd172, rd173, rd174, rd175, rd176, rd177, rd178, rd179, rd180, rd181, rd182, rd183, rd184, rd185, rd145_0, rd145_2, rd145_3, rd145_4, rd145_5, rd145_6, rd145_7, rd156_0, rd156_1, rd166_0, rd178_0, h2, nI_leE, nI_ltE, nI_eqE, nI_m1, c0a, c0b, c0c, c0d, c0e, c1a, c1b, c1c, c1d, c1e, c2a, c2b, c2c, c2d, c2e, c3a, c3b, c3c, c3d, c3e, c4a, c4b, c4c, c4d, c4e, c5a, c5b, c5c, c5d, c5e, c6a, c6b, c6c, c6d, c6e, c7a, c7b, c7c, c7d, c7e, c8a, c8b, c8c, c8d, c8e, c9a, c9b, c9c, c9d, c9e, c10a, c10b, c10c, c10d, c10e, c12a, c12b, c12c, c12d, c12e, c14a, c14b, c14c, c14d, c14e, c16a, c16b, c16c, c16d, c16e, c20a, c20b, c20c, c20d, c20e, c30a, c30b, c30c, c30d, c30e, c32a, c32b, c32c, c32d, c32e, c36a, c36b, c36c, c36d, c36e, c40a, c40b, c40c, c40d, c40e, c41a, c41b, c41c, c41d, c41e, c42a, c42b, c42c, c42d, c42e, c43a, c43b, c43c, c43d, c43e, c45a, c45b, c45c, c45d, c45e, c47a, c47b, c47c, c47d, c47e, c48a, c48b, c48c, c48d, c48e, c57a, c57b, c57c, c57d, c57e, c59a, c59b, c59c, c59d, c59e, c60a, c60b, c60c, c60d, c60e, c61a, c61b, c61c, c61d, c61e, c62a, c62b, c62c, c62d, c62e, c64a, c64b, c64c, c64d, c64e, c96a, c96b, c96c, c96d, c96e, c97a, c97b, c97c, c97d, c97e, c98a, c98b, c98c, c98d, c98e, c99a, c99b, c99c, c99d, c99e, c100a, c100b, c100c, c100d, c100e, c122a, c122b, c122c, c122d, c122e, c700a, c700b, c700c, c700d, c700e, c4240a, c4240b, c4240c, c4240d, c4240e, c9999a, c9999b, c9999c, c9999d, c9999e, c100000a, c100000b, c100000c, c100000d, c100000e, c1000000a, c1000000b, c1000000c, c1000000d, c1000000e, if_F, ep, bd_s, bv_s, bt_s, bt_x, vl_s, pf_s, ri_s, rz_0, rz_1, tri_s, trz_0, trz_1, trx_s, pz_0, pz_1, nI_add, pk_mul, up_at, la2, la5, la6, la8, la14, la62, la64, la98, la700, ra1, ra2, ra6, ra8, ra12, ra20, ra36, ra48, lm6, lm8, lm10, lm100, lm106, rm6, rm8, rm10, rm100, rm106, BX10_hearers_59, BX10_hearers_52, BX10_hearers_60]
      by_cases c : nI i = but
      · rw [if_pos c]
        exact one false (by rw [hh]; simp [c])
      · rw [if_neg c]
        by_cases d : f = a
        · rw [if_pos d]
          exact one true (by rw [hh]; simp [c, d])
        · rw [if_neg d]
          by_cases e : S 149 (8 * a + f) ≤ 0
          · rw [if_pos e]
            exact one false (by rw [hh]; simp [d, e])
          · rw [if_neg e]
            exact one true (by rw [hh]; simp [c, e])
  obtain ⟨b, e, q⟩ := this
  rw [e, q]
theorem bo_N : ∀ k, k < 256 → 0 < k → (nI k &&& (nI k - 1)) = nI (k &&& (k - 1)) ∧ pop (k &&& (k - 1)) + 1 = pop k ∧ (k &&& (k - 1)) < 256 := by decide +kernel
theorem pop_lt : ∀ k, k < 256 → pop k ≤ 8 := by decide +kernel
theorem M_bits_l {S : St} : ∀ n k a, k < 256 → pop k < n → LX10_bitsOf_4 n (nI a) (nI k) S = some (nI (a + pop k), S) := by
  intro n
  induction n with
  | zero => intro k a _ h; omega
  | succ n ih =>
    intro k a hk hp
    show KX10_bitsOf_4 (LX10_bitsOf_4 n) (nI a) (nI k) S = _
    unfold KX10_bitsOf_4
    rcases Nat.eq_zero_or_pos k with h | h
    · subst h; rfl
    · obtain ⟨b1, b2, b3⟩ := bo_N k hk h
      rw [if_neg (nI_ne0 h (by omega)), vl_s, vl_s, b1, nI_1, ih _ _ b3 (by omega)]
      congr 2
      rw [← b2]
      congr 1
      omega
theorem M_bits {S : St} {k : Nat} (h : k < 256) : fX10_bitsOf (nI k) S = some (nI (pop k), S) := by
  have := pop_lt k h
  have e := M_bits_l (S := S) FU k 0 h (by unfold FU; omega)
  rw [Nat.zero_add] at e
  exact e
theorem M_isOf {x t : Int32} {S : St} : fX10_isOf x t S = some (if bit x t then 1 else 0, S) := by
  unfold fX10_isOf
  by_cases h : ((x >>> (t &&& 31)) &&& 1) = 1
  · rw [if_pos h, bit_iff1.mp h]; rfl
  · rw [if_neg h]
    have : bit x t = false := by
      cases hb : bit x t with
      | true => exact absurd (bit_iff1.mpr hb) h
      | false => rfl
    rw [this]; rfl
