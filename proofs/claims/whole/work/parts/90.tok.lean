/-! the text: bytes, tokens -/
def sb (b : Nat) : Int32 := (nI b).toInt8.toInt32
def kb (b : Nat) : Nat := if 97 ≤ b ∧ b ≤ 122 then 1 else if 48 ≤ b ∧ b ≤ 57 then 2 else if b = 40 ∨ b = 41 ∨ b = 42 ∨ b = 43 ∨ b = 45 ∨ b = 47 ∨ b = 59 ∨ b = 60 ∨ b = 61 then b else 3
theorem ri_if {c : Prop} [Decidable c] {x y : Int32} {S : St} : ri (if c then x else y) S = if c then ri x S else ri y S := by split <;> rfl
def kf2 (a : Int32) : Int32 := if a = 40 then a else (if a = 41 then a else (if a = 42 then a else (if a = 43 then a else (if a = 45 then a else (if a = 47 then a else (if a = 59 then a else (if a = 60 then a else (if a = 61 then a else 3))))))))
def kf1 (a : Int32) : Int32 := if a < 48 then kf2 a else (if 57 < a then kf2 a else 2)
def kf0 (a : Int32) : Int32 := if a < 97 then kf1 a else (if 122 < a then kf1 a else 1)
theorem kindOf_s (a : Int32) (S : St) : fX7_kindOf a S = ri (kf0 a) S := by
  simp only [fX7_kindOf, BX7_kindOf_14, BX7_kindOf_28, kf0, kf1, kf2, ri_if]
theorem kf_N : ∀ b, b < 256 → kf0 (sb b) = nI (kb b) := by decide +kernel
theorem sb_lo : ∀ b, b < 128 → sb b = nI b := by decide +kernel
theorem sb_hi : ∀ b, b < 256 → 128 ≤ b → sb b < 0 := by decide +kernel
theorem sb_eq {b c : Nat} (hb : b < 256) (hc : c < 128) : sb b = nI c ↔ b = c := by
  rcases Nat.lt_or_ge b 128 with h | h
  · rw [sb_lo b h, nI_eq (by omega) (by omega)]
  · have := sb_hi b hb h
    constructor
    · intro e; rw [e] at this; exact absurd this (nI_pos (by omega))
    · intro e; omega
theorem kb_b : ∀ b, b < 256 → 1 ≤ kb b ∧ kb b ≤ 61 ∧ (kb b = 2 → 48 ≤ b ∧ b ≤ 57) ∧ (kb b = 1 → 97 ≤ b ∧ b ≤ 122) ∧ (3 < kb b → kb b = b) ∧ (b ≤ 32 → kb b = 3) := by decide +kernel
theorem kindOf_b {b : Nat} (hb : b < 256) (S : St) : fX7_kindOf (sb b) S = some (nI (kb b), S) := by rw [kindOf_s, kf_N b hb]; rfl
/-! scanning -/
def scF (w : Nat → Bool) : Nat → Nat → Nat
  | 0, p => p
  | k + 1, p => if w p then scF w k (p + 1) else p
def scn (w : Nat → Bool) (n p : Nat) : Nat := scF w (n - p) p
theorem scn_t {w : Nat → Bool} {n p : Nat} (h : p < n) (hw : w p = true) : scn w n p = scn w n (p + 1) := by
  unfold scn
  obtain ⟨k, hk⟩ : ∃ k, n - p = k + 1 := ⟨n - p - 1, by omega⟩
  rw [hk, show n - (p + 1) = k by omega]
  show (if w p then scF w k (p + 1) else p) = _
  rw [if_pos hw]
theorem scn_f {w : Nat → Bool} {n p : Nat} (h : n ≤ p ∨ w p = false) : scn w n p = p := by
  unfold scn
  rcases Nat.lt_or_ge p n with c | c
  · obtain ⟨k, hk⟩ : ∃ k, n - p = k + 1 := ⟨n - p - 1, by omega⟩
    rw [hk]
    show (if w p then scF w k (p + 1) else p) = _
    rcases h with h | h
    · omega
    · rw [h]; rfl
  · rw [show n - p = 0 by omega]; rfl
theorem scF_ge {w : Nat → Bool} : ∀ k p, p ≤ scF w k p := by
  intro k
  induction k with
  | zero => intro p; exact Nat.le_refl _
  | succ k ih =>
    intro p
    show p ≤ if w p then scF w k (p + 1) else p
    split
    · exact Nat.le_trans (by omega) (ih (p + 1))
    · exact Nat.le_refl _
theorem scF_le {w : Nat → Bool} : ∀ k p, scF w k p ≤ p + k := by
  intro k
  induction k with
  | zero => intro p; exact Nat.le_refl _
  | succ k ih =>
    intro p
    show (if w p then scF w k (p + 1) else p) ≤ p + (k + 1)
    split
    · have := ih (p + 1); omega
    · omega
theorem scF_in {w : Nat → Bool} : ∀ k p i, p ≤ i → i < scF w k p → w i = true := by
  intro k
  induction k with
  | zero => intro p i h1 h2; exact absurd h2 (by show ¬ i < p; omega)
  | succ k ih =>
    intro p i h1 h2
    have h3 : i < if w p then scF w k (p + 1) else p := h2
    by_cases c : w p = true
    · rw [if_pos c] at h3
      by_cases e : i = p
      · rw [e]; exact c
      · exact ih (p + 1) i (by omega) h3
    · rw [if_neg c] at h3; omega
theorem scF_out {w : Nat → Bool} : ∀ k p, scF w k p < p + k → w (scF w k p) = false := by
  intro k
  induction k with
  | zero => intro p h; exact absurd h (by show ¬ p < p + 0; omega)
  | succ k ih =>
    intro p h
    have e : scF w (k + 1) p = if w p then scF w k (p + 1) else p := rfl
    by_cases c : w p = true
    · rw [if_pos c] at e
      rw [e] at h ⊢
      exact ih (p + 1) (by omega)
    · rw [if_neg c] at e
      rw [e]
      exact Bool.eq_false_iff.mpr c
theorem scn_ge {w : Nat → Bool} {n p : Nat} : p ≤ scn w n p := scF_ge _ _
theorem scn_le {w : Nat → Bool} {n p : Nat} (h : p ≤ n) : scn w n p ≤ n := by
  have := scF_le (w := w) (n - p) p
  unfold scn; omega
theorem scn_in {w : Nat → Bool} {n p i : Nat} (h1 : p ≤ i) (h2 : i < scn w n p) : w i = true := scF_in _ _ _ h1 h2
theorem scn_out {w : Nat → Bool} {n p : Nat} (h : p ≤ n) (h2 : scn w n p < n) : w (scn w n p) = false := scF_out _ _ (by unfold scn at h2; omega)
/-! the token that is scanned from a place on: its start, its kind, its end, its number, its word -/
def wsB (B : Nat → Nat) (i : Nat) : Bool := decide (B i = 32 ∨ B i = 10)
def tS (B : Nat → Nat) (n p : Nat) : Nat := scn (wsB B) n p
def tK (B : Nat → Nat) (n p : Nat) : Nat := if tS B n p < n then kb (B (tS B n p)) else 0
def isK (B : Nat → Nat) (k i : Nat) : Bool := decide (kb (B i) = k)
def tE (B : Nat → Nat) (n p : Nat) : Nat := if tS B n p < n then (if tK B n p = 1 ∨ tK B n p = 2 then scn (isK B (tK B n p)) n (tS B n p + 1) else tS B n p + 1) else tS B n p
def dg (B : Nat → Nat) (s : Nat) : Nat → Nat
  | 0 => 0
  | k + 1 => dg B s k * 10 + (B (s + k) - 48)
def tN (B : Nat → Nat) (n p : Nat) : Nat := dg B (tS B n p) (tE B n p - tS B n p)
def tW (B : Nat → Nat) (n p : Nat) : List Nat := (List.range (tE B n p - tS B n p)).map (fun i => B (tS B n p + i))
def wsN (q : Nat) : List Nat := (sByt.getD q []).map (fun x => x.toNatClampNeg)
def wd (B : Nat → Nat) (n q p : Nat) : Bool := decide (tK B n p = 1) && decide (tW B n p = wsN q)
theorem wd_x {B : Nat → Nat} {n q q' p : Nat} (h : wd B n q p = true) (hx : wsN q ≠ wsN q') : wd B n q' p = false := by
  unfold wd at h ⊢
  rw [Bool.and_eq_true, decide_eq_true_eq, decide_eq_true_eq] at h
  rw [h.2]
  simp [hx]
theorem wd_k {B : Nat → Nat} {n q p : Nat} (h : wd B n q p = true) : tK B n p = 1 := by
  unfold wd at h
  rw [Bool.and_eq_true, decide_eq_true_eq] at h
  exact h.1
theorem tS_ge {B : Nat → Nat} {n p : Nat} : p ≤ tS B n p := scn_ge
theorem tS_le {B : Nat → Nat} {n p : Nat} (h : p ≤ n) : tS B n p ≤ n := scn_le h
theorem tE_ge {B : Nat → Nat} {n p : Nat} : tS B n p ≤ tE B n p := by
  unfold tE
  split
  · split
    · exact Nat.le_trans (by omega) scn_ge
    · omega
  · omega
theorem tE_le {B : Nat → Nat} {n p : Nat} (h : p ≤ n) : tE B n p ≤ n := by
  have := tS_le (B := B) h
  unfold tE
  split
  · split
    · exact scn_le (by omega)
    · omega
  · omega
theorem tK_pos {B : Nat → Nat} {n p : Nat} (h : tK B n p ≠ 0) : tS B n p < n ∧ tS B n p < tE B n p := by
  have h1 : tS B n p < n := by
    unfold tK at h
    split at h
    · assumption
    · exact absurd rfl h
  refine ⟨h1, ?_⟩
  unfold tE
  rw [if_pos h1]
  split
  · exact Nat.lt_of_lt_of_le (by omega) scn_ge
  · omega
theorem tK_0 {B : Nat → Nat} {n p : Nat} (h : p ≤ n) (hB : ∀ i, i < n → B i < 256) (h0 : tK B n p = 0) : tS B n p = n := by
  have h1 := tS_le (B := B) h
  unfold tK at h0
  split at h0
  · rename_i c
    have := (kb_b _ (hB _ c)).1
    omega
  · omega
theorem tK_le {B : Nat → Nat} {n p : Nat} (hB : ∀ i, i < n → B i < 256) : tK B n p ≤ 61 := by
  unfold tK
  split
  · rename_i c; exact (kb_b _ (hB _ c)).2.1
  · omega
theorem tK_b {B : Nat → Nat} {n p : Nat} (h : tK B n p ≠ 0) : tK B n p = kb (B (tS B n p)) := by
  unfold tK at h ⊢
  split
  · rfl
  · rename_i c; rw [if_neg c] at h; exact absurd rfl h
theorem tK_in {B : Nat → Nat} {n p i : Nat} (h : tK B n p = 1 ∨ tK B n p = 2) (h1 : tS B n p ≤ i) (h2 : i < tE B n p) : kb (B i) = tK B n p := by
  have h0 := tK_pos (B := B) (n := n) (p := p) (by omega)
  have e : tE B n p = scn (isK B (tK B n p)) n (tS B n p + 1) := by
    unfold tE; rw [if_pos h0.1, if_pos h]
  by_cases c : i = tS B n p
  · rw [c, tK_b (by omega)]
  · rw [e] at h2
    have := scn_in (w := isK B (tK B n p)) (show tS B n p + 1 ≤ i by omega) h2
    unfold isK at this
    exact decide_eq_true_eq.mp this
theorem dg_lt {B : Nat → Nat} {s : Nat} : ∀ k, (∀ i, i < k → B (s + i) ≤ 57) → dg B s k < 10 ^ k := by
  intro k
  induction k with
  | zero => intro _; show (0 : Nat) < 1; decide
  | succ k ih =>
    intro h
    have h1 := ih (fun i hi => h i (by omega))
    have h2 := h k (by omega)
    show dg B s k * 10 + (B (s + k) - 48) < 10 ^ (k + 1)
    rw [Nat.pow_succ]
    omega
theorem tN_lt {B : Nat → Nat} {n p : Nat} (hp : p ≤ n) (hB : ∀ i, i < n → B i < 256) (h : tK B n p = 2) (hl : tE B n p - tS B n p ≤ 4) : tN B n p ≤ 9999 := by
  have e := tE_le (B := B) hp
  have := dg_lt (B := B) (s := tS B n p) (tE B n p - tS B n p) (fun i hi => by
    have k := tK_in (Or.inr h) (show tS B n p ≤ tS B n p + i by omega) (by omega)
    rw [h] at k
    exact ((kb_b _ (hB _ (by omega))).2.2.1 k).2)
  have h4 : (10 : Nat) ^ (tE B n p - tS B n p) ≤ 10 ^ 4 := Nat.pow_le_pow_right (by decide) hl
  unfold tN
  omega
/-! the class's tokens -/
def TC (B : Nat → Nat) (n : Nat) (S : St) : Prop := n ≤ 700 ∧ ∀ i, i < n → B i < 256 ∧ S 1 i = sb (B i)
def CT (B : Nat → Nat) (n : Nat) (S : St) (p : Nat) : Prop := S 33 1 = nI n ∧ S 33 2 = nI (tE B n p) ∧ S 33 3 = nI (tK B n p) ∧ S 33 4 = nI (tS B n p) ∧ (tK B n p = 2 → tE B n p - tS B n p ≤ 4 → S 33 5 = nI (tN B n p))
theorem TC.B {B : Nat → Nat} {n : Nat} {S : St} (h : TC B n S) : ∀ i, i < n → B i < 256 := fun i hi => (h.2 i hi).1
theorem TC.go {B : Nat → Nat} {n : Nat} {S S' : St} (h : TC B n S) (h1 : S' 1 = S 1) : TC B n S' := ⟨h.1, fun i hi => by rw [h1]; exact h.2 i hi⟩
theorem CT.go {B : Nat → Nat} {n p : Nat} {S S' : St} (h : CT B n S p) (h1 : S' 33 = S 33) : CT B n S' p := by unfold CT at h ⊢; rw [h1]; exact h
/-- the loop over a token's bytes: at r, which is of it -/
theorem C_adv98 {B : Nat → Nat} {n p : Nat} {S0 : St} (hp : p ≤ n) (hT : TC B n S0) (h0 : tS B n p < n) : ∀ (k r : Nat) (S : St), n - r < k → tS B n p ≤ r → r < n → (r = tS B n p ∨ ((tK B n p = 1 ∨ tK B n p = 2) ∧ tE B n p = scn (isK B (tK B n p)) n r ∧ kb (B r) = tK B n p)) → (∀ a, a ≠ 33 → S a = S0 a) → S 33 1 = nI n → S 33 2 = nI r → S 33 3 = nI (tK B n p) → S 33 4 = nI (tS B n p) → (tK B n p = 2 → r - tS B n p ≤ 4 → S 33 5 = nI (dg B (tS B n p) (r - tS B n p))) → ok (LX7_advance_98 k S) (fun S' => CT B n S' p ∧ ∀ a, a ≠ 33 → S' a = S0 a) := by
  have hn := hT.1
  have hB := hT.B
  have kp : tK B n p ≠ 0 := by
    unfold tK; rw [if_pos h0]
    have := (kb_b _ (hB _ h0)).1
    omega
  have k61 := tK_le (B := B) (n := n) (p := p) hB
  intro k
  induction k with
  | zero => intro r S h; omega
  | succ k ih =>
    intro r S hk h1 h2 hr hf e1 e2 e3 e4 e5
    have hbr : B r < 256 := hB r h2
    have er : S 1 r = sb (B r) := by rw [hf 1 (by decide)]; exact (hT.2 r h2).2
    -- behind a byte
    have next : ∀ S1 : St, (∀ a, a ≠ 33 → S1 a = S0 a) → S1 33 1 = nI n → S1 33 2 = nI r → S1 33 3 = nI (tK B n p) → S1 33 4 = nI (tS B n p) → (tK B n p = 2 → r + 1 - tS B n p ≤ 4 → S1 33 5 = nI (dg B (tS B n p) (r + 1 - tS B n p))) → ok (BX7_advance_143 (LX7_advance_98 k) S1) (fun S' => CT B n S' p ∧ ∀ a, a ≠ 33 → S' a = S0 a) := by
      intro S1 f1 a1 a2 a3 a4 a5
      unfold BX7_advance_143
      rw [pf_s, a2, nI_1]
      generalize hS2 : up S1 33 2 (nI (r + 1)) = S2
      have f2 : ∀ a, a ≠ 33 → S2 a = S0 a := fun a ha => by rw [← hS2, up_ne ha]; exact f1 a ha
      have b1 : S2 33 1 = nI n := by rw [← hS2, up_off (by decide)]; exact a1
      have b2 : S2 33 2 = nI (r + 1) := by rw [← hS2, up_at]
      have b3 : S2 33 3 = nI (tK B n p) := by rw [← hS2, up_off (by decide)]; exact a3
      have b4 : S2 33 4 = nI (tS B n p) := by rw [← hS2, up_off (by decide)]; exact a4
      have b5 : tK B n p = 2 → r + 1 - tS B n p ≤ 4 → S2 33 5 = nI (dg B (tS B n p) (r + 1 - tS B n p)) := fun x y => by rw [← hS2, up_off (by decide)]; exact a5 x y
      have stop : tE B n p = r + 1 → ok (some S2) (fun S' => CT B n S' p ∧ ∀ a, a ≠ 33 → S' a = S0 a) := fun he => by
        refine ok_some ⟨⟨b1, by rw [he]; exact b2, b3, b4, fun x y => ?_⟩, f2⟩
        unfold tN
        rw [he] at y ⊢
        exact b5 x y
      have go : (tK B n p = 1 ∨ tK B n p = 2) → ok (BX7_advance_169 (LX7_advance_98 k) S2) (fun S' => CT B n S' p ∧ ∀ a, a ≠ 33 → S' a = S0 a) := by
        intro hk12
        have er1 : tE B n p = scn (isK B (tK B n p)) n (r + 1) := by
          rcases hr with hr | ⟨-, hr, hr2⟩
          · unfold tE; rw [if_pos h0, if_pos hk12, hr]
          · rw [hr, scn_t h2 (by unfold isK; exact decide_eq_true hr2)]
        unfold BX7_advance_169
        rw [b1, b2]
        by_cases c : n ≤ r + 1
        · rw [if_pos (nI_le c (by omega))]
          exact stop (by rw [er1, scn_f (Or.inl c)])
        · rw [if_neg (nI_ge (by omega) (by omega)), rd_g (by rw [ln1]; omega), f2 1 (by decide), (hT.2 (r + 1) (by omega)).2, kindOf_b (hB _ (by omega)), bd_s, b3]
          have kbb := (kb_b _ (hB (r + 1) (by omega))).2.1
          by_cases c2 : kb (B (r + 1)) = tK B n p
          · rw [if_pos (by rw [c2])]
            exact ih (r + 1) S2 (by omega) (by omega) (by omega) (Or.inr ⟨hk12, er1, c2⟩) f2 b1 b2 b3 b4 b5
          · rw [if_neg (by rw [nI_eq (by omega) (by omega)]; exact c2)]
            exact stop (by rw [er1, scn_f (Or.inr (by unfold isK; exact decide_eq_false c2))])
      rw [b3]
      by_cases c1 : tK B n p = 1
      · rw [if_pos (by rw [c1]; rfl)]; exact go (Or.inl c1)
      · rw [if_neg (by rw [show (1 : Int32) = nI 1 from rfl, nI_eq (by omega) (by omega)]; exact c1)]
        by_cases c2 : tK B n p = 2
        · rw [if_pos (by rw [c2]; rfl)]; exact go (Or.inr c2)
        · rw [if_neg (by rw [show (2 : Int32) = nI 2 from rfl, nI_eq (by omega) (by omega)]; exact c2)]
          refine stop ?_
          have : r = tS B n p := by
            rcases hr with hr | ⟨hr, -⟩
            · exact hr
            · omega
          unfold tE
          rw [if_pos h0, if_neg (by omega), this]
    show ok (KX7_advance_98 (LX7_advance_98 k) S) _
    unfold KX7_advance_98
    rw [e3]
    by_cases c2 : tK B n p = 2
    · rw [if_pos (by rw [c2]; rfl), e2, e4, pk_sub h1]
      by_cases c4 : 4 ≤ r - tS B n p
      · rw [if_pos (show (4 : Int32) ≤ _ from nI_le c4 (by omega))]
        exact next S hf e1 e2 e3 e4 (fun _ y => by omega)
      · have kr : kb (B r) = 2 := by
          rcases hr with hr | ⟨-, -, hr⟩
          · rw [hr, ← tK_b kp]; exact c2
          · rw [hr]; exact c2
        have d57 := (kb_b _ hbr).2.2.1 kr
        have b5 := e5 c2 (by omega)
        have hdl := dg_lt (B := B) (s := tS B n p) (r - tS B n p) (fun i hi => by
          have k := tK_in (B := B) (n := n) (p := p) (Or.inr c2) (show tS B n p ≤ tS B n p + i by omega) (by
            rcases hr with hr | ⟨-, hr, -⟩
            · omega
            · rw [hr]; exact Nat.lt_of_lt_of_le (by omega) scn_ge)
          rw [c2] at k
          exact ((kb_b _ (hB _ (by omega))).2.2.1 k).2)
        rw [if_neg (show ¬ (4 : Int32) ≤ _ from nI_ge (b := 4) (by omega) (by decide)), rd_g (by rw [ln1]; omega), pf_s, b5, er, sb_lo _ (by omega), rm10, nI_add, show (48 : Int32) = nI 48 from rfl, pk_sub (by omega)]
        refine next _ (fun a ha => by rw [up_ne ha]; exact hf a ha) (by rw [up_off (by decide)]; exact e1) (by rw [up_off (by decide)]; exact e2) (by rw [up_off (by decide)]; exact e3) (by rw [up_off (by decide)]; exact e4) (fun _ _ => ?_)
        rw [up_at, show r + 1 - tS B n p = (r - tS B n p) + 1 by omega]
        show nI _ = nI (dg B (tS B n p) (r - tS B n p) * 10 + (B (tS B n p + (r - tS B n p)) - 48))
        rw [show tS B n p + (r - tS B n p) = r by omega]
        exact congrArg nI (by omega)
    · rw [if_neg (by rw [show (2 : Int32) = nI 2 from rfl, nI_eq (by omega) (by omega)]; exact c2)]
      exact next S hf e1 e2 e3 e4 (fun x => absurd x c2)
theorem C_adv {B : Nat → Nat} {n p : Nat} {S : St} (hT : TC B n S) (h1 : S 33 1 = nI n) (h2 : S 33 2 = nI p) (hp : p ≤ n) : ok (fX7_advance S) (fun S' => CT B n S' p ∧ ∀ a, a ≠ 33 → S' a = S a) := by
  have hn := hT.1
  have hB := hT.B
  have fin : ∀ S1 : St, (∀ a, a ≠ 33 → S1 a = S a) → S1 33 1 = nI n → S1 33 2 = nI (tS B n p) → ok (BX7_advance_52 S1) (fun S' => CT B n S' p ∧ ∀ a, a ≠ 33 → S' a = S a) := by
    intro S1 f1 a1 a2
    have hs := tS_le (B := B) hp
    unfold BX7_advance_52
    rw [pf_s, a2]
    generalize hS2 : up S1 33 4 (nI (tS B n p)) = S2
    have f2 : ∀ a, a ≠ 33 → S2 a = S a := fun a ha => by rw [← hS2, up_ne ha]; exact f1 a ha
    have b1 : S2 33 1 = nI n := by rw [← hS2, up_off (by decide)]; exact a1
    have b2 : S2 33 2 = nI (tS B n p) := by rw [← hS2, up_off (by decide)]; exact a2
    have b4 : S2 33 4 = nI (tS B n p) := by rw [← hS2, up_at]
    rw [b1, b2]
    by_cases c : tS B n p < n
    · rw [if_pos (nI_lt c (by omega)), rd_g (by rw [ln1]; omega), f2 1 (by decide), (hT.2 _ c).2, kindOf_b (hB _ c), bd_s, pf_s, pf_s]
      have ek : tK B n p = kb (B (tS B n p)) := by unfold tK; rw [if_pos c]
      rw [← ek]
      refine C_adv98 hp hT c FU (tS B n p) _ (by unfold FU; omega) (Nat.le_refl _) c (Or.inl rfl) (fun a ha => by rw [up_ne ha, up_ne ha]; exact f2 a ha) ?_ ?_ ?_ ?_ ?_
      · rw [up_off (by decide), up_off (by decide)]; exact b1
      · rw [up_off (by decide), up_off (by decide)]; exact b2
      · rw [up_off (by decide), up_at]
      · rw [up_off (by decide), up_off (by decide)]; exact b4
      · intro _ _; rw [up_at, Nat.sub_self]; rfl
    · rw [if_neg (nI_nlt (by omega) (by omega)), pf_s]
      have ek : tK B n p = 0 := by unfold tK; rw [if_neg c]
      have ee : tE B n p = tS B n p := by unfold tE; rw [if_neg c]
      refine ok_some ⟨⟨by rw [up_off (by decide)]; exact b1, by rw [up_off (by decide), ee]; exact b2, by rw [up_at, ek]; rfl, by rw [up_off (by decide)]; exact b4, fun x => by omega⟩, fun a ha => by rw [up_ne ha]; exact f2 a ha⟩
  have key : ∀ (k q : Nat) (S1 : St), n - q < k → q ≤ n → tS B n q = tS B n p → (∀ a, a ≠ 33 → S1 a = S a) → S1 33 1 = nI n → S1 33 2 = nI q → ok (LX7_advance_0 k S1) (fun S' => CT B n S' p ∧ ∀ a, a ≠ 33 → S' a = S a) := by
    intro k
    induction k with
    | zero => intro q S1 h; omega
    | succ k ih =>
      intro q S1 hk hq es f1 a1 a2
      show ok (KX7_advance_0 (LX7_advance_0 k) S1) _
      unfold KX7_advance_0
      rw [a1, a2]
      by_cases c : n ≤ q
      · rw [if_pos (nI_le c (by omega))]
        exact fin S1 f1 a1 (by rw [a2, ← es]; unfold tS; rw [scn_f (Or.inl c)])
      · have hq' : q < n := by omega
        have on : B q = 32 ∨ B q = 10 → ok (BX7_advance_39 (LX7_advance_0 k) S1) (fun S' => CT B n S' p ∧ ∀ a, a ≠ 33 → S' a = S a) := by
          intro hw
          unfold BX7_advance_39
          rw [pf_s, a2, nI_1]
          refine ih (q + 1) _ (by omega) (by omega) ?_ (fun a ha => by rw [up_ne ha]; exact f1 a ha) (by rw [up_off (by decide)]; exact a1) up_at
          rw [← es]
          unfold tS
          rw [scn_t hq' (by unfold wsB; exact decide_eq_true hw)]
        rw [if_neg (nI_ge (by omega) (by omega)), rd_g (by rw [ln1]; omega), f1 1 (by decide), (hT.2 q hq').2]
        by_cases c1 : B q = 32
        · rw [if_pos (show sb (B q) = 32 from (sb_eq (c := 32) (hB q hq') (by decide)).mpr c1)]; exact on (Or.inl c1)
        · rw [if_neg (show ¬ sb (B q) = 32 from fun z => c1 ((sb_eq (c := 32) (hB q hq') (by decide)).mp z)), rd_g (by rw [ln1]; omega), f1 1 (by decide), (hT.2 q hq').2]
          by_cases c2 : B q = 10
          · rw [if_pos (show sb (B q) = 10 from (sb_eq (c := 10) (hB q hq') (by decide)).mpr c2)]; exact on (Or.inr c2)
          · rw [if_neg (show ¬ sb (B q) = 10 from fun z => c2 ((sb_eq (c := 10) (hB q hq') (by decide)).mp z))]
            exact fin S1 f1 a1 (by rw [a2, ← es]; unfold tS; rw [scn_f (Or.inr (by unfold wsB; exact decide_eq_false (fun z => by rcases z with z | z; exact c1 z; exact c2 z)))])
  exact key FU p S (by unfold FU; omega) hp rfl (fun _ _ => rfl) h1 h2
