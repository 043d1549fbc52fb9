/-! heirs: sums, shares -/
def sA (ac : Nat → Nat) (p : Nat → Bool) : Nat → Nat
  | 0 => 0
  | n + 1 => sA ac p n + if p n then ac n else 0
theorem sA_congr {ac : Nat → Nat} {p p' : Nat → Bool} : ∀ n, (∀ i, i < n → p i = p' i) → sA ac p n = sA ac p' n := by
  intro n
  induction n with
  | zero => intro _; rfl
  | succ n ih => intro h; show sA ac p n + _ = sA ac p' n + _; rw [ih (fun i hi => h i (by omega)), h n (by omega)]
theorem sA_0 {ac : Nat → Nat} {p : Nat → Bool} : ∀ n, (∀ i, i < n → p i = false) → sA ac p n = 0 := by
  intro n
  induction n with
  | zero => intro _; rfl
  | succ n ih => intro h; show sA ac p n + _ = 0; rw [ih (fun i hi => h i (by omega)), h n (by omega)]; rfl
theorem sA_le {ac : Nat → Nat} {p : Nat → Bool} (h : ∀ i, ac i ≤ 99) : ∀ n, sA ac p n ≤ 99 * n := by
  intro n
  induction n with
  | zero => exact Nat.le_refl _
  | succ n ih =>
    have := h n
    show sA ac p n + (if p n then ac n else 0) ≤ 99 * (n + 1)
    split <;> omega
def FE (ac : Nat → Nat) (F h X c : Nat) : Prop := ∃ a : Nat → Nat, (∀ f, f < F → X.testBit f = true → a f < h) ∧ ∀ k, k < h → sA ac (fun f => X.testBit f && decide (a f = k)) F ≤ c
theorem c255 : ∀ q, q < 256 → ∀ f, f < 8 → (255 - q).testBit f = !q.testBit f := by decide +kernel
theorem cut_t {X q f : Nat} (hq : q < 256) (hf : f < 8) : (X &&& (255 - q)).testBit f = (X.testBit f && !q.testBit f) := by rw [Nat.testBit_and, c255 q hq f hf]
section FEs
variable {ac : Nat → Nat} {F h X c : Nat}
theorem FE_1 : FE ac F 1 X c ↔ sA ac (fun f => X.testBit f) F ≤ c := by
  constructor
  · rintro ⟨a, h1, h2⟩
    have := h2 0 (by decide)
    rw [sA_congr F (p' := fun f => X.testBit f) (fun i hi => ?_)] at this
    · exact this
    · show (X.testBit i && decide (a i = 0)) = X.testBit i
      cases hx : X.testBit i with
      | false => rfl
      | true => have := h1 i hi hx; rw [decide_eq_true (by omega)]; rfl
  · intro h
    refine ⟨fun _ => 0, fun _ _ _ => by decide, fun k hk => ?_⟩
    have e : k = 0 := by omega
    subst e
    rw [sA_congr F (p' := fun f => X.testBit f) (fun i hi => ?_)]
    · exact h
    · show (X.testBit i && decide ((0 : Nat) = 0)) = X.testBit i
      rw [decide_eq_true rfl, Bool.and_true]
theorem FE_s (hX : X < 256) (hF : F ≤ 8) : FE ac F (h + 1) X c ↔ FE ac F h X c ∨ ∃ q, q ≠ 0 ∧ q &&& X = q ∧ sA ac (fun f => q.testBit f) F ≤ c ∧ FE ac F h (X &&& (255 - q)) c := by
  constructor
  · rintro ⟨a, h1, h2⟩
    generalize hq : hbits (fun f => X.testBit f && decide (a f = h)) F = q
    have tq : ∀ i, q.testBit i = (decide (i < F) && (X.testBit i && decide (a i = h))) := fun i => by rw [← hq]; exact hb_test F
    have q256 : q < 256 := by
      have := hb_lt (p := fun f => X.testBit f && decide (a f = h)) F
      have : 2 ^ F ≤ 2 ^ 8 := Nat.pow_le_pow_right (by decide) hF
      rw [← hq]; omega
    by_cases c0 : q = 0
    · refine Or.inl ⟨a, fun f hf hx => ?_, fun k hk => h2 k (by omega)⟩
      have := tq f
      rw [c0, Nat.zero_testBit, decide_eq_true hf, hx, Bool.true_and, Bool.true_and] at this
      have := of_decide_eq_false this.symm
      have := h1 f hf hx
      omega
    · refine Or.inr ⟨q, c0, ?_, ?_, a, fun f hf hx => ?_, fun k hk => ?_⟩
      · apply Nat.eq_of_testBit_eq
        intro i
        rw [Nat.testBit_and, tq]
        cases decide (i < F) <;> cases X.testBit i <;> cases decide (a i = h) <;> rfl
      · rw [sA_congr F (p' := fun f => X.testBit f && decide (a f = h)) (fun i hi => ?_)]
        · exact h2 h (by omega)
        · rw [tq, decide_eq_true hi, Bool.true_and]
      · rw [cut_t q256 (by omega), tq, decide_eq_true hf, Bool.true_and, Bool.and_eq_true, Bool.not_eq_true'] at hx
        rw [hx.1, Bool.true_and] at hx
        have := of_decide_eq_false hx.2
        have := h1 f hf hx.1
        omega
      · rw [sA_congr F (p' := fun f => X.testBit f && decide (a f = k)) (fun i hi => ?_)]
        · exact h2 k (by omega)
        · rw [cut_t q256 (by omega), tq, decide_eq_true hi, Bool.true_and]
          cases X.testBit i with
          | false => rfl
          | true =>
            by_cases c1 : a i = k
            · rw [decide_eq_true c1, decide_eq_false (by omega)]; rfl
            · rw [decide_eq_false c1]; simp
  · rintro (⟨a, h1, h2⟩ | ⟨q, c0, hs, hq, a, h1, h2⟩)
    · refine ⟨a, fun f hf hx => by have := h1 f hf hx; omega, fun k hk => ?_⟩
      by_cases ck : k < h
      · exact h2 k ck
      · rw [sA_0 F (fun i hi => ?_)]
        · exact Nat.zero_le _
        · cases hx : X.testBit i with
          | false => rfl
          | true => have := h1 i hi hx; rw [decide_eq_false (by omega)]; rfl
    · have qX : ∀ i, q.testBit i = true → X.testBit i = true := fun i hi => by
        rw [← hs, Nat.testBit_and, Bool.and_eq_true] at hi
        exact hi.2
      have q256 : q < 256 := by rw [← hs]; exact Nat.lt_of_le_of_lt Nat.and_le_right hX
      refine ⟨fun f => if q.testBit f then h else a f, fun f hf hx => ?_, fun k hk => ?_⟩
      · show (if q.testBit f then h else a f) < h + 1
        cases hqf : q.testBit f with
        | true => rw [if_pos rfl]; omega
        | false =>
          rw [if_neg (by decide)]
          have := h1 f hf (by rw [cut_t q256 (by omega), hx, hqf]; rfl)
          omega
      · by_cases ck : k < h
        · rw [sA_congr F (p' := fun f => (X &&& (255 - q)).testBit f && decide (a f = k)) (fun i hi => ?_)]
          · exact h2 k ck
          · rw [cut_t q256 (by omega)]
            cases hqf : q.testBit i with
            | true => rw [if_pos rfl, decide_eq_false (by omega)]; cases X.testBit i <;> rfl
            | false => rw [if_neg (by decide)]; simp
        · have e : k = h := by omega
          subst e
          rw [sA_congr F (p' := fun f => q.testBit f) (fun i hi => ?_)]
          · exact hq
          · cases hqf : q.testBit i with
            | true => rw [if_pos rfl, qX i hqf]; simp
            | false =>
              rw [if_neg (by decide)]
              cases hx : X.testBit i with
              | false => rfl
              | true =>
                have := h1 i hi (by rw [cut_t q256 (by omega), hx, hqf]; rfl)
                rw [decide_eq_false (by omega)]; rfl
theorem FE_0 : FE ac F h 0 c := ⟨fun _ => 0, fun f _ hx => by rw [Nat.zero_testBit] at hx; cases hx, fun k _ => by rw [sA_0 F (fun i _ => by rw [Nat.zero_testBit]; rfl)]; exact Nat.zero_le _⟩
theorem FE_big (hac : ∀ i, ac i ≤ 99) (hh : 1 ≤ h) : FE ac F h X (99 * F) := ⟨fun _ => 0, fun _ _ _ => by omega, fun k _ => sA_le hac F⟩
end FEs
/-! sets within a set, from the whole down -/
theorem sub_nx : ∀ (n s p q : Nat), s < 2 ^ n → p &&& s = p → q &&& s = q → q < p → q ≤ (p - 1) &&& s := by
  intro n
  induction n with
  | zero =>
    intro s p q hs hp hq hlt
    have : s = 0 := by omega
    subst this
    rw [Nat.and_zero] at hp
    omega
  | succ n ih =>
    intro s p q hs hp hq hlt
    have hs2 : s / 2 < 2 ^ n := by rw [Nat.pow_succ] at hs; omega
    have p2 : p / 2 &&& s / 2 = p / 2 := by rw [← Nat.and_div_two, hp]
    have q2 : q / 2 &&& s / 2 = q / 2 := by rw [← Nat.and_div_two, hq]
    have pm : (p % 2 = 1 → s % 2 = 1) := fun h => by
      have : (p &&& s) % 2 = 1 := by rw [hp]; exact h
      rw [Nat.and_mod_two_eq_one] at this; exact this.2
    have qm : (q % 2 = 1 → s % 2 = 1) := fun h => by
      have : (q &&& s) % 2 = 1 := by rw [hq]; exact h
      rw [Nat.and_mod_two_eq_one] at this; exact this.2
    have d := Nat.and_div_two (a := p - 1) (b := s)
    have m : ((p - 1) &&& s) % 2 = 1 ↔ (p - 1) % 2 = 1 ∧ s % 2 = 1 := Nat.and_mod_two_eq_one
    generalize (p - 1) &&& s = r at d m ⊢
    by_cases c : p % 2 = 1
    · rw [show (p - 1) / 2 = p / 2 by omega, p2] at d
      omega
    · have := ih (s / 2) (p / 2) (q / 2) hs2 p2 q2 (by omega)
      rw [show p / 2 - 1 = (p - 1) / 2 by omega] at this
      rw [← d] at this
      have rm : s % 2 = 1 → r % 2 = 1 := fun h => m.mpr ⟨by omega, h⟩
      omega
theorem and_N (a b : Nat) : nI a &&& nI b = nI (a &&& b) := by
  unfold nI
  apply Int32.toBitVec_inj.mp
  simp
theorem cutI : ∀ q, q < 256 → (nI q ^^^ (-1)) &&& 255 = nI (255 - q) := by decide +kernel
theorem cut_I {X q : Nat} (hX : X < 256) (hq : q < 256) : nI X &&& (nI q ^^^ (-1)) = nI (X &&& (255 - q)) := by
  have e : nI X = nI X &&& 255 := by
    rw [show (255 : Int32) = nI 255 from rfl, and_N]
    exact congrArg nI ((Nat.and_two_pow_sub_one_eq_mod X 8).trans (Nat.mod_eq_of_lt hX)).symm
  rw [← and_N, ← cutI q hq]
  rw [Int32.and_comm (nI q ^^^ -1) 255, ← Int32.and_assoc, ← e]
theorem cut_lt {X q : Nat} (hX : X < 256) (h0 : q ≠ 0) (hs : q &&& X = q) : X &&& (255 - q) < X := by
  have q256 : q < 256 := by rw [← hs]; exact Nat.lt_of_le_of_lt Nat.and_le_right hX
  have hle : X &&& (255 - q) ≤ X := Nat.and_le_left
  rcases Nat.lt_or_ge (X &&& (255 - q)) X with h | h
  · exact h
  · exfalso
    have e : X &&& (255 - q) = X := by omega
    apply h0
    apply Nat.eq_of_testBit_eq
    intro i
    rw [Nat.zero_testBit]
    rcases Nat.lt_or_ge i 8 with h8 | h8
    · have := cut_t (X := X) q256 h8
      rw [e] at this
      have hq : q.testBit i = (q.testBit i && X.testBit i) := by rw [← Nat.testBit_and, hs]
      cases hqi : q.testBit i with
      | false => rfl
      | true => rw [hqi] at this hq; cases hx : X.testBit i <;> rw [hx] at this hq <;> simp at this hq
    · exact Nat.testBit_lt_two_pow (Nat.lt_of_lt_of_le q256 (Nat.pow_le_pow_right (by decide) h8 : 2 ^ 8 ≤ 2 ^ i))
/-! the class -/
def isB (ac : Nat → Nat) (F h X : Nat) (x : Int32) : Prop := ∃ b, b ≤ 99 * F ∧ x = nI b ∧ ∀ c, b ≤ c ↔ FE ac F h X c
theorem bitv {X f : Nat} (hX : X < 256) (hf : f < 8) : ((nI X >>> (nI f &&& 31)) &&& 1) = nI (if X.testBit f then 1 else 0) := by
  have hb := bit_N X hX f hf
  cases hx : X.testBit f with
  | true =>
    rw [hx] at hb
    exact bit_iff1.mpr hb
  | false =>
    rw [hx] at hb
    exact bit_iff.mpr hb
theorem C_share {v F h : Nat} {S : St} {ac : Nat → Nat} (hv : v = 2 ∨ v = 17) (hF : F ≤ 8) (hh : 1 ≤ h) (h4 : h ≤ 4) (hac : ∀ i, ac i ≤ 99) (e0 : S v 0 = nI F) (e1 : ∀ t, t < F → S (v + 1) t = nI (ac t)) : ok (fX5_share v (nI h) S) (fun r => isB ac F h (2 ^ F - 1) r.1 ∧ ∀ a, a ≠ 141 → r.2 a = S a) := by
  have hp8 : 2 ^ F ≤ 256 := (Nat.pow_le_pow_right (by decide) hF : 2 ^ F ≤ 2 ^ 8)
  have hpp : 0 < 2 ^ F := Nat.two_pow_pos F
  unfold fX5_share
  rw [e0, sh_N F (by omega), vl_s]
  generalize hM : 2 ^ F = M at hp8 hpp
  have amle : ∀ X, sA ac (fun f => X.testBit f) F ≤ 99 * F := fun X => sA_le hac F
  -- the acres of each set
  refine ok_for (fun n i T => LX5_share_10 n v (nI h) (nI M) (nI i) T) _ (fun i T => (∀ a, a ≠ 141 → T a = S a) ∧ ∀ X, X < i → T 141 X = nI (sA ac (fun f => X.testBit f) F) ∧ T 141 (M + X) = nI (sA ac (fun f => X.testBit f) F)) M ?_ ?_ FU 0 S (by omega) (by unfold FU; omega) ⟨fun _ _ => rfl, fun X hX => absurd hX (by omega)⟩
  · intro n T hT
    show ok (KX5_share_10 (LX5_share_10 n) v (nI h) (nI M) (nI M) T) _
    unfold KX5_share_10
    rw [if_pos (nI_le (Nat.le_refl _) (by omega))]
    -- one heir more
    refine ok_for (fun n j T => LX5_share_86 n (nI h) (nI M) (nI (j + 1)) T) _ (fun j T => (∀ a, a ≠ 141 → T a = S a) ∧ ∀ X, X < M → isB ac F (j + 1) X (T 141 X) ∧ T 141 (M + X) = nI (sA ac (fun f => X.testBit f) F)) (h - 1) ?_ ?_ FU 0 T (by omega) (by unfold FU; omega) ⟨hT.1, fun X hX => ⟨⟨_, amle X, (hT.2 X hX).1, fun c => FE_1.symm⟩, (hT.2 X hX).2⟩⟩
    · intro n T1 h1
      show ok (KX5_share_86 (LX5_share_86 n) (nI h) (nI M) (nI (h - 1 + 1)) T1) _
      unfold KX5_share_86
      rw [if_pos (nI_le (by omega) (by omega)), show (1 : Int32) = nI 1 from rfl, pk_sub (by omega), rd141 (by omega)]
      refine ok_ri ⟨?_, h1.1⟩
      have := (h1.2 (M - 1) (by omega)).1
      rw [show h - 1 + 1 = h by omega] at this
      exact this
    · intro n j T1 hj h1 ih
      show ok (KX5_share_86 (LX5_share_86 n) (nI h) (nI M) (nI (j + 1)) T1) _
      unfold KX5_share_86
      rw [if_neg (nI_ge (by omega) (by omega)), show (1 : Int32) = nI 1 from rfl, pk_sub (by omega), vl_s]
      -- each set, from the whole down
      have down : ∀ (s m : Nat) (T2 : St), s < M → s < m → (∀ a, a ≠ 141 → T2 a = S a) → (∀ X, X < M → isB ac F (if s < X then j + 1 + 1 else j + 1) X (T2 141 X) ∧ T2 141 (M + X) = nI (sA ac (fun f => X.testBit f) F)) → ok (LX5_share_97 (LX5_share_86 n) m (nI h) (nI M) (nI (j + 1)) (nI s) T2) (fun r => isB ac F h (M - 1) r.1 ∧ ∀ a, a ≠ 141 → r.2 a = S a) := by
        intro s
        induction s with
        | zero =>
          intro m T2 _ hm f2 h2
          obtain ⟨m', rfl⟩ : ∃ m', m = m' + 1 := ⟨m - 1, by omega⟩
          show ok (KX5_share_97 (LX5_share_86 n) (LX5_share_97 (LX5_share_86 n) m') (nI h) (nI M) (nI (j + 1)) (nI 0) T2) _
          unfold KX5_share_97
          rw [if_pos (by decide), vl_s, nI_1]
          refine ih T2 ⟨f2, fun X hX => ⟨?_, (h2 X hX).2⟩⟩
          have := (h2 X hX).1
          by_cases c : 0 < X
          · rw [if_pos c] at this; exact this
          · have x0 : X = 0 := by omega
            subst x0
            obtain ⟨b, b1, b2, b3⟩ := this
            have : b ≤ 0 := (b3 0).mpr FE_0
            exact ⟨b, b1, b2, fun c => ⟨fun _ => FE_0, fun _ => by omega⟩⟩
        | succ s ihs =>
          intro m T2 hs hm f2 h2
          obtain ⟨m', rfl⟩ : ∃ m', m = m' + 1 := ⟨m - 1, by omega⟩
          show ok (KX5_share_97 (LX5_share_86 n) (LX5_share_97 (LX5_share_86 n) m') (nI h) (nI M) (nI (j + 1)) (nI (s + 1)) T2) _
          unfold KX5_share_97
          rw [if_neg (show ¬ _ ≤ (0 : Int32) from nI_ge (a := 0) (by omega) (by omega))]
          -- each part of the set
          have parts : ∀ (k p : Nat) (T3 : St), p < k → p &&& (s + 1) = p → (∀ a, a ≠ 141 → T3 a = S a) → (∀ q, q ≠ s + 1 → T3 141 q = T2 141 q) → (∃ b, b ≤ 99 * F ∧ T3 141 (s + 1) = nI b ∧ ∀ c, b ≤ c ↔ (FE ac F (j + 1) (s + 1) c ∨ ∃ q, q ≠ 0 ∧ q &&& (s + 1) = q ∧ p < q ∧ sA ac (fun f => q.testBit f) F ≤ c ∧ FE ac F (j + 1) ((s + 1) &&& (255 - q)) c)) → ok (LX5_share_106 (LX5_share_86 n) (LX5_share_97 (LX5_share_86 n) m') k (nI h) (nI M) (nI (j + 1)) (nI (s + 1)) (nI p) T3) (fun r => isB ac F h (M - 1) r.1 ∧ ∀ a, a ≠ 141 → r.2 a = S a) := by
            intro k
            induction k with
            | zero => intro p T3 hp; omega
            | succ k ihk =>
              intro p T3 hp hps f3 g3 ⟨b, b1, b2, b3⟩
              have ple : p ≤ s + 1 := by rw [← hps]; exact Nat.and_le_right
              show ok (KX5_share_106 (LX5_share_86 n) (LX5_share_97 (LX5_share_86 n) m') (LX5_share_106 (LX5_share_86 n) (LX5_share_97 (LX5_share_86 n) m') k) (nI h) (nI M) (nI (j + 1)) (nI (s + 1)) (nI p) T3) _
              unfold KX5_share_106
              by_cases p0 : p = 0
              · rw [if_pos (by rw [p0]; decide), vl_s, show nI (s + 1) + -1 = nI s from pk_m1 s]
                refine ihs m' T3 (by omega) (by omega) f3 (fun X hX => ?_)
                by_cases c : X = s + 1
                · subst c
                  rw [if_pos (by omega)]
                  refine ⟨⟨b, b1, b2, fun c => ?_⟩, by rw [g3 _ (by omega)]; exact (h2 _ hX).2⟩
                  rw [b3 c, FE_s (by omega) hF]
                  refine or_congr Iff.rfl ⟨fun ⟨q, q1, q2, _, q4⟩ => ⟨q, q1, q2, q4⟩, fun ⟨q, q1, q2, q4⟩ => ⟨q, q1, q2, by omega, q4⟩⟩
                · rw [g3 X c, g3 (M + X) (by omega)]
                  have := h2 X hX
                  by_cases c2 : s + 1 < X
                  · rw [if_pos c2] at this; rw [if_pos (by omega)]; exact this
                  · rw [if_neg c2] at this; rw [if_neg (by omega)]; exact this
              · rw [if_neg (show ¬ _ ≤ (0 : Int32) from nI_ge (a := 0) (by omega) (by omega)), rd141 (by omega), b2, nI_add, rd141 (by omega), g3 _ (by omega), (h2 p (by omega)).2, cut_I (by omega) (by omega)]
                have cl := cut_lt (X := s + 1) (q := p) (by omega) p0 hps
                rw [rd141 (by omega), g3 _ (by omega)]
                have hcut := (h2 _ (show (s + 1) &&& (255 - p) < M by omega)).1
                rw [if_neg (by omega)] at hcut
                obtain ⟨e, e99, ee, e3⟩ := hcut
                rw [ee, vl_s, vl_s]
                have amp := amle p
                generalize hz : (if sA ac (fun f => p.testBit f) F < e then e else sA ac (fun f => p.testBit f) F) = z
                have ez : (if nI (sA ac (fun f => p.testBit f) F) < nI e then nI e else nI (sA ac (fun f => p.testBit f) F)) = nI z := by
                  rw [← hz]
                  by_cases c : sA ac (fun f => p.testBit f) F < e
                  · rw [if_pos (nI_lt c (by omega)), if_pos c]
                  · rw [if_neg (nI_nlt (by omega) (by omega)), if_neg c]
                have z99 : z ≤ 99 * F := by rw [← hz]; split <;> omega
                have zi : ∀ c, z ≤ c ↔ (sA ac (fun f => p.testBit f) F ≤ c ∧ e ≤ c) := fun c => by rw [← hz]; split <;> omega
                have ey : (if nI z < nI b then nI z else nI b) = nI (if z < b then z else b) := by
                  by_cases c : z < b
                  · rw [if_pos (nI_lt c (by omega)), if_pos c]
                  · rw [if_neg (nI_nlt (by omega) (by omega)), if_neg c]
                rw [ez, ey, wr141 (by omega), show (1 : Int32) = nI 1 from rfl, pk_sub (by omega), and_N, vl_s]
                have nle : (p - 1) &&& (s + 1) ≤ p - 1 := Nat.and_le_left
                refine ihk ((p - 1) &&& (s + 1)) _ (by omega) ?_ (fun a ha => by rw [up_ne ha]; exact f3 a ha) (fun q hq => by rw [up_off hq]; exact g3 q hq) ⟨_, ?_, up_at, fun c => ?_⟩
                · rw [Nat.and_assoc, Nat.and_self]
                · split <;> omega
                · have step : (if z < b then z else b) ≤ c ↔ (z ≤ c ∨ b ≤ c) := by split <;> omega
                  rw [step, b3 c, zi c, e3 c]
                  constructor
                  · rintro (⟨q1, q2⟩ | q | ⟨q, q1, q2, q3, q4⟩)
                    · exact Or.inr ⟨p, p0, hps, by omega, q1, q2⟩
                    · exact Or.inl q
                    · exact Or.inr ⟨q, q1, q2, by omega, q4⟩
                  · rintro (q | ⟨q, q1, q2, q3, q4⟩)
                    · exact Or.inr (Or.inl q)
                    · by_cases c1 : q = p
                      · subst c1; exact Or.inl q4
                      · refine Or.inr (Or.inr ⟨q, q1, q2, ?_, q4⟩)
                        rcases Nat.lt_or_ge p q with z1 | z1
                        · exact z1
                        · have := sub_nx 8 (s + 1) p q (by omega) hps q2 (by omega)
                          omega
          obtain ⟨b, b1, b2, b3⟩ := (h2 (s + 1) hs).1
          rw [if_neg (by omega)] at b3
          refine parts FU (s + 1) T2 (by unfold FU; omega) (Nat.and_self _) f2 (fun _ _ => rfl) ⟨b, b1, b2, fun c => ?_⟩
          rw [b3 c]
          refine ⟨Or.inl, fun q => ?_⟩
          rcases q with q | ⟨q, q1, q2, q3, q4⟩
          · exact q
          · have : q ≤ s + 1 := by rw [← q2]; exact Nat.and_le_right
            omega
      refine down (M - 1) FU T1 (by omega) (by unfold FU; omega) h1.1 (fun X hX => ?_)
      rw [if_neg (by omega)]; exact h1.2 X hX
  · intro n i T hi hT ih
    show ok (KX5_share_10 (LX5_share_10 n) v (nI h) (nI M) (nI i) T) _
    unfold KX5_share_10
    rw [if_neg (nI_ge hi (by omega))]
    refine ok_for (σ := Int32) (fun m f x => LX5_share_22 (LX5_share_10 n) m v (nI h) (nI M) (nI i) x (nI f) T) _ (fun f x => x = nI (sA ac (fun f => i.testBit f) f)) F ?_ ?_ FU 0 0 (by omega) (by unfold FU; omega) rfl
    · intro m x hx
      subst hx
      show ok (KX5_share_22 (LX5_share_10 n) (LX5_share_22 (LX5_share_10 n) m) v (nI h) (nI M) (nI i) _ (nI F) T) _
      unfold KX5_share_22
      rw [hT.1 v (by omega), e0, if_pos (nI_le (Nat.le_refl _) (by omega)), wr141 (by omega), nI_add, wr141 (by omega), vl_s, nI_1]
      refine ih _ ⟨fun a ha => by rw [up_ne ha, up_ne ha]; exact hT.1 a ha, fun X hX => ?_⟩
      by_cases c : X = i
      · subst c; rw [up_off (by omega), up_at, up_at]; exact ⟨rfl, rfl⟩
      · rw [up_off (by omega), up_off (by omega), up_off (by omega), up_off (by omega)]; exact hT.2 X (by omega)
    · intro m f x hf hx ih2
      subst hx
      show ok (KX5_share_22 (LX5_share_10 n) (LX5_share_22 (LX5_share_10 n) m) v (nI h) (nI M) (nI i) _ (nI f) T) _
      unfold KX5_share_22
      rw [hT.1 v (by omega), e0, if_neg (nI_ge hf (by omega)), srv3 hv, rdv1 hv (by omega), hT.1 (v + 1) (by omega), e1 f hf, bitv (by omega) (by omega), pk_mul, nI_add, vl_s, vl_s, nI_1]
      refine ih2 _ ?_
      show nI _ = nI (sA ac (fun f => i.testBit f) f + if i.testBit f then ac f else 0)
      refine congrArg nI ?_
      split
      · rw [Nat.one_mul]
      · rw [Nat.zero_mul]
