/-! heirs: sums, shares -/
def sA (ac : Nat → Nat) (p : Nat → Bool) : Nat → Nat
  | 0 => 0
  | n + 1 => sA ac p n + if p n then ac n else 0
theorem sA_congr {ac : Nat → Nat} {p p' : Nat → Bool} : ∀ n, (∀ i, i < n → p i = p' i) → sA ac p n = sA ac p' n := by
  intro n
  induction n with
  | zero => intro _; rfl
  | succ n ih => intro h; show sA ac p n + _ = sA ac p' n + _; rw [ih (fun i hi => h i (by omega)), h n (by omega)]
theorem sA_0 {ac : Nat → Nat} {p : Nat → Bool} : ∀ n, (∀ i, i < n → p i = false) → sA ac p n = 0 := by
  intro n
  induction n with
  | zero => intro _; rfl
  | succ n ih => intro h; show sA ac p n + _ = 0; rw [ih (fun i hi => h i (by omega)), h n (by omega)]; rfl
theorem sA_le {ac : Nat → Nat} {p : Nat → Bool} (h : ∀ i, ac i ≤ 99) : ∀ n, sA ac p n ≤ 99 * n := by
  intro n
  induction n with
  | zero => exact Nat.le_refl _
  | succ n ih =>
    have := h n
    show sA ac p n + (if p n then ac n else 0) ≤ 99 * (n + 1)
    split <;> omega
def FE (ac : Nat → Nat) (F h X c : Nat) : Prop := ∃ a : Nat → Nat, (∀ f, f < F → X.testBit f = true → a f < h) ∧ ∀ k, k < h → sA ac (fun f => X.testBit f && decide (a f = k)) F ≤ c
theorem c255 : ∀ q, q < 256 → ∀ f, f < 8 → (255 - q).testBit f = !q.testBit f := by decide +kernel
theorem cut_t {X q f : Nat} (hq : q < 256) (hf : f < 8) : (X &&& (255 - q)).testBit f = (X.testBit f && !q.testBit f) := by rw [Nat.testBit_and, c255 q hq f hf]
section FEs
variable {ac : Nat → Nat} {F h X c : Nat}
theorem FE_1 : FE ac F 1 X c ↔ sA ac (fun f => X.testBit f) F ≤ c := by
  constructor
  · rintro ⟨a, h1, h2⟩
    have := h2 0 (by decide)
    rw [sA_congr F (p' := fun f => X.testBit f) (fun i hi => ?_)] at this
    · exact this
    · show (X.testBit i && decide (a i = 0)) = X.testBit i
      cases hx : X.testBit i with
      | false => rfl
      | true => have := h1 i hi hx; rw [decide_eq_true (by omega)]; rfl
  · intro h
    refine ⟨fun _ => 0, fun _ _ _ => Nat.one_pos, fun k hk => ?_⟩
    have e : k = 0 := by omega
    subst e
    rw [sA_congr F (p' := fun f => X.testBit f) (fun i hi => ?_)]
    · exact h
    · show (X.testBit i && decide ((0 : Nat) = 0)) = X.testBit i
      rw [decide_eq_true rfl, Bool.and_true]
theorem FE_s (hX : X < 256) (hF : F ≤ 8) : FE ac F (h + 1) X c ↔ FE ac F h X c ∨ ∃ q, q ≠ 0 ∧ q &&& X = q ∧ sA ac (fun f => q.testBit f) F ≤ c ∧ FE ac F h (X &&& (255 - q)) c := by
  constructor
  · rintro ⟨a, h1, h2⟩
    generalize hq : hbits (fun f => X.testBit f && decide (a f = h)) F = q
    have tq : ∀ i, q.testBit i = (decide (i < F) && (X.testBit i && decide (a i = h))) := fun i => by rw [← hq]; exact hb_test F
    have q256 : q < 256 := by
      have := hb_lt (p := fun f => X.testBit f && decide (a f = h)) F
      have : 2 ^ F ≤ 2 ^ 8 := Nat.pow_le_pow_right (by decide) hF
      rw [← hq]; omega
    by_cases c0 : q = 0
    · refine Or.inl ⟨a, fun f hf hx => ?_, fun k hk => h2 k (by omega)⟩
      have := tq f
      rw [c0, Nat.zero_testBit, decide_eq_true hf, hx, Bool.true_and, Bool.true_and] at this
      have := of_decide_eq_false this.symm
      have := h1 f hf hx
      omega
    · refine Or.inr ⟨q, c0, ?_, ?_, a, fun f hf hx => ?_, fun k hk => ?_⟩
      · apply Nat.eq_of_testBit_eq
        intro i
        rw [Nat.testBit_and, tq]
        cases decide (i < F) <;> cases X.testBit i <;> cases decide (a i = h) <;> rfl
      · rw [sA_congr F (p' := fun f => X.testBit f && decide (a f = h)) (fun i hi => ?_)]
        · exact h2 h (by omega)
        · rw [tq, decide_eq_true hi, Bool.true_and]
      · rw [cut_t q256 (by omega), tq, decide_eq_true hf, Bool.true_and, Bool.and_eq_true, Bool.not_eq_true'] at hx
        have hx1 := hx.1
        rw [hx1, Bool.true_and] at hx
        have := of_decide_eq_false hx.2
        have := h1 f hf hx1
        omega
      · rw [sA_congr F (p' := fun f => X.testBit f && decide (a f = k)) (fun i hi => ?_)]
        · exact h2 k (by omega)
        · rw [cut_t q256 (by omega), tq, decide_eq_true hi, Bool.true_and]
          cases X.testBit i with
          | false => rfl
          | true =>
            by_cases c1 : a i = k
            · rw [decide_eq_true c1, decide_eq_false (by omega)]; rfl
            · rw [decide_eq_false c1]; simp
  · rintro (⟨a, h1, h2⟩ | ⟨q, c0, hs, hq, a, h1, h2⟩)
    · refine ⟨a, fun f hf hx => by have := h1 f hf hx; omega, fun k hk => ?_⟩
      by_cases ck : k < h
      · exact h2 k ck
      · rw [sA_0 F (fun i hi => ?_)]
        · exact Nat.zero_le _
        · cases hx : X.testBit i with
          | false => rfl
          | true => have := h1 i hi hx; rw [decide_eq_false (by omega)]; rfl
    · have qX : ∀ i, q.testBit i = true → X.testBit i = true := fun i hi => by
        rw [← hs, Nat.testBit_and, Bool.and_eq_true] at hi
        exact hi.2
      have q256 : q < 256 := by rw [← hs]; exact Nat.lt_of_le_of_lt Nat.and_le_right hX
      refine ⟨fun f => if q.testBit f then h else a f, fun f hf hx => ?_, fun k hk => ?_⟩
      · show (if q.testBit f then h else a f) < h + 1
        cases hqf : q.testBit f with
        | true => rw [if_pos rfl]; omega
        | false =>
          rw [if_neg (by decide)]
          have := h1 f hf (by rw [cut_t q256 (by omega), hx, hqf]; rfl)
          omega
      · by_cases ck : k < h
        · rw [sA_congr F (p' := fun f => (X &&& (255 - q)).testBit f && decide (a f = k)) (fun i hi => ?_)]
          · exact h2 k ck
          · rw [cut_t q256 (by omega)]
            show (X.testBit i && decide ((if q.testBit i = true then h else a i) = k)) = (X.testBit i && !q.testBit i && decide (a i = k))
            cases hqf : q.testBit i with
            | true => rw [if_pos rfl, decide_eq_false (by omega)]; cases X.testBit i <;> rfl
            | false => rw [if_neg (by decide)]; simp
        · have e : k = h := by omega
          subst e
          rw [sA_congr F (p' := fun f => q.testBit f) (fun i hi => ?_)]
          · exact hq
          · show (X.testBit i && decide ((if q.testBit i = true then k else a i) = k)) = q.testBit i
            cases hqf : q.testBit i with
            | true => rw [if_pos rfl, qX i hqf]; simp
            | false =>
              rw [if_neg (by decide)]
              cases hx : X.testBit i with
              | false => rfl
              | true =>
                have := h1 i hi (by rw [cut_t q256 (by omega), hx, hqf]; rfl)
                rw [decide_eq_false (by omega)]; rfl
theorem FE_0 (hh : 1 ≤ h) : FE ac F h 0 c := by
  refine ⟨fun _ => 0, fun f _ hx => hh, fun k _ => ?_⟩
  rw [sA_0 F (fun i _ => ?_)]
  · exact Nat.zero_le _
  · show (Nat.testBit 0 i && _) = false
    rw [Nat.zero_testBit]; rfl
end FEs
/-! sets within a set, from the whole down -/
theorem sub_nx : ∀ (n s p q : Nat), s < 2 ^ n → p &&& s = p → q &&& s = q → q < p → q ≤ (p - 1) &&& s := by
  intro n
  induction n with
  | zero =>
    intro s p q hs hp hq hlt
    have : s = 0 := by omega
    subst this
    rw [Nat.and_zero] at hp
    omega
  | succ n ih =>
    intro s p q hs hp hq hlt
    have hs2 : s / 2 < 2 ^ n := by rw [Nat.pow_succ] at hs; omega
    have p2 : p / 2 &&& s / 2 = p / 2 := by rw [← Nat.and_div_two, hp]
    have q2 : q / 2 &&& s / 2 = q / 2 := by rw [← Nat.and_div_two, hq]
    have pm : (p % 2 = 1 → s % 2 = 1) := fun h => by
      have : (p &&& s) % 2 = 1 := by rw [hp]; exact h
      rw [Nat.and_mod_two_eq_one] at this; exact this.2
    have qm : (q % 2 = 1 → s % 2 = 1) := fun h => by
      have : (q &&& s) % 2 = 1 := by rw [hq]; exact h
      rw [Nat.and_mod_two_eq_one] at this; exact this.2
    have d := Nat.and_div_two (a := p - 1) (b := s)
    have m : ((p - 1) &&& s) % 2 = 1 ↔ (p - 1) % 2 = 1 ∧ s % 2 = 1 := Nat.and_mod_two_eq_one
    generalize (p - 1) &&& s = r at d m ⊢
    by_cases c : p % 2 = 1
    · rw [show (p - 1) / 2 = p / 2 by omega, p2] at d
      omega
    · have := ih (s / 2) (p / 2) (q / 2) hs2 p2 q2 (by omega)
      rw [show p / 2 - 1 = (p - 1) / 2 by omega] at this
      rw [← d] at this
      have rm : s % 2 = 1 → r % 2 = 1 := fun h => m.mpr ⟨by omega, h⟩
      omega
theorem cutI : ∀ q, q < 256 → (nI q ^^^ (-1)) &&& 255 = nI (255 - q) := by decide +kernel
theorem cut_I {X q : Nat} (hX : X < 256) (hq : q < 256) : nI X &&& (nI q ^^^ (-1)) = nI (X &&& (255 - q)) := by
  have e : nI X = nI X &&& 255 := by
    rw [show (255 : Int32) = nI 255 from rfl, and_N]
    exact congrArg nI ((Nat.and_two_pow_sub_one_eq_mod X 8).trans (Nat.mod_eq_of_lt hX)).symm
  rw [← and_N, ← cutI q hq]
  rw [Int32.and_comm (nI q ^^^ -1) 255, ← Int32.and_assoc, ← e]
theorem cut_lt {X q : Nat} (hX : X < 256) (h0 : q ≠ 0) (hs : q &&& X = q) : X &&& (255 - q) < X := by
  have q256 : q < 256 := by rw [← hs]; exact Nat.lt_of_le_of_lt Nat.and_le_right hX
  have hle : X &&& (255 - q) ≤ X := Nat.and_le_left
  rcases Nat.lt_or_ge (X &&& (255 - q)) X with h | h
  · exact h
  · exfalso
    have e : X &&& (255 - q) = X := by omega
    apply h0
    apply Nat.eq_of_testBit_eq
    intro i
    rw [Nat.zero_testBit]
    rcases Nat.lt_or_ge i 8 with h8 | h8
    · have := cut_t (X := X) q256 h8
      rw [e] at this
      have hq : q.testBit i = (q.testBit i && X.testBit i) := by rw [← Nat.testBit_and, hs]
      cases hqi : q.testBit i with
      | false => rfl
      | true => rw [hqi] at this hq; cases hx : X.testBit i <;> rw [hx] at this hq <;> simp at this hq
    · exact Nat.testBit_lt_two_pow (Nat.lt_of_lt_of_le q256 (Nat.pow_le_pow_right (by decide) h8 : 2 ^ 8 ≤ 2 ^ i))
/-! the class -/
def isB (ac : Nat → Nat) (F h X : Nat) (x : Int32) : Prop := ∃ b, b ≤ 99 * F ∧ x = nI b ∧ ∀ c, b ≤ c ↔ FE ac F h X c
theorem bitv {X f : Nat} (hX : X < 256) (hf : f < 8) : ((nI X >>> (nI f &&& 31)) &&& 1) = nI (if X.testBit f then 1 else 0) := by
  have hb := bit_N X hX f hf
  cases hx : X.testBit f with
  | true =>
    rw [hx] at hb
    exact bit_iff1.mpr hb
  | false =>
    rw [hx] at hb
    exact bit_iff.mpr hb
theorem C_share {v F h : Nat} {S : St} {ac : Nat → Nat} (hv : v = 2 ∨ v = 17) (hF : F ≤ 8) (hh : 1 ≤ h) (h4 : h ≤ 4) (hac : ∀ i, ac i ≤ 99) (e0 : S v 0 = nI F) (e1 : ∀ t, t < F → S (v + 1) t = nI (ac t)) : ok (fX5_share v (nI h) S) (fun r => isB ac F h (2 ^ F - 1) r.1 ∧ ∀ a, a ≠ 141 → r.2 a = S a) := by
  have hp8 : 2 ^ F ≤ 256 := (Nat.pow_le_pow_right (by decide) hF : 2 ^ F ≤ 2 ^ 8)
  have hpp : 0 < 2 ^ F := Nat.two_pow_pos F
  unfold fX5_share
  rw [e0, sh_N F (by omega), vl_s]
  generalize hM : 2 ^ F = M at hp8 hpp
  have amle : ∀ X : Nat, sA ac (fun f => X.testBit f) F ≤ 99 * F := fun X => sA_le hac F
  -- the acres of each set
  refine ok_for (fun n i T => LX5_share_10 n v (nI h) (nI M) (nI i) T) _ (fun i T => (∀ a, a ≠ 141 → T a = S a) ∧ ∀ X, X < i → T 141 X = nI (sA ac (fun f => X.testBit f) F) ∧ T 141 (M + X) = nI (sA ac (fun f => X.testBit f) F)) M ?_ ?_ FU 0 S (by omega) (by unfold FU; omega) ⟨fun _ _ => rfl, fun X hX => absurd hX (by omega)⟩
  · intro n T hT
    show ok (KX5_share_10 (LX5_share_10 n) v (nI h) (nI M) (nI M) T) _
    unfold KX5_share_10
    rw [if_pos (nI_le (Nat.le_refl _) (by omega))]
    -- one heir more
    refine ok_for (fun n j T => LX5_share_86 n (nI h) (nI M) (nI (j + 1)) T) _ (fun j T => (∀ a, a ≠ 141 → T a = S a) ∧ ∀ X, X < M → isB ac F (j + 1) X (T 141 X) ∧ T 141 (M + X) = nI (sA ac (fun f => X.testBit f) F)) (h - 1) ?_ ?_ FU 0 T (by omega) (by unfold FU; omega) ⟨hT.1, fun X hX => ⟨⟨_, amle X, (hT.2 X hX).1, fun c => FE_1.symm⟩, (hT.2 X hX).2⟩⟩
    · intro n T1 h1
      show ok (KX5_share_86 (LX5_share_86 n) (nI h) (nI M) (nI (h - 1 + 1)) T1) _
      unfold KX5_share_86
      rw [if_pos (nI_le (by omega) (by omega)), show (1 : Int32) = nI 1 from rfl, pk_sub (by omega), rd141 (by omega)]
      refine ok_ri ⟨?_, h1.1⟩
      have := (h1.2 (M - 1) (by omega)).1
      rw [show h - 1 + 1 = h by omega] at this
      exact this
    · intro n j T1 hj h1 ih
      show ok (KX5_share_86 (LX5_share_86 n) (nI h) (nI M) (nI (j + 1)) T1) _
      unfold KX5_share_86
      rw [if_neg (nI_ge (by omega) (by omega)), show (1 : Int32) = nI 1 from rfl, pk_sub (by omega), vl_s]
      -- each set, from the whole down
      have down : ∀ (s m : Nat) (T2 : St), s < M → s < m → (∀ a, a ≠ 141 → T2 a = S a) → (∀ X, X < M → isB ac F (if s < X then j + 1 + 1 else j + 1) X (T2 141 X) ∧ T2 141 (M + X) = nI (sA ac (fun f => X.testBit f) F)) → ok (LX5_share_97 (LX5_share_86 n) m (nI h) (nI M) (nI (j + 1)) (nI s) T2) (fun r => isB ac F h (M - 1) r.1 ∧ ∀ a, a ≠ 141 → r.2 a = S a) := by
        intro s
        induction s with
        | zero =>
          intro m T2 _ hm f2 h2
          obtain ⟨m', rfl⟩ : ∃ m', m = m' + 1 := ⟨m - 1, by omega⟩
          show ok (KX5_share_97 (LX5_share_86 n) (LX5_share_97 (LX5_share_86 n) m') (nI h) (nI M) (nI (j + 1)) (nI 0) T2) _
          unfold KX5_share_97
          rw [if_pos (by decide), vl_s, nI_1]
          refine ih T2 ⟨f2, fun X hX => ⟨?_, (h2 X hX).2⟩⟩
          have := (h2 X hX).1
          by_cases c : 0 < X
          · rw [if_pos c] at this; exact this
          · have x0 : X = 0 := by omega
            subst x0
            rw [if_neg c] at this
            obtain ⟨b, b1, b2, b3⟩ := this
            have : b ≤ 0 := (b3 0).mpr (FE_0 (by omega))
            exact ⟨b, b1, b2, fun c => ⟨fun _ => FE_0 (by omega), fun _ => by omega⟩⟩
        | succ s ihs =>
          intro m T2 hs hm f2 h2
          obtain ⟨m', rfl⟩ : ∃ m', m = m' + 1 := ⟨m - 1, by omega⟩
          show ok (KX5_share_97 (LX5_share_86 n) (LX5_share_97 (LX5_share_86 n) m') (nI h) (nI M) (nI (j + 1)) (nI (s + 1)) T2) _
          unfold KX5_share_97
          rw [if_neg (show ¬ _ ≤ (0 : Int32) from nI_ge (a := 0) (by omega) (by omega))]
          -- each part of the set
          have parts : ∀ (k p : Nat) (T3 : St), p < k → p &&& (s + 1) = p → (∀ a, a ≠ 141 → T3 a = S a) → (∀ q, q ≠ s + 1 → T3 141 q = T2 141 q) → (∃ b, b ≤ 99 * F ∧ T3 141 (s + 1) = nI b ∧ ∀ c, b ≤ c ↔ (FE ac F (j + 1) (s + 1) c ∨ ∃ q, q ≠ 0 ∧ q &&& (s + 1) = q ∧ p < q ∧ sA ac (fun f => q.testBit f) F ≤ c ∧ FE ac F (j + 1) ((s + 1) &&& (255 - q)) c)) → ok (LX5_share_106 (LX5_share_86 n) (LX5_share_97 (LX5_share_86 n) m') k (nI h) (nI M) (nI (j + 1)) (nI (s + 1)) (nI p) T3) (fun r => isB ac F h (M - 1) r.1 ∧ ∀ a, a ≠ 141 → r.2 a = S a) := by
            intro k
            induction k with
            | zero => intro p T3 hp; omega
            | succ k ihk =>
              intro p T3 hp hps f3 g3 ⟨b, b1, b2, b3⟩
              have ple : p ≤ s + 1 := by rw [← hps]; exact Nat.and_le_right
              show ok (KX5_share_106 (LX5_share_86 n) (LX5_share_97 (LX5_share_86 n) m') (LX5_share_106 (LX5_share_86 n) (LX5_share_97 (LX5_share_86 n) m') k) (nI h) (nI M) (nI (j + 1)) (nI (s + 1)) (nI p) T3) _
              unfold KX5_share_106
              by_cases p0 : p = 0
              · rw [if_pos (by rw [p0]; decide), vl_s, show nI (s + 1) + -1 = nI s from pk_m1 s]
                refine ihs m' T3 (by omega) (by omega) f3 (fun X hX => ?_)
                by_cases c : X = s + 1
                · subst c
                  rw [if_pos (by omega)]
                  refine ⟨⟨b, b1, b2, fun c => ?_⟩, by rw [g3 _ (by omega)]; exact (h2 _ hX).2⟩
                  rw [b3 c, FE_s (h := j + 1) (by omega) hF]
                  refine or_congr Iff.rfl ⟨fun ⟨q, q1, q2, _, q4⟩ => ⟨q, q1, q2, q4⟩, fun ⟨q, q1, q2, q4⟩ => ⟨q, q1, q2, by omega, q4⟩⟩
                · rw [g3 X c, g3 (M + X) (by omega)]
                  have := h2 X hX
                  by_cases c2 : s + 1 < X
                  · rw [if_pos c2] at this; rw [if_pos (by omega)]; exact this
                  · rw [if_neg c2] at this; rw [if_neg (by omega)]; exact this
              · rw [if_neg (show ¬ _ ≤ (0 : Int32) from nI_ge (a := 0) (by omega) (by omega)), rd141 (by omega), b2, nI_add, rd141 (by omega), g3 _ (by omega), (h2 p (by omega)).2, cut_I (by omega) (by omega)]
                have cl := cut_lt (X := s + 1) (q := p) (by omega) p0 hps
                rw [rd141 (by omega), g3 _ (by omega)]
                have hcut := (h2 _ (show (s + 1) &&& (255 - p) < M by omega)).1
                rw [if_neg (by omega)] at hcut
                obtain ⟨e, e99, ee, e3⟩ := hcut
                rw [ee, vl_s, vl_s]
                have amp := amle p
                generalize hz : (if sA ac (fun f => p.testBit f) F < e then e else sA ac (fun f => p.testBit f) F) = z
                have ez : (if nI (sA ac (fun f => p.testBit f) F) < nI e then nI e else nI (sA ac (fun f => p.testBit f) F)) = nI z := by
                  rw [← hz]
                  by_cases c : sA ac (fun f => p.testBit f) F < e
                  · rw [if_pos (nI_lt c (by omega)), if_pos c]
                  · rw [if_neg (nI_nlt (by omega) (by omega)), if_neg c]
                have z99 : z ≤ 99 * F := by rw [← hz]; split <;> omega
                have zi : ∀ c, z ≤ c ↔ (sA ac (fun f => p.testBit f) F ≤ c ∧ e ≤ c) := fun c => by rw [← hz]; split <;> omega
                have ey : (if nI z < nI b then nI z else nI b) = nI (if z < b then z else b) := by
                  by_cases c : z < b
                  · rw [if_pos (nI_lt c (by omega)), if_pos c]
                  · rw [if_neg (nI_nlt (by omega) (by omega)), if_neg c]
                rw [ez, ey, wr141 (by omega), show (1 : Int32) = nI 1 from rfl, pk_sub (by omega), and_N, vl_s]
                have nle : (p - 1) &&& (s + 1) ≤ p - 1 := Nat.and_le_left
                refine ihk ((p - 1) &&& (s + 1)) _ (by omega) ?_ (fun a ha => by rw [up_ne ha]; exact f3 a ha) (fun q hq => by rw [up_off hq]; exact g3 q hq) ⟨_, ?_, up_at, fun c => ?_⟩
                · rw [Nat.and_assoc, Nat.and_self]
                · split <;> omega
                · have step : (if z < b then z else b) ≤ c ↔ (z ≤ c ∨ b ≤ c) := by split <;> omega
                  rw [step, b3 c, zi c, e3 c]
                  constructor
                  · rintro (⟨q1, q2⟩ | q | ⟨q, q1, q2, q3, q4⟩)
                    · exact Or.inr ⟨p, p0, hps, by omega, q1, q2⟩
                    · exact Or.inl q
                    · exact Or.inr ⟨q, q1, q2, by omega, q4⟩
                  · rintro (q | ⟨q, q1, q2, q3, q4⟩)
                    · exact Or.inr (Or.inl q)
                    · by_cases c1 : q = p
                      · subst c1; exact Or.inl q4
                      · refine Or.inr (Or.inr ⟨q, q1, q2, ?_, q4⟩)
                        rcases Nat.lt_or_ge p q with z1 | z1
                        · exact z1
                        · have := sub_nx 8 (s + 1) p q (by omega) hps q2 (by omega)
                          omega
          obtain ⟨b, b1, b2, b3⟩ := (h2 (s + 1) hs).1
          rw [if_neg (by omega)] at b3
          refine parts FU (s + 1) T2 (by unfold FU; omega) (Nat.and_self _) f2 (fun _ _ => rfl) ⟨b, b1, b2, fun c => ?_⟩
          rw [b3 c]
          refine ⟨Or.inl, fun q => ?_⟩
          rcases q with q | ⟨q, q1, q2, q3, q4⟩
          · exact q
          · have : q ≤ s + 1 := by rw [← q2]; exact Nat.and_le_right
            omega
      refine down (M - 1) FU T1 (by omega) (by unfold FU; omega) h1.1 (fun X hX => ?_)
      rw [if_neg (by omega)]; exact h1.2 X hX
  · intro n i T hi hT ih
    show ok (KX5_share_10 (LX5_share_10 n) v (nI h) (nI M) (nI i) T) _
    unfold KX5_share_10
    rw [if_neg (nI_ge hi (by omega))]
    refine ok_for (σ := Int32) (fun m f x => LX5_share_22 (LX5_share_10 n) m v (nI h) (nI M) (nI i) x (nI f) T) _ (fun f x => x = nI (sA ac (fun f => i.testBit f) f)) F ?_ ?_ FU 0 0 (by omega) (by unfold FU; omega) rfl
    · intro m x hx
      subst hx
      show ok (KX5_share_22 (LX5_share_10 n) (LX5_share_22 (LX5_share_10 n) m) v (nI h) (nI M) (nI i) _ (nI F) T) _
      unfold KX5_share_22
      rw [hT.1 v (by omega), e0, if_pos (nI_le (Nat.le_refl _) (by omega)), wr141 (by omega), nI_add, wr141 (by omega), vl_s, nI_1]
      refine ih _ ⟨fun a ha => by rw [up_ne ha, up_ne ha]; exact hT.1 a ha, fun X hX => ?_⟩
      by_cases c : X = i
      · subst c; rw [up_off (by omega), up_at, up_at]; exact ⟨rfl, rfl⟩
      · rw [up_off (by omega), up_off (by omega), up_off (by omega), up_off (by omega)]; exact hT.2 X (by omega)
    · intro m f x hf hx ih2
      subst hx
      show ok (KX5_share_22 (LX5_share_10 n) (LX5_share_22 (LX5_share_10 n) m) v (nI h) (nI M) (nI i) _ (nI f) T) _
      unfold KX5_share_22
      rw [hT.1 v (by omega), e0, if_neg (nI_ge hf (by omega)), srv3 hv, rdv1 hv (by omega), hT.1 (v + 1) (by omega), e1 f hf, bitv (by omega) (by omega), pk_mul, nI_add, vl_s, vl_s, nI_1]
      refine ih2 _ ?_
      show nI _ = nI (sA ac (fun f => i.testBit f) f + if i.testBit f then ac f else 0)
      refine congrArg nI ?_
      split
      · rw [Nat.one_mul]
      · rw [Nat.zero_mul]
/-! the reference -/
def ld (L : Nat → Nat) (k x : Nat) : Nat → Nat := fun j => if j = k then L j + x else L j
def FEr (ac : Nat → Nat) (F h f : Nat) (L : Nat → Nat) (c : Nat) : Prop := ∃ a : Nat → Nat, (∀ i, f ≤ i → i < F → a i < h) ∧ ∀ k, k < h → L k + sA ac (fun i => decide (f ≤ i) && decide (a i = k)) F ≤ c
section FErs
variable {ac : Nat → Nat} {F h f c : Nat} {L : Nat → Nat}
theorem FEr_F : FEr ac F h F L c ↔ ∀ k, k < h → L k ≤ c := by
  have z : ∀ (a : Nat → Nat) k, sA ac (fun i => decide (F ≤ i) && decide (a i = k)) F = 0 := fun a k => sA_0 F (fun i hi => by
    show (decide (F ≤ i) && _) = false
    rw [decide_eq_false (by omega)]; rfl)
  constructor
  · rintro ⟨a, _, h2⟩ k hk
    have := h2 k hk
    rw [z] at this
    exact this
  · intro h2
    exact ⟨fun _ => 0, fun i h1 h3 => absurd h3 (by omega), fun k hk => by rw [z]; exact h2 k hk⟩
theorem sA_take {p : Nat → Bool} : ∀ n, f < n → sA ac (fun i => decide (f ≤ i) && p i) n = sA ac (fun i => decide (f + 1 ≤ i) && p i) n + (if p f then ac f else 0) := by
  intro n
  induction n with
  | zero => intro h; omega
  | succ n ih =>
    intro hn
    show sA ac (fun i => decide (f ≤ i) && p i) n + (if (decide (f ≤ n) && p n) = true then ac n else 0) = sA ac (fun i => decide (f + 1 ≤ i) && p i) n + (if (decide (f + 1 ≤ n) && p n) = true then ac n else 0) + _
    by_cases c : f = n
    · subst c
      rw [sA_0 f (fun i hi => by show (decide (f ≤ i) && p i) = false; rw [decide_eq_false (by omega)]; rfl), sA_0 f (fun i hi => by show (decide (f + 1 ≤ i) && p i) = false; rw [decide_eq_false (by omega)]; rfl)]
      rw [decide_eq_true (Nat.le_refl f), decide_eq_false (show ¬ f + 1 ≤ f by omega), Bool.true_and, Bool.false_and, if_neg (show ¬ (false = true) by decide)]
    · rw [ih (by omega), decide_eq_true (show f ≤ n by omega), decide_eq_true (show f + 1 ≤ n by omega)]
      omega
theorem FEr_s (hf : f < F) : FEr ac F h f L c ↔ ∃ k, k < h ∧ FEr ac F h (f + 1) (ld L k (ac f)) c := by
  constructor
  · rintro ⟨a, h1, h2⟩
    refine ⟨a f, h1 f (Nat.le_refl _) hf, a, fun i hi => h1 i (by omega), fun k hk => ?_⟩
    have := h2 k hk
    rw [sA_take F hf] at this
    show (if k = a f then L k + ac f else L k) + _ ≤ c
    by_cases e : a f = k
    · rw [if_pos e.symm]; rw [decide_eq_true e, if_pos rfl] at this; omega
    · rw [if_neg (fun q => e q.symm)]; rw [decide_eq_false e, if_neg (by decide)] at this; omega
  · rintro ⟨m, hm, a, h1, h2⟩
    refine ⟨fun i => if i = f then m else a i, fun i hi hF => ?_, fun k hk => ?_⟩
    · show (if i = f then m else a i) < h
      split
      · exact hm
      · exact h1 i (by omega) hF
    · have := h2 k hk
      rw [sA_take F hf (p := fun i => decide ((if i = f then m else a i) = k))]
      rw [sA_congr F (p' := fun i => decide (f + 1 ≤ i) && decide (a i = k)) (fun i hi => ?_)]
      · show L k + (_ + if decide ((if f = f then m else a f) = k) = true then ac f else 0) ≤ c
        rw [if_pos rfl]
        have e : ld L m (ac f) k = if k = m then L k + ac f else L k := rfl
        rw [e] at this
        by_cases e : m = k
        · rw [if_pos e.symm] at this; rw [decide_eq_true e, if_pos rfl]; omega
        · rw [if_neg (fun q => e q.symm)] at this; rw [decide_eq_false e, if_neg (by decide)]; omega
      · show (decide (f + 1 ≤ i) && decide ((if i = f then m else a i) = k)) = (decide (f + 1 ≤ i) && decide (a i = k))
        by_cases e : i = f
        · rw [decide_eq_false (by omega)]; rfl
        · rw [if_neg e]
theorem FEr_sw {k m x : Nat} (hk : k < h) (hm : m < h) (e : L k = L m) : FEr ac F h f (ld L k x) c → FEr ac F h f (ld L m x) c := by
  by_cases ckm : k = m
  · subst ckm; exact id
  rintro ⟨a, h1, h2⟩
  refine ⟨fun i => if a i = k then m else if a i = m then k else a i, fun i hi hF => ?_, fun q hq => ?_⟩
  · show (if a i = k then m else if a i = m then k else a i) < h
    have := h1 i hi hF
    split
    · exact hm
    · split
      · exact hk
      · exact this
  · have g : ∀ q', (∀ i, i < F → ((if a i = k then m else if a i = m then k else a i) = q ↔ a i = q')) → sA ac (fun i => decide (f ≤ i) && decide ((if a i = k then m else if a i = m then k else a i) = q)) F = sA ac (fun i => decide (f ≤ i) && decide (a i = q')) F := fun q' hq' => sA_congr F (fun i hi => by
      show (decide (f ≤ i) && decide ((if a i = k then m else if a i = m then k else a i) = q)) = (decide (f ≤ i) && decide (a i = q'))
      rw [decide_eq_decide.mpr (hq' i hi)])
    show ld L m x q + sA ac (fun i => decide (f ≤ i) && decide ((if a i = k then m else if a i = m then k else a i) = q)) F ≤ c
    by_cases c1 : q = m
    · subst c1
      rw [g k (fun i _ => by split <;> (try split) <;> omega)]
      have := h2 k hk
      have e1 : ld L k x k = L k + x := if_pos rfl
      have e2 : ld L q x q = L q + x := if_pos rfl
      rw [e1] at this
      rw [e2]
      omega
    · by_cases c2 : q = k
      · subst c2
        rw [g m (fun i _ => by split <;> (try split) <;> omega)]
        have := h2 m hm
        have e1 : ld L q x m = L m := if_neg (by omega)
        have e2 : ld L m x q = L q := if_neg (by omega)
        rw [e1] at this
        rw [e2]
        omega
      · rw [g q (fun i _ => by split <;> (try split) <;> omega)]
        have := h2 q hq
        have e1 : ld L k x q = L q := if_neg (by omega)
        have e2 : ld L m x q = L q := if_neg (by omega)
        rw [e1] at this
        rw [e2]
        exact this
theorem FEr_0 (hF : F ≤ 8) : FEr ac F h 0 (fun _ => 0) c ↔ FE ac F h (2 ^ F - 1) c := by
  have t : ∀ i, i < F → (2 ^ F - 1).testBit i = true := fun i hi => by rw [Nat.testBit_two_pow_sub_one, decide_eq_true hi]
  have g : ∀ (a : Nat → Nat) k, sA ac (fun i => decide (0 ≤ i) && decide (a i = k)) F = sA ac (fun i => (2 ^ F - 1).testBit i && decide (a i = k)) F := fun a k => sA_congr F (fun i hi => by
    show (decide (0 ≤ i) && _) = ((2 ^ F - 1).testBit i && _)
    rw [t i hi, decide_eq_true (Nat.zero_le i)])
  constructor
  · rintro ⟨a, h1, h2⟩
    refine ⟨a, fun i hi _ => h1 i (Nat.zero_le _) hi, fun k hk => ?_⟩
    have := h2 k hk
    rw [g] at this
    omega
  · rintro ⟨a, h1, h2⟩
    refine ⟨a, fun i _ hi => h1 i hi (t i hi), fun k hk => ?_⟩
    have := h2 k hk
    rw [g]
    show 0 + _ ≤ c
    omega
end FErs
theorem M_shared {F h : Nat} {ac : Nat → Nat} (hF : F ≤ 8) (hh : 1 ≤ h) (h4 : h ≤ 4) (hac : ∀ i, ac i ≤ 99) (ha1 : ∀ i, 1 ≤ ac i) : ∀ (n f : Nat) (L : Nat → Nat) (S : St), f ≤ F → F - f < n → (∀ k, k < 4 → L k ≤ 99 * f) → (∀ k m, m < k → k < h → L m = 0 → L k = 0) → S 145 0 = nI F → (∀ t, t < F → S 146 t = nI (ac t)) → (∀ k, k < 4 → S 172 k = nI (L k)) → ok (fX10_shared n (nI f) (nI h) S) (fun r => (∃ b, b ≤ 100000 ∧ r.1 = nI b ∧ ∀ c, c < 100000 → (b ≤ c ↔ FEr ac F h f L c)) ∧ (∀ k, k < 4 → r.2 172 k = nI (L k)) ∧ ∀ a, a ≠ 172 → r.2 a = S a) := by
  intro n
  induction n with
  | zero => intro f L S _ h; omega
  | succ n ih =>
    intro f L S hf hn hL hz e0 e1 e2
    show ok (fX10_shared_b (fX10_shared n) (nI f) (nI h) S) _
    unfold fX10_shared_b
    rw [show (0 : Int32) = nI 0 from rfl, rd145 (by omega), e0]
    by_cases cf : f = F
    · subst cf
      rw [if_pos rfl]
      refine ok_for (σ := Int32) (fun m k x => LX10_shared_15 (fX10_shared n) m (nI h) x (nI k) S) _ (fun k x => ∃ b, b ≤ 100000 ∧ x = nI b ∧ ∀ c, b ≤ c ↔ ∀ q, q < k → L q ≤ c) h ?_ ?_ FU 0 (nI 0) (by omega) (by unfold FU; omega) ⟨0, by omega, rfl, fun c => ⟨fun _ q hq => absurd hq (by omega), fun _ => by omega⟩⟩
      · rintro m x ⟨b, b1, b2, b3⟩
        show ok (KX10_shared_15 (fX10_shared n) (LX10_shared_15 (fX10_shared n) m) (nI h) x (nI h) S) _
        unfold KX10_shared_15
        rw [if_pos (nI_le (Nat.le_refl _) (by omega))]
        exact ok_ri ⟨⟨b, b1, b2, fun c _ => by rw [b3 c, FEr_F]⟩, e2, fun _ _ => rfl⟩
      · rintro m k x hk ⟨b, b1, b2, b3⟩ ih2
        show ok (KX10_shared_15 (fX10_shared n) (LX10_shared_15 (fX10_shared n) m) (nI h) x (nI k) S) _
        unfold KX10_shared_15
        have := hL k (by omega)
        rw [if_neg (nI_ge hk (by omega)), rd172 (by omega), e2 k (by omega), b2, vl_s, vl_s, nI_1]
        have ey : (if nI b < nI (L k) then nI (L k) else nI b) = nI (if b < L k then L k else b) := by
          by_cases c : b < L k
          · rw [if_pos (nI_lt c (by omega)), if_pos c]
          · rw [if_neg (nI_nlt (by omega) (by omega)), if_neg c]
        rw [ey]
        refine ih2 _ ⟨_, ?_, rfl, fun c => ?_⟩
        · split <;> omega
        · have st : (if b < L k then L k else b) ≤ c ↔ b ≤ c ∧ L k ≤ c := by split <;> omega
          rw [st, b3 c]
          refine ⟨fun ⟨q1, q2⟩ q hq => ?_, fun q => ⟨fun r hr => q r (by omega), q k (by omega)⟩⟩
          by_cases c1 : q = k
          · subst c1; exact q2
          · exact q1 q (by omega)
    · rw [if_neg (fun e => cf ((nI_eq (by omega) (by omega)).mp e)), show (100000 : Int32) = nI 100000 from rfl]
      have fin : ∀ (k b e : Nat) (T : St), k ≤ h → b ≤ 100000 → (∀ c, c < 100000 → (b ≤ c ↔ ∃ q, q < k ∧ FEr ac F h (f + 1) (ld L q (ac f)) c)) → (k = h ∨ ∃ q, q < k ∧ L q = 0) → (∀ k, k < 4 → T 172 k = nI (L k)) → (∀ a, a ≠ 172 → T a = S a) → ok (ri (nI b) T) (fun r => (∃ b, b ≤ 100000 ∧ r.1 = nI b ∧ ∀ c, c < 100000 → (b ≤ c ↔ FEr ac F h f L c)) ∧ (∀ k, k < 4 → r.2 172 k = nI (L k)) ∧ ∀ a, a ≠ 172 → r.2 a = S a) := by
        intro k b e T hk b1 b3 hq h1 h2
        refine ok_ri ⟨⟨b, b1, rfl, fun c hc => ?_⟩, h1, h2⟩
        rw [b3 c hc, FEr_s (by omega)]
        constructor
        · rintro ⟨q, q1, q2⟩
          exact ⟨q, by omega, q2⟩
        · rintro ⟨q, q1, q2⟩
          by_cases cq : q < k
          · exact ⟨q, cq, q2⟩
          · rcases hq with hq | ⟨m, m1, m2⟩
            · omega
            · exact ⟨m, m1, FEr_sw q1 (by omega) (by rw [m2, hz q m (by omega) q1 m2]) q2⟩
      refine ok_for (σ := Int32 × Int32 × St) (fun m k x => LX10_shared_50 (fX10_shared n) m (nI f) (nI h) x.1 x.2.1 (nI k) x.2.2) _ (fun k x => (∃ b, b ≤ 100000 ∧ x.1 = nI b ∧ ∀ c, c < 100000 → (b ≤ c ↔ ∃ q, q < k ∧ FEr ac F h (f + 1) (ld L q (ac f)) c)) ∧ ((x.2.1 = 0 ∧ ∀ q, q < k → L q ≠ 0) ∨ (x.2.1 = 1 ∧ ∃ q, q < k ∧ L q = 0)) ∧ (∀ k, k < 4 → x.2.2 172 k = nI (L k)) ∧ (∀ a, a ≠ 172 → x.2.2 a = S a)) h ?_ ?_ FU 0 (nI 100000, nI 0, S) (by omega) (by unfold FU; omega) ⟨⟨100000, by omega, rfl, fun c hc => ⟨fun q => absurd q (by omega), fun ⟨q, q1, _⟩ => absurd q1 (by omega)⟩⟩, Or.inl ⟨rfl, fun q hq => absurd hq (by omega)⟩, e2, fun _ _ => rfl⟩
      · rintro m ⟨x, e, T⟩ ⟨⟨b, b1, b2, b3⟩, _, h1, h2⟩
        show ok (KX10_shared_50 (fX10_shared n) (LX10_shared_50 (fX10_shared n) m) (nI f) (nI h) x e (nI h) T) _
        unfold KX10_shared_50
        have b2 : x = nI b := b2
        rw [if_pos (nI_le (Nat.le_refl _) (by omega)), b2]
        exact fin h b 0 T (Nat.le_refl _) b1 b3 (Or.inl rfl) h1 h2
      · rintro m k ⟨x, e, T⟩ hk ⟨⟨b, b1, b2, b3⟩, he, h1, h2⟩ ih2
        show ok (KX10_shared_50 (fX10_shared n) (LX10_shared_50 (fX10_shared n) m) (nI f) (nI h) x e (nI k) T) _
        unfold KX10_shared_50
        have b2 : x = nI b := b2
        have h1 : ∀ k, k < 4 → T 172 k = nI (L k) := h1
        have h2 : ∀ a, a ≠ 172 → T a = S a := h2
        rw [if_neg (nI_ge hk (by omega)), b2]
        rcases he with ⟨he, hne⟩ | ⟨he, q, q1, q2⟩
        · have he : e = 0 := he
          rw [if_pos he, rd172 (by omega), h1 k (by omega)]
          have body : ∀ s0 : Int32, ((s0 = 0 ∧ L k ≠ 0) ∨ (s0 = 1 ∧ L k = 0)) → ok (BX10_shared_76 (fX10_shared n) (LX10_shared_50 (fX10_shared n) m) (nI f) (nI h) (nI b) (nI k) s0 T) (fun r => (∃ b, b ≤ 100000 ∧ r.1 = nI b ∧ ∀ c, c < 100000 → (b ≤ c ↔ FEr ac F h f L c)) ∧ (∀ k, k < 4 → r.2 172 k = nI (L k)) ∧ ∀ a, a ≠ 172 → r.2 a = S a) := by
            intro s0 hs
            unfold BX10_shared_76
            rw [rd172 (by omega), h1 k (by omega), rd146 (by omega), h2 146 (by omega), e1 f (by omega), nI_add, wr172 (by omega), nI_1]
            have hLk := hL k (by omega)
            have hacf := hac f
            have ha1f := ha1 f
            refine ok_bd (ih (f + 1) (ld L k (ac f)) _ (by omega) (by omega) (fun j hj => ?_) (fun j j' hj hjh h0 => ?_) ?_ ?_ ?_) ?_
            · have := hL j hj
              show (if j = k then L j + ac f else L j) ≤ _
              split
              · omega
              · omega
            · have g0 : (if j' = k then L j' + ac f else L j') = 0 := h0
              show (if j = k then L j + ac f else L j) = 0
              by_cases c1 : j' = k
              · rw [if_pos c1] at g0; omega
              · rw [if_neg c1] at g0
                by_cases c2 : j = k
                · exact absurd g0 (hne j' (by omega))
                · rw [if_neg c2]; exact hz j j' hj hjh g0
            · rw [up_ne (by omega), h2 145 (by omega)]; exact e0
            · intro t ht
              rw [up_ne (by omega), h2 146 (by omega)]; exact e1 t ht
            · intro j hj
              show _ = nI (if j = k then L j + ac f else L j)
              by_cases c1 : j = k
              · subst c1; rw [up_at, if_pos rfl]
              · rw [up_off c1, if_neg c1]; exact h1 j hj
            · rintro x5 T5 ⟨⟨b5, b51, b52, b53⟩, g1, g2⟩
              have b52 : x5 = nI b5 := b52
              have g1 : ∀ j, j < 4 → T5 172 j = nI (ld L k (ac f) j) := g1
              have g2 : ∀ a, a ≠ 172 → T5 a = up T 172 k (nI (L k + ac f)) a := g2
              have ey : (if nI b5 < nI b then nI b5 else nI b) = nI (if b5 < b then b5 else b) := by
                by_cases c : b5 < b
                · rw [if_pos (nI_lt c (by omega)), if_pos c]
                · rw [if_neg (nI_nlt (by omega) (by omega)), if_neg c]
              have gk : T5 172 k = nI (L k + ac f) := by rw [g1 k (by omega)]; exact congrArg nI (if_pos rfl)
              have g6 : T5 146 f = nI (ac f) := by rw [g2 146 (by omega), up_ne (by omega), h2 146 (by omega)]; exact e1 f (by omega)
              rw [b52, vl_s, ey, rd172 (by omega), gk, rd146 (by omega), g6, pk_sub (by omega), Nat.add_sub_cancel, wr172 (by omega), vl_s, nI_1]
              refine ih2 (nI (if b5 < b then b5 else b), s0, up T5 172 k (nI (L k))) ⟨⟨_, ?_, rfl, fun c hc => ?_⟩, ?_, ?_, ?_⟩
              · split <;> omega
              · have st : (if b5 < b then b5 else b) ≤ c ↔ b5 ≤ c ∨ b ≤ c := by split <;> omega
                rw [st, b53 c hc, b3 c hc]
                constructor
                · rintro (q | ⟨q, q1, q2⟩)
                  · exact ⟨k, by omega, q⟩
                  · exact ⟨q, by omega, q2⟩
                · rintro ⟨q, q1, q2⟩
                  by_cases c1 : q = k
                  · subst c1; exact Or.inl q2
                  · exact Or.inr ⟨q, by omega, q2⟩
              · rcases hs with ⟨s1, s2⟩ | ⟨s1, s2⟩
                · refine Or.inl ⟨s1, fun q hq => ?_⟩
                  by_cases c1 : q = k
                  · subst c1; exact s2
                  · exact hne q (by omega)
                · exact Or.inr ⟨s1, k, by omega, s2⟩
              · intro j hj
                show up T5 172 k (nI (L k)) 172 j = _
                by_cases c1 : j = k
                · subst c1; exact up_at
                · rw [up_off c1, g1 j hj]; exact congrArg nI (if_neg c1)
              · intro a ha
                show up T5 172 k (nI (L k)) a = _
                rw [up_ne ha, g2 a ha, up_ne ha]; exact h2 a ha
          have hLk := hL k (by omega)
          by_cases c0 : L k = 0
          · rw [if_pos (by rw [c0]; rfl)]; exact body 1 (Or.inr ⟨rfl, c0⟩)
          · rw [if_neg (show ¬ nI (L k) = (0 : Int32) from fun e => c0 ((nI_eq (b := 0) (by omega) (by omega)).mp e))]; exact body 0 (Or.inl ⟨rfl, c0⟩)
        · have he : e = 1 := he
          rw [he, if_neg (by decide)]
          exact fin k b 0 T (by omega) b1 b3 (Or.inr ⟨q, q1, q2⟩) h1 h2
theorem A_heirs (a1 : Int32) : Agr 1 (fX9_heirs a1) (fX10_heirs a1) := by
  refine look (fun S V v d hR => ?_)
  have hV := hR.vk
  have hF8 := hV.1
  have hv := hR.hv
  rcases arg2 a1 (lo := 1) (hi := 4) (by decide) (by decide) with ⟨h, h1, h4, rfl⟩ | h2
  · have exa : ∀ t, ∃ a : Nat, (1 ≤ a ∧ a ≤ 99) ∧ (t < vF V → vA V t = nI a) := fun t => by
      by_cases ht : t < vF V
      · obtain ⟨a, a1, a2, a3⟩ := hR.X.2.2.1 t ht
        exact ⟨a, ⟨a1, a2⟩, fun _ => a3⟩
      · exact ⟨1, ⟨by decide, by decide⟩, fun q => absurd q ht⟩
    obtain ⟨ac, hac⟩ : ∃ ac : Nat → Nat, ∀ t, (1 ≤ ac t ∧ ac t ≤ 99) ∧ (t < vF V → vA V t = nI (ac t)) := ⟨fun t => (exa t).choose, fun t => (exa t).choose_spec⟩
    obtain ⟨⟨x, S1⟩, e1, ⟨b, b1, b2, b3⟩, fr⟩ := C_share (S := S) (ac := ac) hv hF8 h1 h4 (fun i => (hac i).1.2) hR.C.2.2.1 (fun t ht => by rw [(hR.C.2.2.2.2.2.2.2.1 t ht).1]; exact (hac t).2 ht)
    have b2 : x = nI b := b2
    have fr : ∀ a, a ≠ 141 → S1 a = S a := fr
    refine ⟨.inl (nI b), ?_, fun T hT => ?_⟩
    · unfold fX9_heirs
      rw [if_neg (show ¬ nI h < (1 : Int32) from nI_nlt (b := 1) h1 (by omega)), if_pos (show nI h ≤ (4 : Int32) from nI_le (b := 4) h4 (by omega)), gm_v hR.2.1 hv, e1, bd_s, b2]
      exact ok_some ⟨rfl, fun a _ _ _ _ _ => fr a (by omega)⟩
    · have hM := (hR.c hT).M
      unfold fX10_heirs
      rw [pf_s, show (1 : Int64) = (nI 1).toInt64 from rfl, show (4 : Int64) = (nI 4).toInt64 from rfl, M_in_t h1 h4 (by decide), bd_s, if_neg (by decide)]
      refine ok_for (fun n k T => LX10_heirs_25 n (nI h) (nI k) T) _ (fun k U => (∀ q, q < k → U 172 q = 0) ∧ ∀ a, a ≠ 172 → U a = up T 142 3 0 a) 4 ?_ ?_ FU 0 (up T 142 3 0) (by omega) (by unfold FU; omega) ⟨fun q hq => absurd hq (by omega), fun _ _ => rfl⟩
      · rintro n U ⟨u1, u2⟩
        show ok (KX10_heirs_25 (LX10_heirs_25 n) (nI h) (nI 4) U) _
        unfold KX10_heirs_25
        rw [if_pos (by decide)]
        obtain ⟨⟨y, U1⟩, f1, ⟨b', c1, c2, c3⟩, g1, g2⟩ := M_shared (ac := ac) (h := h) (F := vF V) hF8 h1 h4 (fun i => (hac i).1.2) (fun i => (hac i).1.1) 10 0 (fun _ => 0) U (by omega) (by omega) (fun _ _ => Nat.zero_le _) (fun _ _ _ _ _ => rfl) (by rw [u2 145 (by decide), up_ne (by decide)]; exact hM.2.1) (fun t ht => by rw [u2 146 (by decide), up_ne (by decide), (hM.2.2.2.2.2.2.1 t ht).1]; exact (hac t).2 ht) (fun k hk => u1 k hk)
        have c2 : y = nI b' := c2
        have g2 : ∀ a, a ≠ 172 → U1 a = U a := g2
        have f1 : fX10_shared 10 0 (nI h) U = some (y, U1) := f1
        rw [f1, bd_s]
        have key : ∀ a, a ≠ 172 → U1 a = up T 142 3 0 a := fun a ha => (g2 a ha).trans (u2 a ha)
        have eb : b' = b := by
          have x1 : b' ≤ b := (c3 b (by omega)).mpr ((FEr_0 hF8).mpr ((b3 b).mp (Nat.le_refl _)))
          have x2 : b ≤ b' := (b3 b').mpr ((FEr_0 hF8).mp ((c3 b' (by omega)).mp (Nat.le_refl _)))
          omega
        have k0 : mK T (up T 142 3 0) := mK.rf.up (by omega)
        refine ok_ri ⟨⟨?_, fun a ha => ?_, fun j hj => ?_⟩, ?_, ?_⟩
        · show ag (mr U1) (mr T)
          rw [mr_cell (S := up T 142 3 0) (T := U1) (fun a ha => key a (by omega))]; exact k0.1
        · show U1 a = T a
          rw [key a (by omega)]; exact k0.2.1 a ha
        · show U1 142 j = T 142 j
          rw [key 142 (by decide)]; exact k0.2.2 j hj
        · show U1 142 3 = 0
          rw [key 142 (by decide), up_at]
        · show y = nI b
          rw [c2, eb]
      · rintro n k U hk ⟨u1, u2⟩ ih
        show ok (KX10_heirs_25 (LX10_heirs_25 n) (nI h) (nI k) U) _
        unfold KX10_heirs_25
        rw [if_neg (show ¬ (4 : Int32) ≤ nI k from nI_ge (b := 4) hk (by omega)), wr172 hk, vl_s, nI_1]
        refine ih _ ⟨fun q hq => ?_, fun a ha => by rw [up_ne ha]; exact u2 a ha⟩
        by_cases c : q = k
        · subst c; exact up_at
        · rw [up_off c]; exact u1 q (by omega)
  · refine ⟨.inr 2, ?_, fun T hT => ?_⟩
    · unfold fX9_heirs
      by_cases c : a1 < 1
      · rw [if_pos c]; exact ok_some ⟨rfl, cK.rf⟩
      · rw [if_neg c, if_neg]
        · exact ok_some ⟨rfl, cK.rf⟩
        · intro q
          rcases h2 with h2 | h2
          · exact c h2
          · have h2 : (4 : Int32) < a1 := h2
            rw [Int32.lt_iff_toInt_lt] at h2
            rw [Int32.le_iff_toInt_le] at q
            omega
    · unfold fX10_heirs
      rw [pf_s, show (1 : Int64) = (nI 1).toInt64 from rfl, show (4 : Int64) = (nI 4).toInt64 from rfl, M_in_f (by decide) h2 (by decide), bd_s, if_pos rfl, m_fail]
      exact ok_some ⟨mKx, Or.inr ⟨rfl, rfl⟩⟩
