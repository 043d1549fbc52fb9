/-! levels: 7 a part, 6 a product, 5 a sum, 3 a test with its nots, 2 ands, 1 an expression -/
theorem rk_le (o : Nat) : rk o ≤ 6 := by unfold rk; repeat' split
                                         all_goals omega
theorem rel_stop {r : Nat} {stk A : List Nat} (h : ∀ x t, stk = x :: t → rk x < r) : rel r stk A = (stk, A) := by
  cases stk with
  | nil => rfl
  | cons x t =>
    show (if r ≤ rk x then rel r t (A ++ [30000 + x]) else (x :: t, A)) = _
    rw [if_neg (by have := h x t rfl; omega)]
theorem rel_7 {stk A : List Nat} : rel 7 stk A = (stk, A) := rel_stop (fun x _ _ => by have := rk_le x; omega)
theorem rel_pop {r x : Nat} {t A : List Nat} (h : r ≤ rk x) : rel r (x :: t) A = rel r t (A ++ [30000 + x]) := by
  show (if r ≤ rk x then rel r t (A ++ [30000 + x]) else (x :: t, A)) = _
  rw [if_pos h]
theorem rel_rel {r r' : Nat} (h : r ≤ r') : ∀ stk A, rel r (rel r' stk A).1 (rel r' stk A).2 = rel r stk A := by
  intro stk
  induction stk with
  | nil => intro A; rfl
  | cons x t ih =>
    intro A
    by_cases c : r' ≤ rk x
    · rw [rel_pop c, rel_pop (Nat.le_trans h c), ih]
    · have : rel r' (x :: t) A = (x :: t, A) := by
        show (if r' ≤ rk x then rel r' t (A ++ [30000 + x]) else (x :: t, A)) = _
        rw [if_neg c]
      rw [this]
theorem rel_of {r r' : Nat} {stk A stk' A' : List Nat} (h : r ≤ r') (e : rel r' stk A = (stk', A')) : rel r stk A = rel r stk' A' := by
  rw [← rel_rel h stk A, e]
theorem rel_nots {stk : List Nat} : ∀ j A, rel 3 (List.replicate j 4 ++ stk) A = rel 3 stk (A ++ List.replicate j 30004) := by
  intro j
  induction j with
  | zero => intro A; show rel 3 ([] ++ stk) A = rel 3 stk (A ++ []); rw [List.append_nil]; rfl
  | succ j ih =>
    intro A
    rw [List.replicate_succ, List.cons_append, rel_pop (by decide), ih, List.replicate_succ, List.append_assoc]
    rfl
def lb (l : Nat) : Nat := if l = 7 then 11 else if l = 6 then 10 else if l = 5 then 9 else l - 1
def pre (B : Nat → Nat) (n l : Nat) (nm : Bool) (nots p : Nat) : Prop := if 5 ≤ l then (nm = false ∨ wd B n 7 p = false) else (nm = true ∧ nots = 0)
def pst (B : Nat → Nat) (n l : Nat) (stk A : List Nat) (p : Nat) : Prop := (l ≤ 6 → rk (opA B n p) ≠ 6) ∧ (l ≤ 5 → rk (opA B n p) ≠ 5) ∧ (l ≤ 3 → rk (opA B n p) = 4 → ∃ o t, (rel 5 stk A).1 = o :: t ∧ rk o = 4) ∧ (l ≤ 2 → rk (opA B n p) ≠ 2) ∧ (l ≤ 1 → rk (opA B n p) ≠ 1)
abbrev Oc : Type := (Nat × Nat) ⊕ (Nat × List Nat)
def Kn (B : Nat → Nat) (n : Nat) (sg : Bool) (rid cd f : Nat) (S0 : St) (Q : Int32 × St → Prop) (l l' a : Nat) (stk A : List Nat) (p' : Nat) (X : List Nat) : Prop := ∀ (S' : St) (nm' : Bool) (nots' i' k' : Nat) (stk' A' : List Nat), CF B n rid cd f S0 S' false nm' nots' a stk' A' p' → rel l stk' A' = (stk, A ++ X) → stk'.length ≤ 12 * a + 11 → pst B n l' stk' A' p' → i' ≤ tS B n p' → n + 3 ≤ k' + tS B n p' → ok (LX2_read_26 k' rid (b2i sg) 0 (nI i') S') Q
def Ko (B : Nat → Nat) (n : Nat) (sg : Bool) (rid cd f : Nat) (S0 : St) (Q : Int32 × St → Prop) (l l' a : Nat) (stk A : List Nat) : Oc → Prop
  | .inl e => ∀ S', CX B n rid cd f S0 S' e.2 → Q (nI e.1, S')
  | .inr w => Kn B n sg rid cd f S0 Q l l' a stk A w.1 w.2
def CL (B : Nat → Nat) (n : Nat) (sg : Bool) (l l' a p : Nat) (o : Oc) : Prop := ∀ (rid cd f : Nat) (S0 S : St) (nm : Bool) (nots i k : Nat) (stk A : List Nat) (Q : Int32 × St → Prop), RuI rid cd → TC B n S0 → CF B n rid cd f S0 S true nm nots a stk A p → pre B n l nm nots p → (∀ x t, stk = x :: t → rk x < l) → stk.length ≤ 12 * a + lb l → i ≤ tS B n p → n + 3 ≤ k + tS B n p → Ko B n sg rid cd f S0 Q l l' a stk A o → ok (LX2_read_26 k rid (b2i sg) 0 (nI i) S) Q
def lvl (l l' : Nat) : Prop := (l = 6 ∧ l' = 7) ∨ (l = 5 ∧ l' = 6) ∨ (l = 2 ∧ l' = 3) ∨ (l = 1 ∧ l' = 2)
theorem pre_lvl {B : Nat → Nat} {n l l' nots p : Nat} {nm : Bool} (h : lvl l l') (hp : pre B n l nm nots p) : pre B n l' nm nots p := by
  unfold pre at hp ⊢
  by_cases c : 5 ≤ l
  · rw [if_pos c] at hp; rw [if_pos (by unfold lvl at h; omega)]; exact hp
  · rw [if_neg c] at hp; rw [if_neg (by unfold lvl at h; omega)]; exact hp
theorem lb_lvl {l l' : Nat} (h : lvl l l') : lb l + 1 ≤ lb l' := by
  rcases h with ⟨rfl, rfl⟩ | ⟨rfl, rfl⟩ | ⟨rfl, rfl⟩ | ⟨rfl, rfl⟩ <;> decide
section LV
variable {B : Nat → Nat} {n : Nat} {sg : Bool} {l l' a p : Nat}
/-- the first of some -/
theorem CL.one {o : Oc} (hl : lvl l l') (h : CL B n sg l' l' a p o) : CL B n sg l l' a p o := by
  intro rid cd f S0 S nm nots i k stk A Q hI hT hF hp ht hs hi hk hQ
  have lt : l < l' := by unfold lvl at hl; omega
  have lb1 := lb_lvl hl
  refine h rid cd f S0 S nm nots i k stk A Q hI hT hF (pre_lvl hl hp) (fun x t e => Nat.lt_trans (ht x t e) lt) (by omega) hi hk ?_
  cases o with
  | inl e => exact hQ
  | inr w =>
    intro S' nm' nots' i' k' stk' A' c1 c2 c3 c4 c5 c6
    exact hQ S' nm' nots' i' k' stk' A' c1 (by rw [rel_of (Nat.le_of_lt lt) c2, rel_stop ht]) c3 c4 c5 c6
theorem CL.end_ {w : Nat × List Nat} (h : CL B n sg l l' a p (.inr w)) (hp : ∀ stk A, pst B n l' stk A w.1 → pst B n l stk A w.1) : CL B n sg l l a p (.inr w) := by
  intro rid cd f S0 S nm nots i k stk A Q hI hT hF hpr ht hs hi hk hQ
  refine h rid cd f S0 S nm nots i k stk A Q hI hT hF hpr ht hs hi hk ?_
  intro S' nm' nots' i' k' stk' A' c1 c2 c3 c4 c5 c6
  exact hQ S' nm' nots' i' k' stk' A' c1 c2 c3 (hp _ _ c4) c5 c6
theorem CL.bad {e : Nat × Nat} (h : CL B n sg l l' a p (.inl e)) : CL B n sg l l a p (.inl e) := h
/-- one more -/
def nxt (p1 : Nat) (X1 : List Nat) (o : Nat) : Oc → Oc
  | .inl e => .inl e
  | .inr w => .inr (w.1, X1 ++ w.2 ++ [30000 + o])
theorem CL.op {p1 o : Nat} {X1 : List Nat} {o2 : Oc} (hl : lvl l l') (ha : a < 6) (h : CL B n sg l l' a p (.inr (p1, X1))) (ho : opA B n p1 = o) (hr : rk o = l) (h2 : CL B n sg l' l' a (tE B n p1) o2) : CL B n sg l l' a p (nxt p1 X1 o o2) := by
  intro rid cd f S0 S nm nots i k stk A Q hI hT hF hp ht hs hi hk hQ
  have lt : l < l' := by unfold lvl at hl; omega
  have l4 : l ≠ 4 := by unfold lvl at hl; omega
  have lb1 := lb_lvl hl
  have lb11 : lb l' ≤ 11 := by rcases hl with ⟨rfl, rfl⟩ | ⟨rfl, rfl⟩ | ⟨rfl, rfl⟩ | ⟨rfl, rfl⟩ <;> decide
  have o2' : 2 ≤ o ∧ o ≤ 10 := by
    rcases opA_b (B := B) (n := n) (p := p1) with q | q
    · rw [← ho, q] at hr
      have : rk 1 = 0 := rfl
      unfold lvl at hl; omega
    · omega
  refine h rid cd f S0 S nm nots i k stk A Q hI hT hF hp ht hs hi hk ?_
  intro S' nm' nots' i' k' stk' A' c1 c2 c3 c4 c5 c6
  have c2' : rel l stk' A' = (stk, A ++ X1) := c2
  have c1 : CF B n rid cd f S0 S' false nm' nots' a stk' A' p1 := c1
  have c5 : i' ≤ tS B n p1 := c5
  have c6 : n + 3 ≤ k' + tS B n p1 := c6
  have sn := tS_le (B := B) c1.2.2.1
  obtain ⟨S2, e2, f2, i2⟩ := C_oper (sg := sg) (i := i') hI hT c1 (by omega) (by omega) ho o2'.1 (stk' := stk) (A' := A ++ X1) (by rw [hr, if_neg l4]; exact c2') (fun z => absurd (hr ▸ z) l4) c5
  obtain ⟨k'', rfl⟩ : ∃ k'', k' = k'' + 1 := ⟨k' - 1, by omega⟩
  rw [e2 k'']
  have kp : tS B n p1 < tE B n p1 := by
    refine (tK_pos (fun z => ?_)).2
    have : opA B n p1 = 1 := by unfold opA; rw [z]; rfl
    omega
  have tg := tS_ge (B := B) (n := n) (p := tE B n p1)
  refine h2 rid cd f S0 S2 _ _ (i' + 1) k'' (o :: stk) (A ++ X1) Q hI hT f2 ?_ (fun x t e => ?_) ?_ i2 (by omega) ?_
  · unfold pre
    by_cases c : 5 ≤ l'
    · rw [if_pos c]
      refine Or.inl (decide_eq_false ?_)
      rintro (z | z)
      · rw [z] at hr; have : rk 2 = 1 := rfl; unfold lvl at hl; omega
      · rw [z] at hr; have : rk 3 = 2 := rfl; unfold lvl at hl; omega
    · rw [if_neg c]
      refine ⟨decide_eq_true ?_, rfl⟩
      have : ∀ o, o < 11 → rk o ≤ 2 → 1 ≤ rk o → o = 2 ∨ o = 3 := by decide +kernel
      exact this o (by omega) (by unfold lvl at hl; omega) (by unfold lvl at hl; omega)
  · cases e; omega
  · show stk.length + 1 ≤ _; omega
  · cases o2 with
    | inl e => exact hQ
    | inr w =>
      intro S3 nm3 nots3 i3 k3 stk3 A3 d1 d2 d3 d4 d5 d6
      refine hQ S3 nm3 nots3 i3 k3 stk3 A3 d1 ?_ d3 d4 d5 d6
      rw [rel_of (Nat.le_of_lt lt) d2, rel_pop (by omega), rel_stop ht]
      show (stk, A ++ X1 ++ w.2 ++ [30000 + o]) = (stk, A ++ (X1 ++ w.2 ++ [30000 + o]))
      simp only [List.append_assoc]
/-- a fault at once -/
theorem CL.err {c : Nat} (ha : a ≤ 6) (h : ∀ nm nots, pre B n l nm nots p → pErr B n sg nm nots a p c) : CL B n sg l l' a p (.inl (c, p)) := by
  intro rid cd f S0 S nm nots i k stk A Q hI hT hF hp ht hs hi hk hQ
  obtain ⟨S2, e2, x2⟩ := C_perr (sg := sg) (i := i) hI hT hF ha (h nm nots hp) hi
  have sn := tS_le (B := B) hF.2.2.1
  obtain ⟨k'', rfl⟩ : ∃ k'', k = k'' + 2 := ⟨k - 2, by omega⟩
  rw [e2 k'']
  exact ok_some (hQ S2 x2)
theorem CL.atom {x : Nat} (ha : a < 6) (hx : (tK B n p = 2 ∧ tL B n p = false ∧ x = tN B n p) ∨ (tK B n p = 1 ∧ ∃ j, vx B n sg p = some j ∧ x = 20000 + j)) : CL B n sg 7 7 a p (.inr (tE B n p, [x])) := by
  intro rid cd f S0 S nm nots i k stk A Q hI hT hF hp ht hs hi hk hQ
  have sn := tS_le (B := B) hF.2.2.1
  have hp' : nm = false ∨ wd B n 7 p = false := hp
  obtain ⟨S2, e2, f2, -, i2⟩ := C_atom (sg := sg) (i := i) hI hT hF ha hp' hx hi
  obtain ⟨k'', rfl⟩ : ∃ k'', k = k'' + 1 := ⟨k - 1, by omega⟩
  rw [e2 k'']
  have kp : tS B n p < tE B n p := (tK_pos (by rcases hx with hx | hx <;> omega)).2
  have tg := tS_ge (B := B) (n := n) (p := tE B n p)
  exact hQ S2 nm nots (i + 1) k'' stk (A ++ [x]) f2 rel_7 hs ⟨fun z => absurd z (by decide), fun z => absurd z (by decide), fun z => absurd z (by decide), fun z => absurd z (by decide), fun z => absurd z (by decide)⟩ i2 (show n + 3 ≤ k'' + tS B n (tE B n p) by omega)
/-- a parenthesis -/
def parO (B : Nat → Nat) (n : Nat) : Oc → Oc
  | .inl e => .inl e
  | .inr w => if tK B n w.1 = 41 then .inr (tE B n w.1, w.2) else .inl (1, w.1)
theorem CL.par {o1 : Oc} (ha : a < 6) (hk : tK B n p = 40) (h : CL B n sg 1 1 (a + 1) (tE B n p) o1) : CL B n sg 7 7 a p (parO B n o1) := by
  intro rid cd f S0 S nm nots i k stk A Q hI hT hF hp ht hs hi hkk hQ
  have sn := tS_le (B := B) hF.2.2.1
  have hs' : stk.length ≤ 12 * a + 11 := hs
  obtain ⟨S2, e2, f2, i2⟩ := C_open (sg := sg) (i := i) hI hT hF ha (by omega) hk hi
  obtain ⟨k'', rfl⟩ : ∃ k'', k = k'' + 1 := ⟨k - 1, by omega⟩
  rw [e2 k'']
  have kp : tS B n p < tE B n p := (tK_pos (by omega)).2
  have tg := tS_ge (B := B) (n := n) (p := tE B n p)
  refine h rid cd f S0 S2 true 0 (i + 1) k'' (0 :: stk) A Q hI hT f2 ⟨rfl, rfl⟩ (fun x t e => by cases e; decide) (by show stk.length + 1 ≤ 12 * (a + 1) + 0; omega) i2 (by omega) ?_
  cases o1 with
  | inl e => exact hQ
  | inr w =>
    intro S3 nm3 nots3 i3 k3 stk3 A3 d1 d2 d3 d4 d5 d6
    have sn3 := tS_le (B := B) d1.2.2.1
    unfold parO at hQ
    by_cases c : tK B n w.1 = 41
    · have hQ' : Ko B n sg rid cd f S0 Q 7 7 a stk A (.inr (tE B n w.1, w.2)) := by
        have : (match (Sum.inr w : Oc) with | .inl e => (.inl e : Oc) | .inr w => if tK B n w.1 = 41 then .inr (tE B n w.1, w.2) else .inl (1, w.1)) = .inr (tE B n w.1, w.2) := if_pos c
        rw [← this]; exact hQ
      obtain ⟨S4, e4, f4, i4⟩ := C_close (sg := sg) (i := i3) hI hT d1 (by omega) (by omega) (by omega) c d2 d5
      obtain ⟨k4, rfl⟩ : ∃ k4, k3 = k4 + 1 := ⟨k3 - 1, by omega⟩
      rw [e4 k4]
      have kp3 : tS B n w.1 < tE B n w.1 := (tK_pos (by omega)).2
      have tg3 := tS_ge (B := B) (n := n) (p := tE B n w.1)
      exact hQ' S4 nm3 nots3 (i3 + 1) k4 stk (A ++ w.2) f4 rel_7 hs ⟨fun z => absurd z (by decide), fun z => absurd z (by decide), fun z => absurd z (by decide), fun z => absurd z (by decide), fun z => absurd z (by decide)⟩ i4 (show n + 3 ≤ k4 + tS B n (tE B n w.1) by omega)
    · have hQ' : Ko B n sg rid cd f S0 Q 7 7 a stk A (.inl (1, w.1)) := by
        have : (match (Sum.inr w : Oc) with | .inl e => (.inl e : Oc) | .inr w => if tK B n w.1 = 41 then .inr (tE B n w.1, w.2) else .inl (1, w.1)) = .inl (1, w.1) := if_neg c
        rw [← this]; exact hQ
      obtain ⟨p6, p5, p4, p2, p1⟩ := d4
      obtain ⟨S4, e4, x4⟩ := C_berr (sg := sg) (i := i3) hI hT d1 (by omega) (by omega) (fun z => c z.1) (fun z => by omega) (by
        rcases opA_b (B := B) (n := n) (p := w.1) with q | ⟨q1, q2, q3⟩
        · exact Or.inl q
        · refine Or.inr ?_
          have r := p6 (by decide)
          have r5 := p5 (by decide)
          have r2 := p2 (by decide)
          have r1 := p1 (by decide)
          have : ∀ o, o < 11 → (2 ≤ o ∧ o ≠ 4 ∧ rk o ≠ 6 ∧ rk o ≠ 5 ∧ rk o ≠ 2 ∧ rk o ≠ 1) → rk o = 4 := by decide +kernel
          have r4 := this _ (by omega) ⟨q1, q3, r, r5, r2, r1⟩
          exact ⟨r4, p4 (by decide) r4⟩) d5
      obtain ⟨k4, rfl⟩ : ∃ k4, k3 = k4 + 2 := ⟨k3 - 2, by omega⟩
      rw [e4 k4]
      exact ok_some (hQ' S4 x4)
/-! nots and a test -/
def CN (B : Nat → Nat) (n : Nat) (sg : Bool) (a j p : Nat) (o : Oc) : Prop := ∀ (rid cd f : Nat) (S0 S : St) (i k : Nat) (stk A : List Nat) (Q : Int32 × St → Prop), RuI rid cd → TC B n S0 → CF B n rid cd f S0 S true true j a (List.replicate j 4 ++ stk) A p → (∀ x t, stk = x :: t → rk x < 3) → stk.length ≤ 12 * a + 2 → i ≤ tS B n p → n + 3 ≤ k + tS B n p → Ko B n sg rid cd f S0 Q 3 3 a stk A o → ok (LX2_read_26 k rid (b2i sg) 0 (nI i) S) Q
theorem CN.zero {o : Oc} (h : CN B n sg a 0 p o) : CL B n sg 3 3 a p o := by
  intro rid cd f S0 S nm nots i k stk A Q hI hT hF hp ht hs hi hk hQ
  have hp' : nm = true ∧ nots = 0 := hp
  obtain ⟨rfl, rfl⟩ := hp'
  exact h rid cd f S0 S i k stk A Q hI hT hF ht hs hi hk hQ
theorem CN.not {o : Oc} {j : Nat} (ha : a < 6) (hj : j < 6) (hw : wd B n 7 p = true) (h : CN B n sg a (j + 1) (tE B n p) o) : CN B n sg a j p o := by
  intro rid cd f S0 S i k stk A Q hI hT hF ht hs hi hk hQ
  have sn := tS_le (B := B) hF.2.2.1
  obtain ⟨S2, e2, f2, i2⟩ := C_not (sg := sg) (i := i) hI hT hF ha (by rw [List.length_append, List.length_replicate]; omega) hw hj hi
  obtain ⟨k'', rfl⟩ : ∃ k'', k = k'' + 1 := ⟨k - 1, by omega⟩
  rw [e2 k'']
  have kp : tS B n p < tE B n p := (tK_pos (by have := wd_k hw; omega)).2
  have tg := tS_ge (B := B) (n := n) (p := tE B n p)
  refine h rid cd f S0 S2 (i + 1) k'' stk A Q hI hT ?_ ht hs i2 (by omega) hQ
  rw [List.replicate_succ, List.cons_append]; exact f2
theorem CN.six (ha : a < 6) (hw : wd B n 7 p = true) : CN B n sg a 6 p (.inl (2, p)) := by
  intro rid cd f S0 S i k stk A Q hI hT hF ht hs hi hk hQ
  have sn := tS_le (B := B) hF.2.2.1
  obtain ⟨S2, e2, x2⟩ := C_perr (sg := sg) (i := i) (c := 2) hI hT hF (by omega) (Or.inr (Or.inr (Or.inl ⟨rfl, hw, ha, by decide, by decide, rfl⟩))) hi
  obtain ⟨k'', rfl⟩ : ∃ k'', k = k'' + 2 := ⟨k - 2, by omega⟩
  rw [e2 k'']
  exact ok_some (hQ S2 x2)
theorem top_nots {j : Nat} {stk : List Nat} (ht : ∀ x t, stk = x :: t → rk x < 3) : ∀ x t, List.replicate j 4 ++ stk = x :: t → rk x < 4 := by
  intro x t e
  cases j with
  | zero => exact Nat.lt_trans (ht x t e) (by decide)
  | succ j => rw [List.replicate_succ, List.cons_append] at e; cases e; decide
/-- what follows a sum -/
def tst (X1 : List Nat) (j o : Nat) : Oc → Oc
  | .inl e => .inl e
  | .inr w => .inr (w.1, X1 ++ w.2 ++ [30000 + o] ++ List.replicate j 30004)
theorem CN.bad {j : Nat} {e : Nat × Nat} (hj : j ≤ 6) (hw : wd B n 7 p = false) (h : CL B n sg 5 5 a p (.inl e)) : CN B n sg a j p (.inl e) := by
  intro rid cd f S0 S i k stk A Q hI hT hF ht hs hi hk hQ
  exact h rid cd f S0 S true j i k (List.replicate j 4 ++ stk) A Q hI hT hF (Or.inr hw) (fun x t e => Nat.lt_trans (top_nots ht x t e) (by decide)) (by rw [List.length_append, List.length_replicate]; show _ ≤ 12 * a + 9; omega) hi hk hQ
theorem CN.sum {j p1 : Nat} {X1 : List Nat} (hj : j ≤ 6) (hw : wd B n 7 p = false) (h : CL B n sg 5 5 a p (.inr (p1, X1))) (h4 : rk (opA B n p1) ≠ 4) : CN B n sg a j p (.inr (p1, X1 ++ List.replicate j 30004)) := by
  intro rid cd f S0 S i k stk A Q hI hT hF ht hs hi hk hQ
  refine h rid cd f S0 S true j i k (List.replicate j 4 ++ stk) A Q hI hT hF (Or.inr hw) (fun x t e => Nat.lt_trans (top_nots ht x t e) (by decide)) (by rw [List.length_append, List.length_replicate]; show _ ≤ 12 * a + 9; omega) hi hk ?_
  intro S' nm' nots' i' k' stk' A' c1 c2 c3 c4 c5 c6
  obtain ⟨q6, q5, -, -, -⟩ := c4
  refine hQ S' nm' nots' i' k' stk' A' c1 ?_ c3 ⟨fun _ => q6 (by decide), fun _ => q5 (by decide), fun _ z => absurd z h4, fun z => absurd z (by decide), fun z => absurd z (by decide)⟩ c5 c6
  rw [rel_of (by decide) c2, rel_nots, rel_stop ht]
  show (stk, A ++ X1 ++ List.replicate j 30004) = (stk, A ++ (X1 ++ List.replicate j 30004))
  rw [List.append_assoc]
theorem CN.test {j p1 o : Nat} {X1 : List Nat} {o2 : Oc} (ha : a < 6) (hj : j ≤ 6) (hw : wd B n 7 p = false) (h : CL B n sg 5 5 a p (.inr (p1, X1))) (ho : opA B n p1 = o) (h4 : rk o = 4) (h2 : CL B n sg 5 5 a (tE B n p1) o2) : CN B n sg a j p (tst X1 j o o2) := by
  intro rid cd f S0 S i k stk A Q hI hT hF ht hs hi hk hQ
  have o2' : 2 ≤ o ∧ o ≤ 10 := by
    rcases opA_b (B := B) (n := n) (p := p1) with q | q
    · rw [← ho, q] at h4; exact absurd h4 (by decide)
    · omega
  refine h rid cd f S0 S true j i k (List.replicate j 4 ++ stk) A Q hI hT hF (Or.inr hw) (fun x t e => Nat.lt_trans (top_nots ht x t e) (by decide)) (by rw [List.length_append, List.length_replicate]; show _ ≤ 12 * a + 9; omega) hi hk ?_
  intro S' nm' nots' i' k' stk' A' c1 c2 c3 c4 c5 c6
  have c2' : rel 5 stk' A' = (List.replicate j 4 ++ stk, A ++ X1) := c2
  have c1 : CF B n rid cd f S0 S' false nm' nots' a stk' A' p1 := c1
  have c5 : i' ≤ tS B n p1 := c5
  have c6 : n + 3 ≤ k' + tS B n p1 := c6
  have sn := tS_le (B := B) c1.2.2.1
  obtain ⟨S2, e2, f2, i2⟩ := C_oper (sg := sg) (i := i') hI hT c1 (by omega) (by omega) ho o2'.1 (stk' := List.replicate j 4 ++ stk) (A' := A ++ X1) (by rw [if_pos h4]; exact c2') (fun _ x t e => by have := top_nots ht x t e; omega) c5
  obtain ⟨k'', rfl⟩ : ∃ k'', k' = k'' + 1 := ⟨k' - 1, by omega⟩
  rw [e2 k'']
  have kp : tS B n p1 < tE B n p1 := by
    refine (tK_pos (fun z => ?_)).2
    have : opA B n p1 = 1 := by unfold opA; rw [z]; rfl
    omega
  have tg := tS_ge (B := B) (n := n) (p := tE B n p1)
  have o56 : o = 5 ∨ o = 6 := by
    have : ∀ o, o < 11 → rk o = 4 → o = 5 ∨ o = 6 := by decide +kernel
    exact this o (by omega) h4
  refine h2 rid cd f S0 S2 _ _ (i' + 1) k'' (o :: (List.replicate j 4 ++ stk)) (A ++ X1) Q hI hT f2 (Or.inl (decide_eq_false (by omega))) (fun x t e => by cases e; omega) (by
    show (List.replicate j 4 ++ stk).length + 1 ≤ 12 * a + 9
    rw [List.length_append, List.length_replicate]; omega) i2 (by omega) ?_
  cases o2 with
  | inl e => exact hQ
  | inr w =>
    intro S3 nm3 nots3 i3 k3 stk3 A3 d1 d2 d3 d4 d5 d6
    obtain ⟨q6, q5, -, -, -⟩ := d4
    refine hQ S3 nm3 nots3 i3 k3 stk3 A3 d1 ?_ d3 ⟨fun _ => q6 (by decide), fun _ => q5 (by decide), fun _ _ => ⟨o, _, by rw [d2], h4⟩, fun z => absurd z (by decide), fun z => absurd z (by decide)⟩ d5 d6
    rw [rel_of (by decide) d2, rel_pop (by omega), rel_nots, rel_stop ht]
    show (stk, A ++ X1 ++ w.2 ++ [30000 + o] ++ List.replicate j 30004) = (stk, A ++ (X1 ++ w.2 ++ [30000 + o] ++ List.replicate j 30004))
    simp only [List.append_assoc]
end LV
/-! what code means: numbers that wait for an operator, at most 40 -/
def opV (o : Nat) (x y : Int32) : Int32 := if o = 2 then (if x = 0 then (if y = 0 then 0 else 1) else 1) else if o = 3 then (if x = 0 then 0 else (if y = 0 then 0 else 1)) else if o = 5 then (if y ≤ x then 0 else 1) else if o = 6 then (if x = y then 1 else 0) else if o = 7 then x + y else if o = 8 then x - y else if o = 9 then x * y else (if y = 0 then 0 else x / y)
def ev1 (w : Rw) (x : Nat) (st : List Int32) : Option (List Int32) :=
  if x < 20000 then (if st.length < 40 then some (nI x :: st) else none)
  else if x < 30000 then (if st.length < 40 then some (w (x - 20000) :: st) else none)
  else if x = 30004 then (match st with | y :: r => if r.length + 1 < 40 then some ((if y = 0 then 1 else 0) :: r) else none | [] => none)
  else (match st with | y :: z :: r => some (opV (x - 30000) z y :: r) | _ => none)
def ev (w : Rw) : List Nat → List Int32 → Option (List Int32)
  | [], st => some st
  | x :: A, st => match ev1 w x st with
    | none => none
    | some st' => ev w A st'
theorem ev_app {w : Rw} {C : List Nat} : ∀ (A : List Nat) (st : List Int32), ev w (A ++ C) st = match ev w A st with
    | none => none
    | some st' => ev w C st' := by
  intro A
  induction A with
  | nil => intro st; rfl
  | cons x A ih =>
    intro st
    show (match ev1 w x st with | none => none | some st' => ev w (A ++ C) st') = _
    cases h : ev1 w x st with
    | none => show none = match (match ev1 w x st with | none => none | some st' => ev w A st') with | none => none | some st' => ev w C st'; rw [h]
    | some st' => rw [show ev w (x :: A) st = ev w A st' by show (match ev1 w x st with | none => none | some st' => ev w A st') = _; rw [h]]; exact ih st'
def Sem (d : Nat) (A : List Nat) : Prop := ∀ (w : Rw) (st : List Int32), st.length + d ≤ 40 → ∃ x, ev w A st = some (x :: st)
theorem Sem.mono {d d' : Nat} {A : List Nat} (h : Sem d A) (hd : d ≤ d') : Sem d' A := fun w st hs => h w st (by omega)
theorem Sem.num {x d : Nat} (hx : x < 20000) (hd : 1 ≤ d) : Sem d [x] := fun w st hs => ⟨nI x, by
  show (match ev1 w x st with | none => none | some st' => ev w [] st') = _
  have : ev1 w x st = some (nI x :: st) := by unfold ev1; rw [if_pos hx, if_pos (by omega)]
  rw [this]; rfl⟩
theorem Sem.val {j d : Nat} (hj : j < 5) (hd : 1 ≤ d) : Sem d [20000 + j] := fun w st hs => ⟨w j, by
  show (match ev1 w (20000 + j) st with | none => none | some st' => ev w [] st') = _
  have : ev1 w (20000 + j) st = some (w j :: st) := by unfold ev1; rw [if_neg (by omega), if_pos (by omega), if_pos (by omega), show 20000 + j - 20000 = j by omega]
  rw [this]; rfl⟩
theorem Sem.bin {d d1 d2 o : Nat} {A C : List Nat} (h1 : Sem d1 A) (h2 : Sem d2 C) (hd1 : d1 ≤ d) (hd2 : d2 + 1 ≤ d) (ho : o ≠ 4) : Sem d (A ++ C ++ [30000 + o]) := by
  intro w st hs
  obtain ⟨x, hx⟩ := h1 w st (by omega)
  obtain ⟨y, hy⟩ := h2 w (x :: st) (by show st.length + 1 + d2 ≤ 40; omega)
  refine ⟨opV o x y, ?_⟩
  rw [List.append_assoc, ev_app, hx]
  show ev w (C ++ [30000 + o]) (x :: st) = _
  rw [ev_app, hy]
  show (match ev1 w (30000 + o) (y :: x :: st) with | none => none | some st' => ev w [] st') = _
  have : ev1 w (30000 + o) (y :: x :: st) = some (opV o x y :: st) := by
    unfold ev1; rw [if_neg (by omega), if_neg (by omega), if_neg (by omega), show 30000 + o - 30000 = o by omega]
  rw [this]; rfl
theorem Sem.nots {d : Nat} {A : List Nat} (h : Sem d A) (hd : 2 ≤ d) : ∀ j, Sem d (A ++ List.replicate j 30004) := by
  intro j
  induction j with
  | zero => intro w st hs; show ∃ x, ev w (A ++ []) st = _; rw [List.append_nil]; exact h w st hs
  | succ j ih =>
    intro w st hs
    obtain ⟨x, hx⟩ := ih w st hs
    refine ⟨if x = 0 then 1 else 0, ?_⟩
    rw [List.replicate_succ', ← List.append_assoc, ev_app, hx]
    show (match ev1 w 30004 (x :: st) with | none => none | some st' => ev w [] st') = _
    have : ev1 w 30004 (x :: st) = some ((if x = 0 then 1 else 0) :: st) := by
      unfold ev1; rw [if_neg (by decide), if_neg (by decide), if_pos rfl]
      show (if st.length + 1 < 40 then _ else none) = _
      rw [if_pos (by omega)]
    rw [this]; rfl
