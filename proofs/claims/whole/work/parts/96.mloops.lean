/-! products, sums, ands, ors: class and reference together -/
theorem lvl_6 : lvl 6 7 := Or.inl ⟨rfl, rfl⟩
theorem lvl_5 : lvl 5 6 := Or.inr (Or.inl ⟨rfl, rfl⟩)
theorem lvl_2 : lvl 2 3 := Or.inr (Or.inr (Or.inl ⟨rfl, rfl⟩))
theorem lvl_1 : lvl 1 2 := Or.inr (Or.inr (Or.inr ⟨rfl, rfl⟩))
theorem opA_k {B : Nat → Nat} {n p : Nat} : (tK B n p = 42 → opA B n p = 9) ∧ (tK B n p = 47 → opA B n p = 10) ∧ (tK B n p = 43 → opA B n p = 7) ∧ (tK B n p = 45 → opA B n p = 8) ∧ (tK B n p = 60 → opA B n p = 5) ∧ (tK B n p = 61 → opA B n p = 6) ∧ (rk (opA B n p) = 6 → tK B n p = 42 ∨ tK B n p = 47) ∧ (rk (opA B n p) = 5 → tK B n p = 43 ∨ tK B n p = 45) ∧ (rk (opA B n p) = 4 → tK B n p = 60 ∨ tK B n p = 61) ∧ (rk (opA B n p) = 2 → wd B n 16 p = true) ∧ (rk (opA B n p) = 1 → wd B n 15 p = true) := by
  refine ⟨fun h => ?_, fun h => ?_, fun h => ?_, fun h => ?_, fun h => ?_, fun h => ?_, fun h => ?_, fun h => ?_, fun h => ?_, fun h => ?_, fun h => ?_⟩
  · unfold opA; rw [h]; rfl
  · unfold opA; rw [h]; rfl
  · unfold opA; rw [h]; rfl
  · unfold opA; rw [h]; rfl
  · unfold opA; rw [h]; rfl
  · unfold opA; rw [h]; rfl
  all_goals
    unfold opA at h
    repeat' split at h
    all_goals first
      | (exact absurd h (by decide))
      | assumption
      | (left; assumption)
      | (right; assumption)
theorem opA_w {B : Nat → Nat} {n p : Nat} : (wd B n 15 p = true → opA B n p = 2) ∧ (wd B n 16 p = true → opA B n p = 3) := by
  refine ⟨fun h => ?_, fun h => ?_⟩
  · unfold opA; rw [if_pos (wd_k h), if_pos h]
  · unfold opA
    rw [if_pos (wd_k h), wd_x h (show wsN 16 ≠ wsN 15 by decide +kernel), if_neg (by decide), if_pos h]
section JL
variable {B : Nat → Nat} {n : Nat} {sg : Bool} {T0 : St} {a : Nat} {rx : Int32 → St → Option St}
theorem J_prodL (hB : BM B n sg T0) (ha : a < 6) (hP : JR B n sg T0 7 a (5 * (5 - a) + 1) (fX10_readPart rx (nI a))) {p : Nat} {L : List Nat} (hL : L.length ≤ tS B n p) : ∀ (k : Nat) (T : St) (p1 : Nat) (X : List Nat), n + 1 ≤ k + tS B n p1 → MF B n sg T0 T p1 (L ++ X) → CL B n sg 6 7 a p (.inr (p1, X)) → PG B n (5 * (5 - a) + 2) p (.inr (p1, X)) → ∃ o, ok (LX10_readProduct_5 rx k (nI a) T) (MO B n sg T0 L o) ∧ CL B n sg 6 6 a p o ∧ PG B n (5 * (5 - a) + 2) p o := by
  intro k
  induction k with
  | zero =>
    intro T p1 X hk h
    have := tS_le (B := B) h.2.1
    omega
  | succ k ih =>
    intro T p1 X hk h hC hG
    have hT := h.tm hB
    have n7 := hT.1
    have hp := h.2.1
    have sn := tS_le (B := B) hp
    obtain ⟨g1, g2, g3, g4⟩ := hG
    have g1' : tS B n p + X.length ≤ tS B n p1 := g1
    have on : ∀ (o : Nat) (s : Int32), opA B n p1 = o → rk o = 6 → 2 ≤ o → o ≤ 10 → toM (30000 + o) = s → tK B n p1 ≠ 0 → ∃ o', ok (BX10_readProduct_39 rx (LX10_readProduct_5 rx k) (nI a) s T) (MO B n sg T0 L o') ∧ CL B n sg 6 6 a p o' ∧ PG B n (5 * (5 - a) + 2) p o' := by
      intro o s ho hr o2 o10 hs hk0
      have kp := tK_pos hk0
      have tg := tS_ge (B := B) (n := n) (p := tE B n p1)
      have o4 : o ≠ 4 := by rintro rfl; exact absurd hr (by decide)
      obtain ⟨T1, e1, m1⟩ := h.next hB
      have hl1 : (L ++ X).length ≤ tS B n (tE B n p1) := by rw [List.length_append]; omega
      obtain ⟨oc, ⟨T2, e2, q2⟩, q3, q4⟩ := hP T1 (tE B n p1) (L ++ X) m1 hl1
      unfold BX10_readProduct_39
      rw [e1, bv_s, e2, bv_s]
      have cl := CL.op (lvl_6) ha hC ho hr q3
      cases oc with
      | inl e =>
        have q2' : ME B n sg T0 T2 e.1 e.2 := q2
        refine ⟨.inl e, ?_, cl, trivial⟩
        obtain ⟨k', rfl⟩ : ∃ k', k = k' + 1 := ⟨k - 1, by omega⟩
        rw [lay_bad q2'.bad, bv_s, prodL_bad q2'.bad]
        exact ok_some q2'
      | inr w =>
        have q2' : MF B n sg T0 T2 w.1 (L ++ X ++ w.2) := q2
        obtain ⟨f1, f2, f3, f4⟩ := q4
        have sn3 := tS_le (B := B) q2'.2.1
        obtain ⟨T3, e3, m3⟩ := q2'.lay hB (x := 30000 + o) (by rw [List.length_append, List.length_append]; omega)
        rw [← hs, e3, bv_s]
        refine ih T3 w.1 (X ++ w.2 ++ [30000 + o]) (by omega) ?_ cl ⟨?_, ?_, Sem.bin g3 f3 (by omega) (by omega) o4, fun x hx => ?_⟩
        · rw [show L ++ (X ++ w.2 ++ [30000 + o]) = L ++ X ++ w.2 ++ [30000 + o] by simp only [List.append_assoc]]; exact m3
        · show tS B n p + (X ++ w.2 ++ [30000 + o]).length ≤ tS B n w.1
          rw [List.length_append, List.length_append]
          show tS B n p + (X.length + w.2.length + 1) ≤ tS B n w.1
          omega
        · show 1 ≤ (X ++ w.2 ++ [30000 + o]).length
          rw [List.length_append, List.length_append]
          show 1 ≤ X.length + w.2.length + 1
          omega
        · rw [List.mem_append, List.mem_append] at hx
          rcases hx with (hx | hx) | hx
          · exact g4 x hx
          · exact f4 x hx
          · have : x = 30000 + o := by simpa using hx
            rw [this]; exact Or.inr (Or.inr ⟨by omega, by omega⟩)
    show ∃ o, ok (KX10_readProduct_5 rx (LX10_readProduct_5 rx k) (nI a) T) (MO B n sg T0 L o) ∧ _
    unfold KX10_readProduct_5
    rw [show fX10_isMarked 42 T = _ from M_isMarked (c := 42) hT h.1 hp (by omega), bd_s]
    by_cases k1 : tK B n p1 = 42
    · rw [decide_eq_true k1, b2i_t, if_neg (by decide)]
      unfold BX10_readProduct_23
      rw [show fX10_isMarked 42 T = _ from M_isMarked (c := 42) hT h.1 hp (by omega), bd_s, decide_eq_true k1, b2i_t, if_neg (by decide)]
      exact on 9 _ (opA_k.1 k1) (by decide) (by decide) (by decide) (by decide) (by omega)
    · rw [decide_eq_false k1, b2i_f, if_pos rfl, show fX10_isMarked 47 T = _ from M_isMarked (c := 47) hT h.1 hp (by omega), bd_s]
      by_cases k2 : tK B n p1 = 47
      · rw [decide_eq_true k2, b2i_t, if_neg (by decide)]
        unfold BX10_readProduct_23
        rw [show fX10_isMarked 42 T = _ from M_isMarked (c := 42) hT h.1 hp (by omega), bd_s, decide_eq_false k1, b2i_f, if_pos rfl]
        exact on 10 _ (opA_k.2.1 k2) (by decide) (by decide) (by decide) (by decide) (by omega)
      · rw [decide_eq_false k2, b2i_f, if_pos rfl]
        refine ⟨.inr (p1, X), ok_some h, hC.end_ (fun stk A q => ?_), g1, g2, g3, g4⟩
        have nr : rk (opA B n p1) ≠ 6 := fun z => by
          have := opA_k.2.2.2.2.2.2.1 z
          omega
        exact ⟨fun _ => nr, fun z => absurd z (by decide), fun z => absurd z (by decide), fun z => absurd z (by decide), fun z => absurd z (by decide)⟩
theorem J_prod (hB : BM B n sg T0) (ha : a < 6) (hP : JR B n sg T0 7 a (5 * (5 - a) + 1) (fX10_readPart rx (nI a))) : JR B n sg T0 6 a (5 * (5 - a) + 2) (fX10_readProduct rx (nI a)) := by
  intro T p L h hL
  obtain ⟨o, ⟨T1, e1, q1⟩, q2, q3⟩ := hP T p L h hL
  unfold fX10_readProduct
  rw [e1, bv_s]
  cases o with
  | inl e =>
    have q1' : ME B n sg T0 T1 e.1 e.2 := q1
    refine ⟨.inl e, ?_, (CL.one lvl_6 q2).bad, trivial⟩
    rw [show FU = 4999 + 1 from rfl, prodL_bad q1'.bad]; exact ok_some q1'
  | inr w =>
    have q1' : MF B n sg T0 T1 w.1 (L ++ w.2) := q1
    obtain ⟨f1, f2, f3, f4⟩ := q3
    exact J_prodL hB ha hP hL FU T1 w.1 w.2 (by have := (h.tm hB).1; unfold FU; omega) q1' (CL.one lvl_6 q2) ⟨f1, f2, f3.mono (by omega), f4⟩

theorem J_sumL (hB : BM B n sg T0) (ha : a < 6) (hP : JR B n sg T0 6 a (5 * (5 - a) + 2) (fX10_readProduct rx (nI a))) {p : Nat} {L : List Nat} (hL : L.length ≤ tS B n p) : ∀ (k : Nat) (T : St) (p1 : Nat) (X : List Nat), n + 1 ≤ k + tS B n p1 → MF B n sg T0 T p1 (L ++ X) → CL B n sg 5 6 a p (.inr (p1, X)) → PG B n (5 * (5 - a) + 3) p (.inr (p1, X)) → ∃ o, ok (LX10_readSum_5 rx k (nI a) T) (MO B n sg T0 L o) ∧ CL B n sg 5 5 a p o ∧ PG B n (5 * (5 - a) + 3) p o := by
  intro k
  induction k with
  | zero =>
    intro T p1 X hk h
    have := tS_le (B := B) h.2.1
    omega
  | succ k ih =>
    intro T p1 X hk h hC hG
    have hT := h.tm hB
    have n7 := hT.1
    have hp := h.2.1
    have sn := tS_le (B := B) hp
    obtain ⟨g1, g2, g3, g4⟩ := hG
    have g1' : tS B n p + X.length ≤ tS B n p1 := g1
    have on : ∀ (o : Nat) (s : Int32), opA B n p1 = o → rk o = 5 → 2 ≤ o → o ≤ 10 → toM (30000 + o) = s → tK B n p1 ≠ 0 → ∃ o', ok (BX10_readSum_39 rx (LX10_readSum_5 rx k) (nI a) s T) (MO B n sg T0 L o') ∧ CL B n sg 5 5 a p o' ∧ PG B n (5 * (5 - a) + 3) p o' := by
      intro o s ho hr o2 o10 hs hk0
      have kp := tK_pos hk0
      have tg := tS_ge (B := B) (n := n) (p := tE B n p1)
      have o4 : o ≠ 4 := by rintro rfl; exact absurd hr (by decide)
      obtain ⟨T1, e1, m1⟩ := h.next hB
      have hl1 : (L ++ X).length ≤ tS B n (tE B n p1) := by rw [List.length_append]; omega
      obtain ⟨oc, ⟨T2, e2, q2⟩, q3, q4⟩ := hP T1 (tE B n p1) (L ++ X) m1 hl1
      unfold BX10_readSum_39
      rw [e1, bv_s, e2, bv_s]
      have cl := CL.op (lvl_5) ha hC ho hr q3
      cases oc with
      | inl e =>
        have q2' : ME B n sg T0 T2 e.1 e.2 := q2
        refine ⟨.inl e, ?_, cl, trivial⟩
        obtain ⟨k', rfl⟩ : ∃ k', k = k' + 1 := ⟨k - 1, by omega⟩
        rw [lay_bad q2'.bad, bv_s, sumL_bad q2'.bad]
        exact ok_some q2'
      | inr w =>
        have q2' : MF B n sg T0 T2 w.1 (L ++ X ++ w.2) := q2
        obtain ⟨f1, f2, f3, f4⟩ := q4
        have sn3 := tS_le (B := B) q2'.2.1
        obtain ⟨T3, e3, m3⟩ := q2'.lay hB (x := 30000 + o) (by rw [List.length_append, List.length_append]; omega)
        rw [← hs, e3, bv_s]
        refine ih T3 w.1 (X ++ w.2 ++ [30000 + o]) (by omega) ?_ cl ⟨?_, ?_, Sem.bin g3 f3 (by omega) (by omega) o4, fun x hx => ?_⟩
        · rw [show L ++ (X ++ w.2 ++ [30000 + o]) = L ++ X ++ w.2 ++ [30000 + o] by simp only [List.append_assoc]]; exact m3
        · show tS B n p + (X ++ w.2 ++ [30000 + o]).length ≤ tS B n w.1
          rw [List.length_append, List.length_append]
          show tS B n p + (X.length + w.2.length + 1) ≤ tS B n w.1
          omega
        · show 1 ≤ (X ++ w.2 ++ [30000 + o]).length
          rw [List.length_append, List.length_append]
          show 1 ≤ X.length + w.2.length + 1
          omega
        · rw [List.mem_append, List.mem_append] at hx
          rcases hx with (hx | hx) | hx
          · exact g4 x hx
          · exact f4 x hx
          · have : x = 30000 + o := by simpa using hx
            rw [this]; exact Or.inr (Or.inr ⟨by omega, by omega⟩)
    show ∃ o, ok (KX10_readSum_5 rx (LX10_readSum_5 rx k) (nI a) T) (MO B n sg T0 L o) ∧ _
    unfold KX10_readSum_5
    rw [show fX10_isMarked 43 T = _ from M_isMarked (c := 43) hT h.1 hp (by omega), bd_s]
    by_cases k1 : tK B n p1 = 43
    · rw [decide_eq_true k1, b2i_t, if_neg (by decide)]
      unfold BX10_readSum_23
      rw [show fX10_isMarked 43 T = _ from M_isMarked (c := 43) hT h.1 hp (by omega), bd_s, decide_eq_true k1, b2i_t, if_neg (by decide)]
      exact on 7 _ (opA_k.2.2.1 k1) (by decide) (by decide) (by decide) (by decide) (by omega)
    · rw [decide_eq_false k1, b2i_f, if_pos rfl, show fX10_isMarked 45 T = _ from M_isMarked (c := 45) hT h.1 hp (by omega), bd_s]
      by_cases k2 : tK B n p1 = 45
      · rw [decide_eq_true k2, b2i_t, if_neg (by decide)]
        unfold BX10_readSum_23
        rw [show fX10_isMarked 43 T = _ from M_isMarked (c := 43) hT h.1 hp (by omega), bd_s, decide_eq_false k1, b2i_f, if_pos rfl]
        exact on 8 _ (opA_k.2.2.2.1 k2) (by decide) (by decide) (by decide) (by decide) (by omega)
      · rw [decide_eq_false k2, b2i_f, if_pos rfl]
        refine ⟨.inr (p1, X), ok_some h, hC.end_ (fun stk A q => ?_), g1, g2, g3, g4⟩
        have nr : rk (opA B n p1) ≠ 5 := fun z => by
          have := opA_k.2.2.2.2.2.2.2.1 z
          omega
        exact ⟨fun _ => q.1 (by decide), fun _ => nr, fun z => absurd z (by decide), fun z => absurd z (by decide), fun z => absurd z (by decide)⟩
theorem J_sum (hB : BM B n sg T0) (ha : a < 6) (hP : JR B n sg T0 6 a (5 * (5 - a) + 2) (fX10_readProduct rx (nI a))) : JR B n sg T0 5 a (5 * (5 - a) + 3) (fX10_readSum rx (nI a)) := by
  intro T p L h hL
  obtain ⟨o, ⟨T1, e1, q1⟩, q2, q3⟩ := hP T p L h hL
  unfold fX10_readSum
  rw [e1, bv_s]
  cases o with
  | inl e =>
    have q1' : ME B n sg T0 T1 e.1 e.2 := q1
    refine ⟨.inl e, ?_, (CL.one lvl_5 q2).bad, trivial⟩
    rw [show FU = 4999 + 1 from rfl, sumL_bad q1'.bad]; exact ok_some q1'
  | inr w =>
    have q1' : MF B n sg T0 T1 w.1 (L ++ w.2) := q1
    obtain ⟨f1, f2, f3, f4⟩ := q3
    exact J_sumL hB ha hP hL FU T1 w.1 w.2 (by have := (h.tm hB).1; unfold FU; omega) q1' (CL.one lvl_5 q2) ⟨f1, f2, f3.mono (by omega), f4⟩

theorem J_andL (hB : BM B n sg T0) (ha : a < 6) (hP : JR B n sg T0 3 a (5 * (5 - a) + 4) (fX10_readNot rx (nI a))) {p : Nat} {L : List Nat} (hL : L.length ≤ tS B n p) : ∀ (k : Nat) (T : St) (p1 : Nat) (X : List Nat), n + 1 ≤ k + tS B n p1 → MF B n sg T0 T p1 (L ++ X) → CL B n sg 2 3 a p (.inr (p1, X)) → PG B n (5 * (5 - a) + 5) p (.inr (p1, X)) → ∃ o, ok (LX10_readAnd_5 rx k (nI a) T) (MO B n sg T0 L o) ∧ CL B n sg 2 2 a p o ∧ PG B n (5 * (5 - a) + 5) p o := by
  intro k
  induction k with
  | zero =>
    intro T p1 X hk h
    have := tS_le (B := B) h.2.1
    omega
  | succ k ih =>
    intro T p1 X hk h hC hG
    have hT := h.tm hB
    have n7 := hT.1
    have hp := h.2.1
    have sn := tS_le (B := B) hp
    obtain ⟨g1, g2, g3, g4⟩ := hG
    have g1' : tS B n p + X.length ≤ tS B n p1 := g1
    have on : ∀ (o : Nat) (s : Int32), opA B n p1 = o → rk o = 2 → 2 ≤ o → o ≤ 10 → toM (30000 + o) = s → tK B n p1 ≠ 0 → ∃ o', ok (bv (fX10_stepOn T) fun S => bv (fX10_readNot rx (nI a) S) fun S => bv (fX10_lay s S) fun S => (LX10_readAnd_5 rx k (nI a) S)) (MO B n sg T0 L o') ∧ CL B n sg 2 2 a p o' ∧ PG B n (5 * (5 - a) + 5) p o' := by
      intro o s ho hr o2 o10 hs hk0
      have kp := tK_pos hk0
      have tg := tS_ge (B := B) (n := n) (p := tE B n p1)
      have o4 : o ≠ 4 := by rintro rfl; exact absurd hr (by decide)
      obtain ⟨T1, e1, m1⟩ := h.next hB
      have hl1 : (L ++ X).length ≤ tS B n (tE B n p1) := by rw [List.length_append]; omega
      obtain ⟨oc, ⟨T2, e2, q2⟩, q3, q4⟩ := hP T1 (tE B n p1) (L ++ X) m1 hl1
      rw [e1, bv_s, e2, bv_s]
      have cl := CL.op (lvl_2) ha hC ho hr q3
      cases oc with
      | inl e =>
        have q2' : ME B n sg T0 T2 e.1 e.2 := q2
        refine ⟨.inl e, ?_, cl, trivial⟩
        obtain ⟨k', rfl⟩ : ∃ k', k = k' + 1 := ⟨k - 1, by omega⟩
        rw [lay_bad q2'.bad, bv_s, andL_bad q2'.bad]
        exact ok_some q2'
      | inr w =>
        have q2' : MF B n sg T0 T2 w.1 (L ++ X ++ w.2) := q2
        obtain ⟨f1, f2, f3, f4⟩ := q4
        have sn3 := tS_le (B := B) q2'.2.1
        obtain ⟨T3, e3, m3⟩ := q2'.lay hB (x := 30000 + o) (by rw [List.length_append, List.length_append]; omega)
        rw [← hs, e3, bv_s]
        refine ih T3 w.1 (X ++ w.2 ++ [30000 + o]) (by omega) ?_ cl ⟨?_, ?_, Sem.bin g3 f3 (by omega) (by omega) o4, fun x hx => ?_⟩
        · rw [show L ++ (X ++ w.2 ++ [30000 + o]) = L ++ X ++ w.2 ++ [30000 + o] by simp only [List.append_assoc]]; exact m3
        · show tS B n p + (X ++ w.2 ++ [30000 + o]).length ≤ tS B n w.1
          rw [List.length_append, List.length_append]
          show tS B n p + (X.length + w.2.length + 1) ≤ tS B n w.1
          omega
        · show 1 ≤ (X ++ w.2 ++ [30000 + o]).length
          rw [List.length_append, List.length_append]
          show 1 ≤ X.length + w.2.length + 1
          omega
        · rw [List.mem_append, List.mem_append] at hx
          rcases hx with (hx | hx) | hx
          · exact g4 x hx
          · exact f4 x hx
          · have : x = 30000 + o := by simpa using hx
            rw [this]; exact Or.inr (Or.inr ⟨by omega, by omega⟩)
    show ∃ o, ok (KX10_readAnd_5 rx (LX10_readAnd_5 rx k) (nI a) T) (MO B n sg T0 L o) ∧ _
    unfold KX10_readAnd_5
    rw [M_is hT h.1 hp (q := 16) (by decide), bd_s]
    cases hw : wd B n 16 p1 with
    | true =>
      rw [b2i_t, if_neg (by decide)]
      exact on 3 _ (opA_w.2 hw) (by decide) (by decide) (by decide) (by decide) (by have := wd_k hw; omega)
    | false =>
      rw [b2i_f, if_pos rfl]
      refine ⟨.inr (p1, X), ok_some h, hC.end_ (fun stk A q => ?_), g1, g2, g3, g4⟩
      have nr : rk (opA B n p1) ≠ 2 := fun z => by
        have := opA_k.2.2.2.2.2.2.2.2.2.1 z
        rw [hw] at this; cases this
      exact ⟨fun _ => q.1 (by decide), fun _ => q.2.1 (by decide), fun _ => q.2.2.1 (by decide), fun _ => nr, fun z => absurd z (by decide)⟩
theorem J_and (hB : BM B n sg T0) (ha : a < 6) (hP : JR B n sg T0 3 a (5 * (5 - a) + 4) (fX10_readNot rx (nI a))) : JR B n sg T0 2 a (5 * (5 - a) + 5) (fX10_readAnd rx (nI a)) := by
  intro T p L h hL
  obtain ⟨o, ⟨T1, e1, q1⟩, q2, q3⟩ := hP T p L h hL
  unfold fX10_readAnd
  rw [e1, bv_s]
  cases o with
  | inl e =>
    have q1' : ME B n sg T0 T1 e.1 e.2 := q1
    refine ⟨.inl e, ?_, (CL.one lvl_2 q2).bad, trivial⟩
    rw [show FU = 4999 + 1 from rfl, andL_bad q1'.bad]; exact ok_some q1'
  | inr w =>
    have q1' : MF B n sg T0 T1 w.1 (L ++ w.2) := q1
    obtain ⟨f1, f2, f3, f4⟩ := q3
    exact J_andL hB ha hP hL FU T1 w.1 w.2 (by have := (h.tm hB).1; unfold FU; omega) q1' (CL.one lvl_2 q2) ⟨f1, f2, f3.mono (by omega), f4⟩

theorem J_orL (hB : BM B n sg T0) (ha : a < 6) (hP : JR B n sg T0 2 a (5 * (5 - a) + 5) (fX10_readAnd rx (nI a))) {p : Nat} {L : List Nat} (hL : L.length ≤ tS B n p) : ∀ (k : Nat) (T : St) (p1 : Nat) (X : List Nat), n + 1 ≤ k + tS B n p1 → MF B n sg T0 T p1 (L ++ X) → CL B n sg 1 2 a p (.inr (p1, X)) → PG B n (5 * (5 - a) + 6) p (.inr (p1, X)) → ∃ o, ok (LX10_readExpression_67 rx k (nI a) T) (MO B n sg T0 L o) ∧ CL B n sg 1 1 a p o ∧ PG B n (5 * (5 - a) + 6) p o := by
  intro k
  induction k with
  | zero =>
    intro T p1 X hk h
    have := tS_le (B := B) h.2.1
    omega
  | succ k ih =>
    intro T p1 X hk h hC hG
    have hT := h.tm hB
    have n7 := hT.1
    have hp := h.2.1
    have sn := tS_le (B := B) hp
    obtain ⟨g1, g2, g3, g4⟩ := hG
    have g1' : tS B n p + X.length ≤ tS B n p1 := g1
    have on : ∀ (o : Nat) (s : Int32), opA B n p1 = o → rk o = 1 → 2 ≤ o → o ≤ 10 → toM (30000 + o) = s → tK B n p1 ≠ 0 → ∃ o', ok (bv (fX10_stepOn T) fun S => bv (fX10_readAnd rx (nI a) S) fun S => bv (fX10_lay s S) fun S => (LX10_readExpression_67 rx k (nI a) S)) (MO B n sg T0 L o') ∧ CL B n sg 1 1 a p o' ∧ PG B n (5 * (5 - a) + 6) p o' := by
      intro o s ho hr o2 o10 hs hk0
      have kp := tK_pos hk0
      have tg := tS_ge (B := B) (n := n) (p := tE B n p1)
      have o4 : o ≠ 4 := by rintro rfl; exact absurd hr (by decide)
      obtain ⟨T1, e1, m1⟩ := h.next hB
      have hl1 : (L ++ X).length ≤ tS B n (tE B n p1) := by rw [List.length_append]; omega
      obtain ⟨oc, ⟨T2, e2, q2⟩, q3, q4⟩ := hP T1 (tE B n p1) (L ++ X) m1 hl1
      rw [e1, bv_s, e2, bv_s]
      have cl := CL.op (lvl_1) ha hC ho hr q3
      cases oc with
      | inl e =>
        have q2' : ME B n sg T0 T2 e.1 e.2 := q2
        refine ⟨.inl e, ?_, cl, trivial⟩
        obtain ⟨k', rfl⟩ : ∃ k', k = k' + 1 := ⟨k - 1, by omega⟩
        rw [lay_bad q2'.bad, bv_s, orL_bad q2'.bad]
        exact ok_some q2'
      | inr w =>
        have q2' : MF B n sg T0 T2 w.1 (L ++ X ++ w.2) := q2
        obtain ⟨f1, f2, f3, f4⟩ := q4
        have sn3 := tS_le (B := B) q2'.2.1
        obtain ⟨T3, e3, m3⟩ := q2'.lay hB (x := 30000 + o) (by rw [List.length_append, List.length_append]; omega)
        rw [← hs, e3, bv_s]
        refine ih T3 w.1 (X ++ w.2 ++ [30000 + o]) (by omega) ?_ cl ⟨?_, ?_, Sem.bin g3 f3 (by omega) (by omega) o4, fun x hx => ?_⟩
        · rw [show L ++ (X ++ w.2 ++ [30000 + o]) = L ++ X ++ w.2 ++ [30000 + o] by simp only [List.append_assoc]]; exact m3
        · show tS B n p + (X ++ w.2 ++ [30000 + o]).length ≤ tS B n w.1
          rw [List.length_append, List.length_append]
          show tS B n p + (X.length + w.2.length + 1) ≤ tS B n w.1
          omega
        · show 1 ≤ (X ++ w.2 ++ [30000 + o]).length
          rw [List.length_append, List.length_append]
          show 1 ≤ X.length + w.2.length + 1
          omega
        · rw [List.mem_append, List.mem_append] at hx
          rcases hx with (hx | hx) | hx
          · exact g4 x hx
          · exact f4 x hx
          · have : x = 30000 + o := by simpa using hx
            rw [this]; exact Or.inr (Or.inr ⟨by omega, by omega⟩)
    show ∃ o, ok (KX10_readExpression_67 rx (LX10_readExpression_67 rx k) (nI a) T) (MO B n sg T0 L o) ∧ _
    unfold KX10_readExpression_67
    rw [M_is hT h.1 hp (q := 15) (by decide), bd_s]
    cases hw : wd B n 15 p1 with
    | true =>
      rw [b2i_t, if_neg (by decide)]
      exact on 2 _ (opA_w.1 hw) (by decide) (by decide) (by decide) (by decide) (by have := wd_k hw; omega)
    | false =>
      rw [b2i_f, if_pos rfl]
      refine ⟨.inr (p1, X), ok_some h, hC.end_ (fun stk A q => ?_), g1, g2, g3, g4⟩
      have nr : rk (opA B n p1) ≠ 1 := fun z => by
        have := opA_k.2.2.2.2.2.2.2.2.2.2 z
        rw [hw] at this; cases this
      exact ⟨fun _ => q.1 (by decide), fun _ => q.2.1 (by decide), fun _ => q.2.2.1 (by decide), fun _ => q.2.2.2.1 (by decide), fun _ => nr⟩
theorem J_or (hB : BM B n sg T0) (ha : a < 6) (hP : JR B n sg T0 2 a (5 * (5 - a) + 5) (fX10_readAnd rx (nI a))) : JR B n sg T0 1 a (5 * (5 - a) + 6) (BX10_readExpression_62 rx (nI a)) := by
  intro T p L h hL
  obtain ⟨o, ⟨T1, e1, q1⟩, q2, q3⟩ := hP T p L h hL
  unfold BX10_readExpression_62
  rw [e1, bv_s]
  cases o with
  | inl e =>
    have q1' : ME B n sg T0 T1 e.1 e.2 := q1
    refine ⟨.inl e, ?_, (CL.one lvl_1 q2).bad, trivial⟩
    rw [show FU = 4999 + 1 from rfl, orL_bad q1'.bad]; exact ok_some q1'
  | inr w =>
    have q1' : MF B n sg T0 T1 w.1 (L ++ w.2) := q1
    obtain ⟨f1, f2, f3, f4⟩ := q3
    exact J_orL hB ha hP hL FU T1 w.1 w.2 (by have := (h.tm hB).1; unfold FU; omega) q1' (CL.one lvl_1 q2) ⟨f1, f2, f3.mono (by omega), f4⟩
end JL
