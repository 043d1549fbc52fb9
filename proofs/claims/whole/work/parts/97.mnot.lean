/-! nots and a test; an expression: class and reference together -/
def PN (B : Nat → Nat) (n d j p : Nat) : Oc → Prop
  | .inl _ => True
  | .inr w => tS B n p + w.2.length ≤ tS B n w.1 + j ∧ 1 ≤ w.2.length ∧ Sem d w.2 ∧ ∀ x ∈ w.2, aOk x
section JN
variable {B : Nat → Nat} {n : Nat} {sg : Bool} {T0 : St} {a : Nat} {rx : Int32 → St → Option St}
theorem M_nots (hB : BM B n sg T0) {T : St} {p m : Nat} {L : List Nat} (hm : m ≤ 6) (h : MF B n sg T0 T p L) (hl : L.length + m ≤ 700) : ∃ T', BX10_readNot_94 rx (nI m) T = some T' ∧ MF B n sg T0 T' p (L ++ List.replicate m 30004) := by
  have key : ∀ k i T, m - i < k → i ≤ m → MF B n sg T0 T p (L ++ List.replicate i 30004) → ∃ T', LX10_readNot_96 rx k (nI m) (nI i) T = some T' ∧ MF B n sg T0 T' p (L ++ List.replicate m 30004) := by
    intro k
    induction k with
    | zero => intro i T h; omega
    | succ k ih =>
      intro i T hk hi hM
      by_cases c : m ≤ i
      · have e : i = m := by omega
        subst e
        refine ⟨T, ?_, hM⟩
        show KX10_readNot_96 rx (LX10_readNot_96 rx k) (nI i) (nI i) T = _
        unfold KX10_readNot_96
        rw [if_pos (nI_le (Nat.le_refl _) (by omega))]
      · obtain ⟨T1, e1, m1⟩ := hM.lay hB (x := 30004) (by rw [List.length_append, List.length_replicate]; omega)
        obtain ⟨T2, e2, m2⟩ := ih (i + 1) T1 (by omega) (by omega) (by rw [List.replicate_succ', ← List.append_assoc]; exact m1)
        refine ⟨T2, ?_, m2⟩
        show KX10_readNot_96 rx (LX10_readNot_96 rx k) (nI m) (nI i) T = _
        unfold KX10_readNot_96
        have e1' : fX10_lay (-28) T = some T1 := e1
        rw [if_neg (nI_ge (by omega) (by omega)), e1', bv_s, vl_s, nI_1, e2]
  obtain ⟨T', e, m'⟩ := key FU 0 T (by unfold FU; omega) (by omega) (by show MF B n sg T0 T p (L ++ []); rw [List.append_nil]; exact h)
  exact ⟨T', e, m'⟩
theorem J_notL (hB : BM B n sg T0) (ha : a < 6) (hS : JR B n sg T0 5 a (5 * (5 - a) + 3) (fX10_readSum rx (nI a))) : ∀ (k : Nat) (T : St) (p j : Nat) (L : List Nat), n + 2 ≤ k + tS B n p → j ≤ 6 → MF B n sg T0 T p L → L.length + j ≤ tS B n p → ∃ o, ok (LX10_readNot_2 rx k (nI a) (nI j) T) (MO B n sg T0 L o) ∧ CN B n sg a j p o ∧ PN B n (5 * (5 - a) + 4) j p o := by
  intro k
  induction k with
  | zero =>
    intro T p j L hk _ h _
    have := tS_le (B := B) h.2.1
    omega
  | succ k ih =>
    intro T p j L hk hj h hL
    have hT := h.tm hB
    have n7 := hT.1
    have hp := h.2.1
    have sn := tS_le (B := B) hp
    show ∃ o, ok (KX10_readNot_2 rx (LX10_readNot_2 rx k) (nI a) (nI j) T) (MO B n sg T0 L o) ∧ _
    unfold KX10_readNot_2
    rw [M_is hT h.1 hp (q := 7) (by decide), bd_s]
    cases hw : wd B n 7 p with
    | true =>
      have kp := tK_pos (B := B) (n := n) (p := p) (by have := wd_k hw; omega)
      have tg := tS_ge (B := B) (n := n) (p := tE B n p)
      rw [b2i_t, if_neg (by decide)]
      by_cases c6 : j = 6
      · subst c6
        have m := h.wr (c := 2) (by decide) (by decide)
        obtain ⟨k', rfl⟩ : ∃ k', k = k' + 1 := ⟨k - 1, by omega⟩
        refine ⟨.inl (2, p), ?_, CN.six ha hw, trivial⟩
        rw [if_pos (show nI 6 = (6 : Int32) from rfl), show (2 : Int32) = nI 2 from rfl, M_wrong h.1, bv_s]
        unfold BX10_readNot_23
        rw [vl_s, if_neg m.bad, nI_1, notL_bad m.bad (by decide)]
        exact ok_some m
      · obtain ⟨T1, e1, m1⟩ := h.next hB
        obtain ⟨o, q1, q2, q3⟩ := ih T1 (tE B n p) (j + 1) L (by omega) (by omega) m1 (by omega)
        refine ⟨o, ?_, CN.not ha (by omega) hw q2, ?_⟩
        · rw [if_neg (show ¬ nI j = (6 : Int32) from fun z => c6 ((nI_eq (b := 6) (by omega) (by decide)).mp z))]
          unfold BX10_readNot_23
          rw [vl_s, h.1.2.2.2.2.2.2, if_pos rfl, e1, bv_s, nI_1]
          exact q1
        · cases o with
          | inl e => trivial
          | inr w =>
            obtain ⟨f1, f2, f3, f4⟩ := q3
            exact ⟨by omega, f2, f3, f4⟩
    | false =>
      rw [b2i_f, if_pos rfl]
      obtain ⟨o1, ⟨T1, e1, q1⟩, q2, q3⟩ := hS T p L h (by omega)
      rw [e1, bv_s]
      cases o1 with
      | inl e =>
        have q1' : ME B n sg T0 T1 e.1 e.2 := q1
        refine ⟨.inl e, ?_, CN.bad hj hw q2, trivial⟩
        rw [M_isMarked_bad q1'.bad, bd_s, if_pos rfl, M_isMarked_bad q1'.bad, bd_s, if_pos rfl, nots_bad q1'.bad (by omega)]
        exact ok_some q1'
      | inr w =>
        obtain ⟨p1, X1⟩ := w
        have q1' : MF B n sg T0 T1 p1 (L ++ X1) := q1
        obtain ⟨f1, f2, f3, f4⟩ := q3
        have f1' : tS B n p + X1.length ≤ tS B n p1 := f1
        have f2' : 1 ≤ X1.length := f2
        have hT1 := q1'.tm hB
        have sn1 := tS_le (B := B) q1'.2.1
        have test : ∀ (o : Nat) (s : Int32), opA B n p1 = o → rk o = 4 → (o = 5 ∨ o = 6) → toM (30000 + o) = s → tK B n p1 ≠ 0 → ∃ o', ok (BX10_readNot_79 rx (nI a) (nI j) s T1) (MO B n sg T0 L o') ∧ CN B n sg a j p o' ∧ PN B n (5 * (5 - a) + 4) j p o' := by
          intro o s ho hr o56 hs hk0
          have kp := tK_pos hk0
          have tg := tS_ge (B := B) (n := n) (p := tE B n p1)
          obtain ⟨T2, e2, m2⟩ := q1'.next hB
          obtain ⟨o2, ⟨T3, e3, r1⟩, r2, r3⟩ := hS T2 (tE B n p1) (L ++ X1) m2 (by rw [List.length_append]; omega)
          have cl := CN.test ha hj hw q2 ho hr r2
          unfold BX10_readNot_79
          rw [e2, bv_s, e3, bv_s]
          cases o2 with
          | inl e =>
            have r1' : ME B n sg T0 T3 e.1 e.2 := r1
            refine ⟨.inl e, ?_, cl, trivial⟩
            rw [lay_bad r1'.bad, bv_s, nots_bad r1'.bad (by omega)]
            exact ok_some r1'
          | inr w =>
            obtain ⟨p3, X2⟩ := w
            have r1' : MF B n sg T0 T3 p3 (L ++ X1 ++ X2) := r1
            obtain ⟨g1, g2, g3, g4⟩ := r3
            have g1' : tS B n (tE B n p1) + X2.length ≤ tS B n p3 := g1
            have sn3 := tS_le (B := B) r1'.2.1
            obtain ⟨T4, e4, m4⟩ := r1'.lay hB (x := 30000 + o) (by rw [List.length_append, List.length_append]; omega)
            obtain ⟨T5, e5, m5⟩ := M_nots (rx := rx) hB hj m4 (by rw [List.length_append, List.length_append, List.length_append]; show L.length + X1.length + X2.length + 1 + j ≤ 700; omega)
            rw [← hs, e4, bv_s, e5]
            refine ⟨.inr (p3, X1 ++ X2 ++ [30000 + o] ++ List.replicate j 30004), ok_some ?_, cl, ?_, ?_, ?_, fun x hx => ?_⟩
            · show MF B n sg T0 T5 p3 (L ++ (X1 ++ X2 ++ [30000 + o] ++ List.replicate j 30004))
              rw [show L ++ (X1 ++ X2 ++ [30000 + o] ++ List.replicate j 30004) = L ++ X1 ++ X2 ++ [30000 + o] ++ List.replicate j 30004 by simp only [List.append_assoc]]
              exact m5
            · show tS B n p + (X1 ++ X2 ++ [30000 + o] ++ List.replicate j 30004).length ≤ tS B n p3 + j
              rw [List.length_append, List.length_append, List.length_append, List.length_replicate]
              show tS B n p + (X1.length + X2.length + 1 + j) ≤ tS B n p3 + j
              omega
            · show 1 ≤ (X1 ++ X2 ++ [30000 + o] ++ List.replicate j 30004).length
              rw [List.length_append, List.length_append, List.length_append, List.length_replicate]
              show 1 ≤ X1.length + X2.length + 1 + j
              omega
            · exact Sem.nots (Sem.bin f3 g3 (by omega) (by omega) (by omega)) (by omega) j
            · have hx' : x ∈ X1 ++ X2 ++ [30000 + o] ++ List.replicate j 30004 := hx
              rw [List.mem_append, List.mem_append, List.mem_append] at hx'
              rcases hx' with ((hx' | hx') | hx') | hx'
              · exact f4 x hx'
              · exact g4 x hx'
              · have : x = 30000 + o := by simpa using hx'
                rw [this]; exact Or.inr (Or.inr ⟨by omega, by omega⟩)
              · rw [(List.mem_replicate.mp hx').2]; exact Or.inr (Or.inr ⟨by omega, by omega⟩)
        rw [show fX10_isMarked 60 T1 = _ from M_isMarked (c := 60) hT1 q1'.1 q1'.2.1 (by omega), bd_s]
        by_cases c60 : tK B n p1 = 60
        · rw [decide_eq_true c60, b2i_t, if_neg (by decide)]
          unfold BX10_readNot_63
          rw [show fX10_isMarked 60 T1 = _ from M_isMarked (c := 60) hT1 q1'.1 q1'.2.1 (by omega), bd_s, decide_eq_true c60, b2i_t, if_neg (by decide)]
          exact test 5 _ (opA_k.2.2.2.2.1 c60) (by decide) (by decide) (by decide) (by omega)
        · rw [decide_eq_false c60, b2i_f, if_pos rfl, show fX10_isMarked 61 T1 = _ from M_isMarked (c := 61) hT1 q1'.1 q1'.2.1 (by omega), bd_s]
          by_cases c61 : tK B n p1 = 61
          · rw [decide_eq_true c61, b2i_t, if_neg (by decide)]
            unfold BX10_readNot_63
            rw [show fX10_isMarked 60 T1 = _ from M_isMarked (c := 60) hT1 q1'.1 q1'.2.1 (by omega), bd_s, decide_eq_false c60, b2i_f, if_pos rfl]
            exact test 6 _ (opA_k.2.2.2.2.2.1 c61) (by decide) (by decide) (by decide) (by omega)
          · rw [decide_eq_false c61, b2i_f, if_pos rfl]
            have nr : rk (opA B n p1) ≠ 4 := fun z => by
              have := opA_k.2.2.2.2.2.2.2.2.1 z
              omega
            obtain ⟨T5, e5, m5⟩ := M_nots (rx := rx) hB hj q1' (by rw [List.length_append]; omega)
            rw [e5]
            refine ⟨.inr (p1, X1 ++ List.replicate j 30004), ok_some ?_, CN.sum hj hw q2 nr, ?_, ?_, ?_, fun x hx => ?_⟩
            · show MF B n sg T0 T5 p1 (L ++ (X1 ++ List.replicate j 30004))
              rw [← List.append_assoc]; exact m5
            · show tS B n p + (X1 ++ List.replicate j 30004).length ≤ tS B n p1 + j
              rw [List.length_append, List.length_replicate]; omega
            · show 1 ≤ (X1 ++ List.replicate j 30004).length
              rw [List.length_append, List.length_replicate]; omega
            · exact Sem.nots (f3.mono (by omega)) (by omega) j
            · have hx' : x ∈ X1 ++ List.replicate j 30004 := hx
              rw [List.mem_append] at hx'
              rcases hx' with hx' | hx'
              · exact f4 x hx'
              · rw [(List.mem_replicate.mp hx').2]; exact Or.inr (Or.inr ⟨by omega, by omega⟩)
theorem J_not (hB : BM B n sg T0) (ha : a < 6) (hS : JR B n sg T0 5 a (5 * (5 - a) + 3) (fX10_readSum rx (nI a))) : JR B n sg T0 3 a (5 * (5 - a) + 4) (fX10_readNot rx (nI a)) := by
  intro T p L h hL
  obtain ⟨o, q1, q2, q3⟩ := J_notL hB ha hS FU T p 0 L (by have := (h.tm hB).1; unfold FU; omega) (by decide) h (by omega)
  refine ⟨o, q1, CN.zero q2, ?_⟩
  cases o with
  | inl e => trivial
  | inr w => exact q3
end JN
theorem J_expr {B : Nat → Nat} {n : Nat} {sg : Bool} {T0 : St} (hB : BM B n sg T0) : ∀ (m a : Nat), a ≤ 6 → 7 ≤ m + a → ∀ d, 5 * (5 - a) + 6 ≤ d ∨ a = 6 → JR B n sg T0 1 a d (fX10_readExpression m (nI a)) := by
  intro m
  induction m with
  | zero => intro a h1 h2; omega
  | succ m ih =>
    intro a h6 h7 d hd T p L h hL
    have hT := h.tm hB
    have hp := h.2.1
    have k61 := tK_le (B := B) (n := n) (p := p) hT.B
    have mne : ∀ c, c < 4 → c ≠ 3 → c ≠ 0 → tK B n p ≠ c → ¬ nI (mkT (tK B n p)) = nI c := fun c h1 h2 h3 h4 => by
      have : mkT (tK B n p) ≠ c ∧ mkT (tK B n p) ≤ 61 := by
        unfold mkT
        split
        · omega
        · split <;> omega
      rw [nI_eq (by omega) (by omega)]; exact this.1
    have may : (tK B n p = 2 ∨ tK B n p = 1 ∨ tK B n p = 40) → ∃ o, ok (BX10_readExpression_38 (fX10_readExpression m) (nI a) 1 T) (MO B n sg T0 L o) ∧ CL B n sg 1 1 a p o ∧ PG B n d p o := by
      intro hm
      unfold BX10_readExpression_38
      rw [if_neg (by decide)]
      by_cases c6 : a = 6
      · have m2 := h.wr (c := 2) (by decide) (by decide)
        refine ⟨.inl (2, p), ?_, CL.err h6 (fun nm nots _ => Or.inr (Or.inl ⟨hm, Or.inl (by omega), rfl⟩)), trivial⟩
        rw [if_pos (by rw [c6]; rfl), show (2 : Int32) = nI 2 from rfl, M_wrong h.1, bv_s, e62_bad m2.bad]
        exact ok_some m2
      · have ha : a < 6 := by omega
        rw [if_neg (show ¬ nI a = (6 : Int32) from fun z => c6 ((nI_eq (b := 6) (by omega) (by decide)).mp z))]
        have hrb : ∀ (x : Int32) (T : St), ¬ T 142 24 = 0 → fX10_readExpression m x T = some T := by
          intro x T hb
          obtain ⟨m', rfl⟩ : ∃ m', m = m' + 1 := ⟨m - 1, by omega⟩
          exact expr_bad hb
        have hrx := ih (a + 1) (by omega) (by omega) (5 * (5 - a) + 1) (by omega)
        have j1 := J_part hB ha hrb hrx
        have j2 := J_prod hB ha j1
        have j3 := J_sum hB ha j2
        have j4 := J_not hB ha j3
        have j5 := J_and hB ha j4
        have j6 := J_or hB ha j5
        obtain ⟨o, q1, q2, q3⟩ := j6 T p L h hL
        refine ⟨o, q1, q2, ?_⟩
        cases o with
        | inl e => trivial
        | inr w =>
          obtain ⟨f1, f2, f3, f4⟩ := q3
          exact ⟨f1, f2, f3.mono (by omega), f4⟩
    show ∃ o, ok (fX10_readExpression_b (fX10_readExpression m) (nI a) T) (MO B n sg T0 L o) ∧ _
    unfold fX10_readExpression_b BX10_readExpression_33
    rw [h.1.2.2.2.2.2.2, if_pos rfl, h.1.2.2.1]
    by_cases c2 : tK B n p = 2
    · rw [if_pos (by rw [mkT_e.2.2.1 c2]; rfl)]; exact may (Or.inl c2)
    · rw [if_neg (show ¬ _ = (2 : Int32) from mne 2 (by decide) (by decide) (by decide) c2)]
      by_cases c1 : tK B n p = 1
      · rw [if_pos (by rw [mkT_e.2.1 c1]; rfl)]; exact may (Or.inr (Or.inl c1))
      · rw [if_neg (show ¬ _ = (1 : Int32) from mne 1 (by decide) (by decide) (by decide) c1), show fX10_isMarked 40 T = _ from M_isMarked (c := 40) hT h.1 hp (by omega), bd_s]
        by_cases c40 : tK B n p = 40
        · rw [decide_eq_true c40, b2i_t, if_neg (by decide)]; exact may (Or.inr (Or.inr c40))
        · rw [decide_eq_false c40, b2i_f, if_pos rfl]
          have m1 := h.wr (c := 1) (by decide) (by decide)
          refine ⟨.inl (1, p), ?_, CL.err h6 (fun nm nots _ => Or.inl ⟨by omega, rfl⟩), trivial⟩
          unfold BX10_readExpression_38
          rw [if_pos rfl, show (1 : Int32) = nI 1 from rfl, M_wrong h.1, bv_s, e62_bad m1.bad]
          exact ok_some m1
