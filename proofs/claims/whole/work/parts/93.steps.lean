/-! the class reads a token: what it does -/
def vix (B : Nat → Nat) (n q0 q1 q2 q3 p : Nat) : Option Nat := if wd B n q0 p then some 0 else if wd B n q1 p then some 1 else if wd B n q2 p then some 2 else if wd B n q3 p then some 3 else if wd B n 8 p then some 4 else none
def vx (B : Nat → Nat) (n : Nat) (sg : Bool) (p : Nat) : Option Nat := if sg then vix B n 9 3 1 13 p else vix B n 10 11 12 14 p
def vxI : Option Nat → Int32
  | none => -1
  | some j => opI (20 + j)
theorem vix_lt {B : Nat → Nat} {n q0 q1 q2 q3 p j : Nat} (h : vix B n q0 q1 q2 q3 p = some j) : j < 5 := by
  unfold vix at h
  repeat' split at h
  all_goals first | (cases h; decide) | cases h
theorem vxj_lt {B : Nat → Nat} {n p j : Nat} {sg : Bool} (h : vx B n sg p = some j) : j < 5 := by
  unfold vx at h
  split at h
  · exact vix_lt h
  · exact vix_lt h
theorem wsN_d : wsN 8 ≠ wsN 9 ∧ wsN 8 ≠ wsN 3 ∧ wsN 8 ≠ wsN 1 ∧ wsN 8 ≠ wsN 13 ∧ wsN 8 ≠ wsN 10 ∧ wsN 8 ≠ wsN 11 ∧ wsN 8 ≠ wsN 12 ∧ wsN 8 ≠ wsN 14 := by decide +kernel
section ST
variable {B : Nat → Nat} {n p : Nat} {S : St}
theorem C_value (hT : TC B n S) (hC : CT B n S p) (hp : p ≤ n) (sg : Bool) : fX2_valueHere (b2i sg) S = some (vxI (vx B n sg p), S) := by
  have D := wsN_d
  unfold fX2_valueHere
  rw [C_is hT hC hp (q := 8) (by decide), bd_s]
  cases sg with
  | true =>
    cases h8 : wd B n 8 p with
    | true =>
      rw [b2i_t, if_neg (by decide)]
      have : vx B n true p = some 4 := by
        show vix B n 9 3 1 13 p = some 4
        unfold vix
        rw [wd_x h8 D.1, wd_x h8 D.2.1, wd_x h8 D.2.2.1, wd_x h8 D.2.2.2.1, h8]; rfl
      rw [this]; rfl
    | false =>
      rw [b2i_f, if_pos rfl, b2i_t, if_neg (by decide)]
      have e : vx B n true p = if wd B n 9 p then some 0 else if wd B n 3 p then some 1 else if wd B n 1 p then some 2 else if wd B n 13 p then some 3 else none := by
        show vix B n 9 3 1 13 p = _
        unfold vix
        rw [h8]; rfl
      rw [e]
      unfold BX2_valueHere_30
      rw [C_is hT hC hp (q := 9) (by decide), bd_s]
      cases wd B n 9 p with
      | true => rfl
      | false =>
        rw [b2i_f, if_pos rfl, if_neg (by decide)]
        unfold BX2_valueHere_54
        rw [C_is hT hC hp (q := 3) (by decide), bd_s]
        cases wd B n 3 p with
        | true => rfl
        | false =>
          rw [b2i_f, if_pos rfl, if_neg (by decide)]
          unfold BX2_valueHere_78
          rw [C_is hT hC hp (q := 1) (by decide), bd_s]
          cases wd B n 1 p with
          | true => rfl
          | false =>
            rw [b2i_f, if_pos rfl, if_neg (by decide)]
            unfold BX2_valueHere_102
            rw [C_is hT hC hp (q := 13) (by decide), bd_s]
            cases wd B n 13 p with
            | true => rfl
            | false => rfl
  | false =>
    cases h8 : wd B n 8 p with
    | true =>
      rw [b2i_t, if_neg (by decide)]
      have : vx B n false p = some 4 := by
        show vix B n 10 11 12 14 p = some 4
        unfold vix
        rw [wd_x h8 D.2.2.2.2.1, wd_x h8 D.2.2.2.2.2.1, wd_x h8 D.2.2.2.2.2.2.1, wd_x h8 D.2.2.2.2.2.2.2, h8]; rfl
      rw [this]; rfl
    | false =>
      rw [b2i_f, if_pos rfl, if_pos rfl]
      have e : vx B n false p = if wd B n 10 p then some 0 else if wd B n 11 p then some 1 else if wd B n 12 p then some 2 else if wd B n 14 p then some 3 else none := by
        show vix B n 10 11 12 14 p = _
        unfold vix
        rw [h8]; rfl
      rw [e]
      unfold BX2_valueHere_30
      rw [C_is hT hC hp (q := 10) (by decide), bd_s]
      cases wd B n 10 p with
      | true => rfl
      | false =>
        rw [b2i_f, if_pos rfl, if_pos rfl]
        unfold BX2_valueHere_54
        rw [C_is hT hC hp (q := 11) (by decide), bd_s]
        cases wd B n 11 p with
        | true => rfl
        | false =>
          rw [b2i_f, if_pos rfl, if_pos rfl]
          unfold BX2_valueHere_78
          rw [C_is hT hC hp (q := 12) (by decide), bd_s]
          cases wd B n 12 p with
          | true => rfl
          | false =>
            rw [b2i_f, if_pos rfl, if_pos rfl]
            unfold BX2_valueHere_102
            rw [C_is hT hC hp (q := 14) (by decide), bd_s]
            cases wd B n 14 p with
            | true => rfl
            | false => rfl
def opA (B : Nat → Nat) (n p : Nat) : Nat := if tK B n p = 1 then (if wd B n 15 p then 2 else if wd B n 16 p then 3 else 1) else if tK B n p = 42 then 9 else if tK B n p = 43 then 7 else if tK B n p = 45 then 8 else if tK B n p = 47 then 10 else if tK B n p = 60 then 5 else if tK B n p = 61 then 6 else 1
theorem opA_b : opA B n p = 1 ∨ (2 ≤ opA B n p ∧ opA B n p ≤ 10 ∧ opA B n p ≠ 4) := by
  unfold opA
  repeat' split
  all_goals omega
theorem C_op (hT : TC B n S) (hC : CT B n S p) (hp : p ≤ n) : fX2_operatorHere S = some (opI (opA B n p), S) := by
  have k61 := tK_le (B := B) (n := n) (p := p) hT.B
  have ne : ∀ c, c < 100 → tK B n p ≠ c → ¬ nI (tK B n p) = nI c := fun c hc h => by rw [nI_eq (by omega) (by omega)]; exact h
  unfold fX2_operatorHere opA
  rw [hC.2.2.1]
  by_cases c1 : tK B n p = 1
  · rw [if_pos (by rw [c1]; rfl), if_pos c1, C_is hT hC hp (q := 15) (by decide), bd_s]
    cases wd B n 15 p with
    | true => rfl
    | false =>
      rw [b2i_f, if_pos rfl, C_is hT hC hp (q := 16) (by decide), bd_s]
      cases wd B n 16 p with
      | true => rfl
      | false => rfl
  · rw [if_neg (show ¬ nI (tK B n p) = (1 : Int32) from ne 1 (by decide) c1), if_neg c1]
    by_cases c2 : tK B n p = 42
    · rw [if_pos (by rw [c2]; rfl), if_pos c2]; rfl
    · rw [if_neg (show ¬ nI (tK B n p) = (42 : Int32) from ne 42 (by decide) c2), if_neg c2]
      by_cases c3 : tK B n p = 43
      · rw [if_pos (by rw [c3]; rfl), if_pos c3]; rfl
      · rw [if_neg (show ¬ nI (tK B n p) = (43 : Int32) from ne 43 (by decide) c3), if_neg c3]
        by_cases c4 : tK B n p = 45
        · rw [if_pos (by rw [c4]; rfl), if_pos c4]; rfl
        · rw [if_neg (show ¬ nI (tK B n p) = (45 : Int32) from ne 45 (by decide) c4), if_neg c4]
          by_cases c5 : tK B n p = 47
          · rw [if_pos (by rw [c5]; rfl), if_pos c5]; rfl
          · rw [if_neg (show ¬ nI (tK B n p) = (47 : Int32) from ne 47 (by decide) c5), if_neg c5]
            by_cases c6 : tK B n p = 60
            · rw [if_pos (by rw [c6]; rfl), if_pos c6]; rfl
            · rw [if_neg (show ¬ nI (tK B n p) = (60 : Int32) from ne 60 (by decide) c6), if_neg c6]
              by_cases c7 : tK B n p = 61
              · rw [if_pos (by rw [c7]; rfl), if_pos c7]; rfl
              · rw [if_neg (show ¬ nI (tK B n p) = (61 : Int32) from ne 61 (by decide) c7), if_neg c7]; rfl
end ST
/-- the read ended with a fault at the token from p -/
def CX (B : Nat → Nat) (n rid cd f : Nat) (S0 S : St) (p : Nat) : Prop := S 33 4 = nI (tS B n p) ∧ (∀ a, a ≠ 33 → a ≠ 34 → a ≠ 35 → a ≠ rid → a ≠ cd → S a = S0 a) ∧ ∀ j, j < f → S cd j = S0 cd j
/-- it ended well -/
def CZ (B : Nat → Nat) (n rid cd f : Nat) (S0 S : St) (A : List Nat) (p : Nat) : Prop := S rid 0 = 1 ∧ CT B n S p ∧ S rid 3 = nI (f + (cC A).length) ∧ Ou S cd f (cC A) ∧ (∀ a, a ≠ 33 → a ≠ 34 → a ≠ 35 → a ≠ rid → a ≠ cd → S a = S0 a) ∧ (∀ j, j ≠ 3 → j ≠ 0 → S rid j = S0 rid j) ∧ ∀ j, j < f → S cd j = S0 cd j
section SP
variable {B : Nat → Nat} {n rid cd f : Nat} {S0 S : St} {nm : Bool} {nots a p i : Nat} {stk A : List Nat} {sg : Bool}
theorem CF.T (hI : RuI rid cd) (hT : TC B n S0) {due : Bool} (h : CF B n rid cd f S0 S due nm nots a stk A p) : TC B n S := by
  have nn := hI.n
  exact hT.go (h.1.2.2.2.2.2.2.2.2.1 1 (by decide) (by decide) (by decide) (by omega) (by omega))
theorem CF.i7 (hT : TC B n S0) {due : Bool} (h : CF B n rid cd f S0 S due nm nots a stk A p) : tS B n p ≤ 700 := Nat.le_trans (tS_le h.2.2.1) hT.1
theorem CX.of (hI : RuI rid cd) {due : Bool} {S1 : St} {stk' A' : List Nat} {nots' : Nat} (h : CG rid cd f S0 S1 due nm nots' a stk' A') (hC : CT B n S p) (h33 : S1 33 = S 33) : CX B n rid cd f S0 (up S1 rid 0 0) p := by
  have nn := hI.n
  obtain ⟨h1, h2, h3, h4, h5, h6, h7, h8, h9, h10, h11⟩ := h
  exact ⟨by rw [up_ne (by omega), h33]; exact hC.2.2.2.1, fun b q1 q2 q3 q4 q5 => by rw [up_ne q4]; exact h9 b q1 q2 q3 q4 q5, fun j hj => by rw [up_ne (fun z => nn.1 z.symm)]; exact h11 j hj⟩
theorem B80 {c : Nat} (c1 : 1 ≤ c) (c5 : c ≤ 5) : BX2_read_80 rid (nI c) S = some (nI c, up S rid 0 0) := by
  unfold BX2_read_80 BX2_read_92
  rw [if_neg (nI_ne_m1 (by omega)), pz_0, if_neg (nI_ne_m1 (by omega))]; rfl
theorem C_rp (hI : RuI rid cd) (hT : TC B n S0) (h : CF B n rid cd f S0 S true nm nots a stk A p) (ha : a ≤ 6) : fX2_readPart rid (b2i sg) S = if tK B n p = 2 ∨ tK B n p = 1 ∨ tK B n p = 40 then (if 6 ≤ a ∨ tL B n p = true then some (2, S) else if tK B n p = 40 then bv (fX2_hold 0 S) fun S => pf S 34 3 ((S 34 3) + 1) fun S => bv (fX2_expectPart 1 S) fun S => ri 0 S else if nm = true ∧ wd B n 7 p = true then bd (fX2_readNot S) fun x10 S => ri x10 S else if tK B n p = 2 then BX2_readPart_119 rid (S 33 5) S else BX2_readPart_119 rid (vxI (vx B n sg p)) S) else some (1, S) := by
  have hT1 := h.T hI hT
  have k61 := tK_le (B := B) (n := n) (p := p) hT1.B
  have ne : ∀ c, c < 100 → tK B n p ≠ c → ¬ nI (tK B n p) = nI c := fun c hc q => by rw [nI_eq (by omega) (by omega)]; exact q
  have hC := h.2.1
  have hp := h.2.2.1
  have core : tK B n p = 2 ∨ tK B n p = 1 ∨ tK B n p = 40 → BX2_readPart_26 rid (b2i sg) (nI (tK B n p)) S = (if 6 ≤ a ∨ tL B n p = true then some (2, S) else if tK B n p = 40 then bv (fX2_hold 0 S) fun S => pf S 34 3 ((S 34 3) + 1) fun S => bv (fX2_expectPart 1 S) fun S => ri 0 S else if nm = true ∧ wd B n 7 p = true then bd (fX2_readNot S) fun x10 S => ri x10 S else if tK B n p = 2 then BX2_readPart_119 rid (S 33 5) S else BX2_readPart_119 rid (vxI (vx B n sg p)) S) := by
    intro hk
    have e99 : BX2_readPart_99 rid (b2i sg) (nI (tK B n p)) S = if tK B n p = 2 then BX2_readPart_119 rid (S 33 5) S else BX2_readPart_119 rid (vxI (vx B n sg p)) S := by
      unfold BX2_readPart_99
      by_cases c2 : tK B n p = 2
      · rw [if_pos (by rw [c2]; rfl), if_pos c2]
      · rw [if_neg (show ¬ nI (tK B n p) = (2 : Int32) from ne 2 (by decide) c2), if_neg c2, C_value hT1 hC hp, bd_s]
    unfold BX2_readPart_26
    rw [h.1.2.2.1]
    by_cases c6 : 6 ≤ a
    · rw [if_pos (show (6 : Int32) ≤ _ from nI_le (a := 6) c6 (by omega)), if_pos (Or.inl c6)]; rfl
    · rw [if_neg (show ¬ (6 : Int32) ≤ _ from nI_ge (b := 6) (by omega) (by decide)), C_tooLong hT1 hC hp, bd_s]
      cases hL : tL B n p with
      | true => rw [b2i_t, if_neg (by decide), if_pos (Or.inr rfl)]; rfl
      | false =>
        rw [b2i_f, if_pos rfl, if_neg (show ¬ (6 ≤ a ∨ false = true) by rintro (z | z); exact c6 z; cases z)]
        by_cases c40 : tK B n p = 40
        · rw [if_pos (by rw [c40]; rfl), if_pos c40]
        · rw [if_neg (show ¬ nI (tK B n p) = (40 : Int32) from ne 40 (by decide) c40), if_neg c40, h.1.2.2.2.2.2.1]
          cases nm with
          | false => rw [b2i_f, if_pos rfl, if_neg (fun z => Bool.noConfusion z.1), e99]
          | true =>
            rw [b2i_t, if_neg (by decide), C_is hT1 hC hp (q := 7) (by decide), bd_s]
            cases h7 : wd B n 7 p with
            | true => rw [b2i_t, if_neg (by decide), if_pos ⟨rfl, rfl⟩]
            | false => rw [b2i_f, if_pos rfl, if_neg (fun z => Bool.noConfusion z.2), e99]
  unfold fX2_readPart
  rw [vl_s, hC.2.2.1]
  by_cases c2 : tK B n p = 2
  · rw [if_pos (by rw [c2]; rfl), if_pos (Or.inl c2)]; exact core (Or.inl c2)
  · rw [if_neg (show ¬ nI (tK B n p) = (2 : Int32) from ne 2 (by decide) c2)]
    by_cases c1 : tK B n p = 1
    · rw [if_pos (by rw [c1]; rfl), if_pos (Or.inr (Or.inl c1))]; exact core (Or.inr (Or.inl c1))
    · rw [if_neg (show ¬ nI (tK B n p) = (1 : Int32) from ne 1 (by decide) c1)]
      by_cases c40 : tK B n p = 40
      · rw [if_pos (by rw [c40]; rfl), if_pos (Or.inr (Or.inr c40))]; exact core (Or.inr (Or.inr c40))
      · rw [if_neg (show ¬ nI (tK B n p) = (40 : Int32) from ne 40 (by decide) c40), if_neg (by omega)]; rfl
theorem due1 (h : CF B n rid cd f S0 S true nm nots a stk A p) : ¬ S 34 5 = 0 := by rw [h.1.2.2.2.2.1]; decide
theorem due0 (h : CF B n rid cd f S0 S false nm nots a stk A p) : S 34 5 = 0 := by rw [h.1.2.2.2.2.1]; rfl
/-- a number, a value -/
theorem C_atom (hI : RuI rid cd) (hT : TC B n S0) (h : CF B n rid cd f S0 S true nm nots a stk A p) (ha : a < 6) (hn : nm = false ∨ wd B n 7 p = false) {x : Nat} (hx : (tK B n p = 2 ∧ tL B n p = false ∧ x = tN B n p) ∨ (tK B n p = 1 ∧ ∃ j, vx B n sg p = some j ∧ x = 20000 + j)) (hi : i ≤ tS B n p) : ∃ S2, (∀ k, LX2_read_26 (k + 1) rid (b2i sg) 0 (nI i) S = LX2_read_26 k rid (b2i sg) 0 (nI (i + 1)) S2) ∧ CF B n rid cd f S0 S2 false nm nots a stk (A ++ [x]) (tE B n p) ∧ aOk x ∧ i + 1 ≤ tS B n (tE B n p) := by
  have hp := h.2.2.1
  have hT1 := h.T hI hT
  have i7 := h.i7 hT
  have hb := h.2.2.2
  have hk0 : tK B n p ≠ 0 := by rcases hx with hx | hx <;> omega
  have kp := tK_pos hk0
  have hn7 := tS_le (B := B) hp
  have n7 := hT.1
  have nL : ¬ (6 ≤ a ∨ tL B n p = true) := by
    rintro (z | z)
    · omega
    · rcases hx with hx | hx
      · rw [hx.2.1] at z; cases z
      · unfold tL at z; rw [decide_eq_false (by omega)] at z; cases z
  have n7' : ¬ (nm = true ∧ wd B n 7 p = true) := by
    rintro ⟨z1, z2⟩
    rcases hn with q | q
    · rw [q] at z1; cases z1
    · rw [q] at z2; cases z2
  have aok : aOk x := by
    rcases hx with ⟨h2, hL, rfl⟩ | ⟨h1, j, hj, rfl⟩
    · refine Or.inl (tN_lt hp hT.B h2 ?_)
      unfold tL at hL
      rw [decide_eq_true h2, Bool.true_and] at hL
      have := of_decide_eq_false hL
      omega
    · exact Or.inr (Or.inl ⟨by omega, by have := vxj_lt hj; omega⟩)
  obtain ⟨S1, e1, g1, t1⟩ := h.1.add hI aok (by omega)
  have e : fX2_readPart rid (b2i sg) S = some (0, up S1 34 5 0) := by
    rw [C_rp hI hT h (by omega), if_pos (by rcases hx with hx | hx <;> omega), if_neg nL, if_neg (by rcases hx with hx | hx <;> omega), if_neg n7']
    have fin : BX2_readPart_119 rid (aI x) S = some (0, up S1 34 5 0) := by
      unfold BX2_readPart_119
      have : ¬ aI x = -1 := by
        rcases hx with ⟨h2, hL, rfl⟩ | ⟨h1, j, hj, rfl⟩
        · have : tN B n p ≤ 9999 := by unfold aOk at aok; rcases aok with q | q | q
                                       · exact q
                                       · have := tN_lt hp hT.B h2 (by unfold tL at hL; rw [decide_eq_true h2, Bool.true_and] at hL; have := of_decide_eq_false hL; omega); omega
                                       · have := tN_lt hp hT.B h2 (by unfold tL at hL; rw [decide_eq_true h2, Bool.true_and] at hL; have := of_decide_eq_false hL; omega); omega
          unfold aI; rw [if_pos (by omega)]; exact nI_ne_m1 (by omega)
        · have := vxj_lt hj
          unfold aI; rw [if_neg (by omega), if_pos (by omega), show 20000 + j - 19980 = 20 + j by omega]
          exact (opI_v j this).2.1
      rw [if_neg this, e1, bv_s, pz_0]; rfl
    rcases hx with ⟨h2, hL, rfl⟩ | ⟨h1, j, hj, rfl⟩
    · have l4 : tE B n p - tS B n p ≤ 4 := by
        unfold tL at hL; rw [decide_eq_true h2, Bool.true_and] at hL; have := of_decide_eq_false hL; omega
      have := tN_lt hp hT.B h2 l4
      rw [if_pos h2, h.2.1.2.2.2.2 h2 l4]
      rw [show aI (tN B n p) = nI (tN B n p) by unfold aI; rw [if_pos (by omega)]] at fin
      exact fin
    · have := vxj_lt hj
      rw [if_neg (by omega), hj]
      rw [show aI (20000 + j) = opI (20 + j) by unfold aI; rw [if_neg (by omega), if_pos (by omega), show 20000 + j - 19980 = 20 + j by omega]] at fin
      exact fin
  have g2 : CG rid cd f S0 (up S1 34 5 0) false nm nots a stk (A ++ [x]) := by
    refine g1.set hI (fun b hb => up_ne hb) (up_off (by decide)) ?_ ?_ ?_ ?_
    · rw [up_off (by decide)]; exact g1.2.2.1
    · rw [up_off (by decide)]; exact g1.2.2.2.1
    · rw [up_at]; rfl
    · rw [up_off (by decide)]; exact g1.2.2.2.2.2.1
  have hl1 : (cC (A ++ [x])).length = (cC A).length + 1 := by
    rw [cC_snoc, List.length_append, toC_1]
    · rfl
    · rcases hx with ⟨h2, hL, rfl⟩ | ⟨h1, j, hj, rfl⟩
      · rcases aok with q | q | q
        · omega
        · omega
        · have := tN_lt hp hT.B h2 (by unfold tL at hL; rw [decide_eq_true h2, Bool.true_and] at hL; have := of_decide_eq_false hL; omega); omega
      · have := vxj_lt hj; omega
  obtain ⟨S2, e2, c2⟩ := g2.adv hI hT (p := p) (h.2.1.go (by rw [up_ne (by decide)]; exact t1)) hp (by omega)
  exact ⟨S2, fun k => C_turn (by omega) (Or.inr ⟨due1 h, e⟩) e2, c2, aok, by have := tS_ge (B := B) (n := n) (p := tE B n p); omega⟩
theorem C_open (hI : RuI rid cd) (hT : TC B n S0) (h : CF B n rid cd f S0 S true nm nots a stk A p) (ha : a < 6) (hl : stk.length < 96) (hk : tK B n p = 40) (hi : i ≤ tS B n p) : ∃ S2, (∀ k, LX2_read_26 (k + 1) rid (b2i sg) 0 (nI i) S = LX2_read_26 k rid (b2i sg) 0 (nI (i + 1)) S2) ∧ CF B n rid cd f S0 S2 true true 0 (a + 1) (0 :: stk) A (tE B n p) ∧ i + 1 ≤ tS B n (tE B n p) := by
  have hp := h.2.2.1
  have i7 := h.i7 hT
  have hb := h.2.2.2
  have kp := tK_pos (B := B) (n := n) (p := p) (by omega)
  obtain ⟨S1, e1, g1, t1⟩ := h.1.hold hI hl (o := 0) (by decide)
  have g2 : CG rid cd f S0 (up S1 34 3 (nI (a + 1))) true nm nots (a + 1) (0 :: stk) A := by
    refine g1.set hI (fun b hb => up_ne hb) (up_off (by decide)) up_at ?_ ?_ ?_
    · rw [up_off (by decide)]; exact g1.2.2.2.1
    · rw [up_off (by decide)]; exact g1.2.2.2.2.1
    · rw [up_off (by decide)]; exact g1.2.2.2.2.2.1
  obtain ⟨S3, e3, g3, t3⟩ := g2.expect hI true
  have e : fX2_readPart rid (b2i sg) S = some (0, S3) := by
    have e1' : fX2_hold 0 S = some S1 := e1
    have e3' : fX2_expectPart 1 (up S1 34 3 (nI (a + 1))) = some S3 := e3
    rw [C_rp hI hT h (by omega), if_pos (by omega), if_neg (by rintro (z | z); omega; unfold tL at z; rw [decide_eq_false (by omega)] at z; cases z), if_pos hk, e1', bv_s, pf_s, g1.2.2.1, nI_1, e3', bv_s]; rfl
  have hc0 : cost (0 :: stk) = cost stk := by show cost1 0 + cost stk = _; rw [show cost1 0 = 0 from rfl]; omega
  obtain ⟨S2, e2, c2⟩ := g3.adv hI hT (p := p) (h.2.1.go (by rw [t3, up_ne (by decide)]; exact t1)) hp (by omega)
  exact ⟨S2, fun k => C_turn (by omega) (Or.inr ⟨due1 h, e⟩) e2, c2, by have := tS_ge (B := B) (n := n) (p := tE B n p); omega⟩
theorem wd_len {q : Nat} (h : wd B n q p = true) : tE B n p - tS B n p = (wsN q).length := by
  unfold wd at h
  rw [Bool.and_eq_true, decide_eq_true_eq, decide_eq_true_eq] at h
  have := congrArg List.length h.2
  unfold tW at this
  rw [List.length_map, List.length_range] at this
  exact this
theorem C_not (hI : RuI rid cd) (hT : TC B n S0) (h : CF B n rid cd f S0 S true true nots a stk A p) (ha : a < 6) (hl : stk.length < 96) (hk : wd B n 7 p = true) (hn6 : nots < 6) (hi : i ≤ tS B n p) : ∃ S2, (∀ k, LX2_read_26 (k + 1) rid (b2i sg) 0 (nI i) S = LX2_read_26 k rid (b2i sg) 0 (nI (i + 1)) S2) ∧ CF B n rid cd f S0 S2 true true (nots + 1) a (4 :: stk) A (tE B n p) ∧ i + 1 ≤ tS B n (tE B n p) := by
  have hp := h.2.2.1
  have i7 := h.i7 hT
  have hb := h.2.2.2
  have hk1 := wd_k hk
  have kp := tK_pos (B := B) (n := n) (p := p) (by omega)
  have l3 : tE B n p - tS B n p = 3 := wd_len hk
  have g0 : CG rid cd f S0 (up S 34 4 (nI (nots + 1))) true true (nots + 1) a stk A := by
    refine h.1.set hI (fun b hb => up_ne hb) (up_off (by decide)) ?_ up_at ?_ ?_
    · rw [up_off (by decide)]; exact h.1.2.2.1
    · rw [up_off (by decide)]; exact h.1.2.2.2.2.1
    · rw [up_off (by decide)]; exact h.1.2.2.2.2.2.1
  obtain ⟨S1, e1, g1, t1⟩ := g0.hold hI hl (o := 4) (by decide)
  have e : fX2_readPart rid (b2i sg) S = some (0, S1) := by
    have e1' : fX2_hold (-4) (up S 34 4 (nI (nots + 1))) = some S1 := e1
    rw [C_rp hI hT h (by omega), if_pos (by omega), if_neg (by rintro (z | z); omega; unfold tL at z; rw [decide_eq_false (by omega)] at z; cases z), if_neg (by omega), if_pos ⟨rfl, hk⟩]
    unfold fX2_readNot
    rw [h.1.2.2.2.1, if_pos (show _ < (6 : Int32) from nI_lt (b := 6) hn6 (by decide)), pf_s, nI_1, e1', bv_s]; rfl
  have hc4 : cost (4 :: stk) = 2 + cost stk := rfl
  obtain ⟨S2, e2, c2⟩ := g1.adv hI hT (p := p) (h.2.1.go (by rw [t1, up_ne (by decide)])) hp (by omega)
  exact ⟨S2, fun k => C_turn (by omega) (Or.inr ⟨due1 h, e⟩) e2, c2, by have := tS_ge (B := B) (n := n) (p := tE B n p); omega⟩
/-- a part that isn't: what fault -/
def pErr (B : Nat → Nat) (n : Nat) (sg nm : Bool) (nots a p c : Nat) : Prop := (¬ (tK B n p = 2 ∨ tK B n p = 1 ∨ tK B n p = 40) ∧ c = 1) ∨ ((tK B n p = 2 ∨ tK B n p = 1 ∨ tK B n p = 40) ∧ (6 ≤ a ∨ tL B n p = true) ∧ c = 2) ∨ (nm = true ∧ wd B n 7 p = true ∧ a < 6 ∧ 6 ≤ nots ∧ nots < 100 ∧ c = 2) ∨ (tK B n p = 1 ∧ a < 6 ∧ (nm = false ∨ wd B n 7 p = false) ∧ vx B n sg p = none ∧ c = 3)
theorem C_perr (hI : RuI rid cd) (hT : TC B n S0) (h : CF B n rid cd f S0 S true nm nots a stk A p) (ha : a ≤ 6) {c : Nat} (hc : pErr B n sg nm nots a p c) (hi : i ≤ tS B n p) : ∃ S2, (∀ k, LX2_read_26 (k + 2) rid (b2i sg) 0 (nI i) S = some (nI c, S2)) ∧ CX B n rid cd f S0 S2 p := by
  have i7 := h.i7 hT
  have c15 : 1 ≤ c ∧ c ≤ 5 := by unfold pErr at hc; omega
  have e : fX2_readPart rid (b2i sg) S = some (nI c, S) := by
    rw [C_rp hI hT h ha]
    rcases hc with ⟨h1, rfl⟩ | ⟨h1, h2, rfl⟩ | ⟨h1, h2, h3, h4, h5, rfl⟩ | ⟨h1, h2, h3, h4, rfl⟩
    · rw [if_neg h1]; rfl
    · rw [if_pos h1, if_pos h2]; rfl
    · have k1 := wd_k h2
      rw [if_pos (by omega), if_neg (by rintro (z | z); omega; unfold tL at z; rw [decide_eq_false (by omega)] at z; cases z), if_neg (by omega), if_pos ⟨h1, h2⟩]
      unfold fX2_readNot
      rw [h.1.2.2.2.1, if_neg (show ¬ _ < (6 : Int32) from nI_nlt (b := 6) h4 (by omega))]; rfl
    · rw [if_pos (by omega), if_neg (by rintro (z | z); omega; unfold tL at z; rw [decide_eq_false (by omega)] at z; cases z), if_neg (by omega), if_neg (by
        rintro ⟨z1, z2⟩
        rcases h3 with q | q
        · rw [q] at z1; cases z1
        · rw [q] at z2; cases z2), if_neg (by omega), h4]; rfl
  refine ⟨_, fun k => (C_stop (by omega) (nI_ne0 (by omega) (by omega)) (Or.inr ⟨due1 h, e⟩)).trans (B80 c15.1 c15.2), CX.of hI h.1 h.2.1 rfl⟩
/-! behind a part -/
theorem C_close (hI : RuI rid cd) (hT : TC B n S0) (h : CF B n rid cd f S0 S false nm nots a stk A p) (ha : 0 < a) (ha6 : a ≤ 6) (hl : stk.length ≤ 96) (hk : tK B n p = 41) {stk0 A' : List Nat} (hr : rel 1 stk A = (0 :: stk0, A')) (hi : i ≤ tS B n p) : ∃ S2, (∀ k, LX2_read_26 (k + 1) rid (b2i sg) 0 (nI i) S = LX2_read_26 k rid (b2i sg) 0 (nI (i + 1)) S2) ∧ CF B n rid cd f S0 S2 false nm nots (a - 1) stk0 A' (tE B n p) ∧ i + 1 ≤ tS B n (tE B n p) := by
  have hp := h.2.2.1
  have i7 := h.i7 hT
  have hb := h.2.2.2
  have kp := tK_pos (B := B) (n := n) (p := p) (by omega)
  have nn := hI.n
  obtain ⟨S1, e1, g1, t1⟩ := h.1.rel hI (r := 1) (by decide) (by decide) hl (by omega)
  have hcs := rel_cost (r := 1) (by decide) stk A
  rw [hr] at g1 hcs
  have hcs' : (cC A').length + cost (0 :: stk0) = (cC A).length + cost stk := hcs
  have g1' : CG rid cd f S0 S1 false nm nots a (0 :: stk0) A' := g1
  obtain ⟨q1, ⟨-, -, q2⟩, q3, q4, q5, q6, q7, q8, q9, q10, q11⟩ := g1'
  have q1' : S1 34 2 = nI (stk0.length + 1) := q1
  have g2 : CG rid cd f S0 (up (up S1 34 2 (nI stk0.length)) 34 3 (nI (a - 1))) false nm nots (a - 1) stk0 A' := by
    refine ⟨by rw [up_off (by decide), up_at], Stk.go (by rw [up_ne (by decide), up_ne (by decide)]) q2, up_at, by rw [up_off (by decide), up_off (by decide)]; exact q4, by rw [up_off (by decide), up_off (by decide)]; exact q5, by rw [up_off (by decide), up_off (by decide)]; exact q6, by rw [up_ne (by omega), up_ne (by omega)]; exact q7, q8.go (by rw [up_ne (by omega), up_ne (by omega)]), fun b z1 z2 z3 z4 z5 => by rw [up_ne z2, up_ne z2]; exact q9 b z1 z2 z3 z4 z5, fun j hj => by rw [up_ne (by omega), up_ne (by omega)]; exact q10 j hj, fun j hj => by rw [up_ne (by omega), up_ne (by omega)]; exact q11 j hj⟩
  have e : fX2_readBehindPart rid S = some (0, up (up S1 34 2 (nI stk0.length)) 34 3 (nI (a - 1))) := by
    unfold fX2_readBehindPart
    have e1' : fX2_release rid 1 S = some S1 := e1
    rw [h.2.1.2.2.1, if_pos (by rw [hk]; rfl), h.1.2.2.1, if_neg (show ¬ _ ≤ (0 : Int32) from nI_ge (a := 0) ha (by omega)), e1', bv_s, q1', nI_pred, pf_s, up_off (by decide), q3, pf_s]
    rw [show (1 : Int32) = nI 1 from rfl, pk_sub (by omega)]; rfl
  have hc0 : cost (0 :: stk0) = cost stk0 := by show cost1 0 + cost stk0 = _; rw [show cost1 0 = 0 from rfl]; omega
  obtain ⟨S2, e2, c2⟩ := g2.adv hI hT (p := p) (h.2.1.go (by rw [up_ne (by decide), up_ne (by decide)]; exact t1)) hp (by omega)
  exact ⟨S2, fun k => C_turn (by omega) (Or.inl ⟨due0 h, e⟩) e2, c2, by have := tS_ge (B := B) (n := n) (p := tE B n p); omega⟩
theorem C_semi (hI : RuI rid cd) (hT : TC B n S0) (h : CF B n rid cd f S0 S false nm nots 0 stk A p) (hl : stk.length ≤ 96) (hk : tK B n p = 59) {A' : List Nat} (hr : rel 1 stk A = ([], A')) (hi : i ≤ tS B n p) : ∃ S2, (∀ k, LX2_read_26 (k + 2) rid (b2i sg) 0 (nI i) S = some (0, S2)) ∧ CZ B n rid cd f S0 S2 A' p := by
  have hp := h.2.2.1
  have i7 := h.i7 hT
  have hb := h.2.2.2
  have nn := hI.n
  obtain ⟨S1, e1, g1, t1⟩ := h.1.rel hI (r := 1) (by decide) (by decide) hl (by omega)
  rw [hr] at g1
  have e : fX2_readBehindPart rid S = some (-1, S1) := by
    unfold fX2_readBehindPart
    have e1' : fX2_release rid 1 S = some S1 := e1
    rw [h.2.1.2.2.1, if_neg (by rw [hk]; decide)]
    unfold BX2_readBehindPart_47
    rw [h.2.1.2.2.1, if_pos (by rw [hk]; rfl), h.1.2.2.1, if_pos (show nI 0 = (0 : Int32) from rfl), e1', bv_s]; rfl
  refine ⟨up S1 rid 0 1, fun k => (C_stop (by omega) (by decide) (Or.inl ⟨due0 h, e⟩)).trans ?_, ?_⟩
  · unfold BX2_read_80 BX2_read_92
    rw [if_pos rfl, pz_1, if_pos rfl]; rfl
  · obtain ⟨q1, q2, q3, q4, q5, q6, q7, q8, q9, q10, q11⟩ := g1
    exact ⟨up_at, h.2.1.go (by rw [up_ne (by omega)]; exact t1), by rw [up_off (by decide)]; exact q7, q8.go (up_ne (fun z => nn.1 z.symm)), fun b z1 z2 z3 z4 z5 => by rw [up_ne z4]; exact q9 b z1 z2 z3 z4 z5, fun j h3 h0 => by rw [up_off h0]; exact q10 j h3, fun j hj => by rw [up_ne (fun z => nn.1 z.symm)]; exact q11 j hj⟩
/-- neither an end nor a parenthesis that closes -/
theorem C_rb (h : CF B n rid cd f S0 S false nm nots a stk A p) (hT : TC B n S) (ha6 : a ≤ 6) (h1 : ¬ (tK B n p = 41 ∧ 0 < a)) (h2 : ¬ (tK B n p = 59 ∧ a = 0)) : fX2_readBehindPart rid S = BX2_readBehindPart_74 rid S := by
  have k61 := tK_le (B := B) (n := n) (p := p) hT.B
  have ne : ∀ c, c < 100 → tK B n p ≠ c → ¬ nI (tK B n p) = nI c := fun c hc q => by rw [nI_eq (by omega) (by omega)]; exact q
  have e47 : BX2_readBehindPart_47 rid S = BX2_readBehindPart_74 rid S := by
    unfold BX2_readBehindPart_47
    rw [h.2.1.2.2.1]
    by_cases c : tK B n p = 59
    · rw [if_pos (by rw [c]; rfl), h.1.2.2.1, if_neg (nI_ne0 (by omega) (by omega))]
    · rw [if_neg (show ¬ nI (tK B n p) = (59 : Int32) from ne 59 (by decide) c)]
  unfold fX2_readBehindPart
  rw [h.2.1.2.2.1]
  by_cases c : tK B n p = 41
  · rw [if_pos (by rw [c]; rfl), h.1.2.2.1, if_pos (by rw [show a = 0 by omega]; decide), e47]
  · rw [if_neg (show ¬ nI (tK B n p) = (41 : Int32) from ne 41 (by decide) c), e47]
theorem C_berr (hI : RuI rid cd) (hT : TC B n S0) (h : CF B n rid cd f S0 S false nm nots a stk A p) (ha6 : a ≤ 6) (hl : stk.length ≤ 96) (h1 : ¬ (tK B n p = 41 ∧ 0 < a)) (h2 : ¬ (tK B n p = 59 ∧ a = 0)) (h3 : opA B n p = 1 ∨ (rk (opA B n p) = 4 ∧ ∃ o t, (rel 5 stk A).1 = o :: t ∧ rk o = 4)) (hi : i ≤ tS B n p) : ∃ S2, (∀ k, LX2_read_26 (k + 2) rid (b2i sg) 0 (nI i) S = some (1, S2)) ∧ CX B n rid cd f S0 S2 p := by
  have hp := h.2.2.1
  have i7 := h.i7 hT
  have hb := h.2.2.2
  have hT1 := h.T hI hT
  have nn := hI.n
  have fin : ∀ S1, fX2_readBehindPart rid S = some (1, S1) → (∃ stk' A', CG rid cd f S0 S1 false nm nots a stk' A') → S1 33 = S 33 → ∃ S2, (∀ k, LX2_read_26 (k + 2) rid (b2i sg) 0 (nI i) S = some (1, S2)) ∧ CX B n rid cd f S0 S2 p := by
    rintro S1 e ⟨stk', A', g⟩ t
    exact ⟨_, fun k => (C_stop (by omega) (by decide) (Or.inl ⟨due0 h, e⟩)).trans (B80 (c := 1) (by decide) (by decide)), CX.of hI g h.2.1 t⟩
  have e74 := C_rb h hT1 ha6 h1 h2
  rcases h3 with h3 | ⟨h3, o, t, ho, h4⟩
  · refine fin S ?_ ⟨_, _, h.1⟩ rfl
    rw [e74]
    unfold BX2_readBehindPart_74
    rw [C_op hT1 h.2.1 hp, bd_s, h3, if_pos (by decide)]; rfl
  · have ob := opA_b (B := B) (n := n) (p := p)
    have ob2 : opA B n p ≤ 10 ∧ 2 ≤ opA B n p := by
      rcases ob with q | q
      · rw [q] at h3; exact absurd h3 (by decide)
      · omega
    obtain ⟨S1, e1, g1, t1⟩ := h.1.rel hI (r := 5) (by decide) (by decide) hl (by omega)
    refine fin S1 ?_ ⟨_, _, g1⟩ t1
    rw [e74]
    unfold BX2_readBehindPart_74
    have on1 : ¬ opI (opA B n p) = -1 := by
      have : ∀ o, o < 11 → 2 ≤ o → ¬ opI o = -1 := by decide +kernel
      exact this _ (by omega) ob2.2
    have e5 : ∀ T : St, fX2_rankOf (-5) T = some (nI 4, T) := fun T => rank_o (o := 5) (by decide) T
    rw [C_op hT1 h.2.1 hp, bd_s, if_neg on1, rank_o (by omega), bd_s, e5, bd_s, h3, if_pos rfl]
    unfold BX2_readBehindPart_105
    rw [if_neg (by decide)]
    unfold BX2_readBehindPart_121
    have e1' : fX2_release rid (nI 4 + 1) S = some S1 := e1
    rw [e1', bv_s, if_neg (by decide)]
    obtain ⟨q1, q2, -⟩ := g1
    rw [ho] at q1 q2
    obtain ⟨z1, z2, -⟩ := q2
    have q1' : S1 34 2 = nI (t.length + 1) := q1
    have hlt : t.length + 1 ≤ 96 := by
      have := rel_len (r := 5) stk A
      rw [ho] at this
      have : t.length + 1 ≤ stk.length := this
      omega
    rw [q1', if_neg (show ¬ _ ≤ (0 : Int32) from nI_ge (a := 0) (by omega) (by omega)), nI_pred, rd35 (by omega), z1, rank_o z2, bd_s, h4, if_pos rfl]; rfl
theorem C_oper (hI : RuI rid cd) (hT : TC B n S0) (h : CF B n rid cd f S0 S false nm nots a stk A p) (ha6 : a ≤ 6) (hl : stk.length ≤ 95) {o : Nat} (ho : opA B n p = o) (o2 : 2 ≤ o) {stk' A' : List Nat} (hr : rel (if rk o = 4 then 5 else rk o) stk A = (stk', A')) (htop : rk o = 4 → ∀ x t, stk' = x :: t → rk x ≠ 4) (hi : i ≤ tS B n p) : ∃ S2, (∀ k, LX2_read_26 (k + 1) rid (b2i sg) 0 (nI i) S = LX2_read_26 k rid (b2i sg) 0 (nI (i + 1)) S2) ∧ CF B n rid cd f S0 S2 true (decide (o = 2 ∨ o = 3)) 0 a (o :: stk') A' (tE B n p) ∧ i + 1 ≤ tS B n (tE B n p) := by
  have hp := h.2.2.1
  have i7 := h.i7 hT
  have hb := h.2.2.2
  have hT1 := h.T hI hT
  have nn := hI.n
  have o10 : o ≤ 10 ∧ o ≠ 4 := by
    rcases opA_b (B := B) (n := n) (p := p) with q | q <;> omega
  have hk0 : tK B n p ≠ 0 ∧ tK B n p ≠ 41 ∧ tK B n p ≠ 59 := by
    refine ⟨fun z => ?_, fun z => ?_, fun z => ?_⟩
    · have : opA B n p = 1 := by unfold opA; rw [z]; rfl
      omega
    · have : opA B n p = 1 := by unfold opA; rw [z]; rfl
      omega
    · have : opA B n p = 1 := by unfold opA; rw [z]; rfl
      omega
  have kp := tK_pos hk0.1
  have ro : 1 ≤ rk o ∧ rk o ≤ 6 := by
    have : ∀ o, o < 11 → 2 ≤ o → 1 ≤ rk o ∧ rk o ≤ 6 := by decide +kernel
    exact this o (by omega) o2
  have rr : 1 ≤ (if rk o = 4 then 5 else rk o) ∧ (if rk o = 4 then 5 else rk o) ≤ 7 := by split <;> omega
  obtain ⟨S1, e1, g1, t1⟩ := h.1.rel hI rr.1 rr.2 (by omega) (by omega)
  have hcs := rel_cost rr.1 stk A
  have hln := rel_len (r := if rk o = 4 then 5 else rk o) stk A
  rw [hr] at g1 hcs hln
  have g1' : CG rid cd f S0 S1 false nm nots a stk' A' := g1
  have hcs' : (cC A').length + cost stk' = (cC A).length + cost stk := hcs
  have hln' : stk'.length ≤ stk.length := hln
  obtain ⟨S3, e3, g3, t3⟩ := g1'.hold hI (by omega) o10.1
  obtain ⟨S4, e4, g4, t4⟩ := g3.expect hI (decide (o = 2 ∨ o = 3))
  have on1 : ¬ opI o = -1 := by
    have : ∀ o, o < 11 → 2 ≤ o → ¬ opI o = -1 := by decide +kernel
    exact this _ (by omega) o2
  have o23 : (opI o = -2 ↔ o = 2) ∧ (opI o = -3 ↔ o = 3) := by
    have : ∀ o, o < 11 → (opI o = -2 ↔ o = 2) ∧ (opI o = -3 ↔ o = 3) := by decide +kernel
    exact this o (by omega)
  have e156 : BX2_readBehindPart_156 (opI o) S1 = some (0, S4) := by
    unfold BX2_readBehindPart_156
    rw [e3, bv_s]
    by_cases c2 : o = 2
    · rw [if_pos (o23.1.mpr c2)]
      unfold BX2_readBehindPart_174 BX2_readBehindPart_179
      have e4' : fX2_expectPart 1 S3 = some S4 := by rw [decide_eq_true (Or.inl c2)] at e4; exact e4
      rw [e4', bv_s]; rfl
    · rw [if_neg (fun z => c2 (o23.1.mp z))]
      by_cases c3 : o = 3
      · rw [if_pos (o23.2.mpr c3)]
        unfold BX2_readBehindPart_174 BX2_readBehindPart_179
        have e4' : fX2_expectPart 1 S3 = some S4 := by rw [decide_eq_true (Or.inr c3)] at e4; exact e4
        rw [e4', bv_s]; rfl
      · rw [if_neg (fun z => c3 (o23.2.mp z))]
        unfold BX2_readBehindPart_179
        have e4' : fX2_expectPart 0 S3 = some S4 := by rw [decide_eq_false (by omega)] at e4; exact e4
        rw [e4', bv_s]; rfl
  have e5 : ∀ T : St, fX2_rankOf (-5) T = some (nI 4, T) := fun T => rank_o (o := 5) (by decide) T
  have e : fX2_readBehindPart rid S = some (0, S4) := by
    rw [C_rb h hT1 ha6 (fun z => hk0.2.1 z.1) (fun z => hk0.2.2 z.1)]
    unfold BX2_readBehindPart_74
    rw [C_op hT1 h.2.1 hp, bd_s, ho, if_neg on1, rank_o o10.1, bd_s, e5, bd_s]
    by_cases c4 : rk o = 4
    · rw [if_pos (by rw [c4])]
      rw [if_pos c4] at e1
      unfold BX2_readBehindPart_105
      rw [if_neg (by decide)]
      unfold BX2_readBehindPart_121
      have e1' : fX2_release rid (nI (rk o) + 1) S = some S1 := by rw [c4]; exact e1
      rw [e1', bv_s, if_neg (by decide), g1'.1]
      cases hs : stk' with
      | nil =>
        rw [if_pos (by decide)]; exact e156
      | cons x t =>
        have q2 := g1'.2.1
        rw [hs] at q2 hln'
        obtain ⟨z1, z2, -⟩ := q2
        have hlt : t.length + 1 ≤ 95 := by
          have : t.length + 1 ≤ stk.length := hln'
          omega
        have hx := htop c4 x t hs
        have rx := (rk_N x (by omega)).2.1
        rw [show nI (x :: t).length = nI (t.length + 1) from rfl, if_neg (show ¬ _ ≤ (0 : Int32) from nI_ge (a := 0) (by omega) (by omega)), nI_pred, rd35 (by omega), z1, rank_o z2, bd_s, if_neg (by rw [nI_eq (by omega) (by omega), c4]; exact hx)]
        exact e156
    · rw [if_neg (by rw [nI_eq (by omega) (by omega)]; exact c4)]
      rw [if_neg c4] at e1
      unfold BX2_readBehindPart_105
      rw [if_pos rfl]
      unfold BX2_readBehindPart_121
      rw [e1, bv_s, if_pos rfl]
      exact e156
  have c1o : cost1 o = 1 := by
    have : ∀ o, o < 11 → 2 ≤ o → o ≠ 4 → cost1 o = 1 := by decide +kernel
    exact this o (by omega) o2 o10.2
  have hco : cost (o :: stk') = 1 + cost stk' := by show cost1 o + cost stk' = _; rw [c1o]
  obtain ⟨S2, e2, c2⟩ := g4.adv hI hT (p := p) (h.2.1.go (by rw [t4, t3]; exact t1)) hp (by omega)
  exact ⟨S2, fun k => C_turn (by omega) (Or.inl ⟨due0 h, e⟩) e2, c2, by have := tS_ge (B := B) (n := n) (p := tE B n p); omega⟩
end SP
