/-! the reference reads an expression -/
def mOp (o : Nat) : Int32 := opI (if o = 2 then 27 else if o = 3 then 26 else if o = 4 then 28 else if o = 5 then 24 else if o = 6 then 25 else if o = 7 then 20 else if o = 8 then 21 else if o = 9 then 22 else 23)
def toM (x : Nat) : Int32 := if x < 20000 then nI x else if x < 30000 then opI (x - 19999) else mOp (x - 30000)
def sgc (sg : Bool) : Nat := if sg then 154 else 155
def whs (sg : Bool) : Nat := if sg then 8 else 9
def eFr (sg : Bool) (T0 T : St) : Prop := (∀ a, a ≠ 142 → a ≠ 145 → a ≠ sgc sg → T a = T0 a) ∧ (∀ j, (j < 18 ∨ 25 < j ∨ j = 19) → T 142 j = T0 142 j) ∧ (∀ j, j ≠ whs sg → T 145 j = T0 145 j) ∧ ∀ j, j < 700 → T (sgc sg) j = T0 (sgc sg) j
theorem sgc_b (sg : Bool) : sgc sg = 154 ∨ sgc sg = 155 := by cases sg <;> decide
theorem eFr.rf {sg : Bool} {T : St} : eFr sg T T := ⟨fun _ _ _ _ => rfl, fun _ _ => rfl, fun _ _ => rfl, fun _ _ => rfl⟩
theorem eFr.s {sg : Bool} {T0 T T' : St} (h : eFr sg T0 T) (g : sFr T T') : eFr sg T0 T' := by
  have b := sgc_b sg
  obtain ⟨h1, h2, h3, h4⟩ := h
  exact ⟨fun a q1 q2 q3 => by rw [g.1 a q1]; exact h1 a q1 q2 q3, fun j hj => by rw [g.2 j (by omega) (by omega) (by omega) (by omega) (by omega)]; exact h2 j hj, fun j hj => by rw [g.1 145 (by decide)]; exact h3 j hj, fun j hj => by rw [g.1 _ (by omega)]; exact h4 j hj⟩
theorem eFr.u {sg : Bool} {T0 T : St} (h : eFr sg T0 T) {i : Nat} {x : Int32} (hi : 18 ≤ i ∧ i ≤ 25 ∧ i ≠ 19) : eFr sg T0 (up T 142 i x) := by
  have b := sgc_b sg
  obtain ⟨h1, h2, h3, h4⟩ := h
  exact ⟨fun a q1 q2 q3 => by rw [up_ne q1]; exact h1 a q1 q2 q3, fun j hj => by rw [up_off (by omega)]; exact h2 j hj, fun j hj => by rw [up_ne (by decide)]; exact h3 j hj, fun j hj => by rw [up_ne (by omega)]; exact h4 j hj⟩
def BM (B : Nat → Nat) (n : Nat) (sg : Bool) (T0 : St) : Prop := TM B n T0 ∧ T0 142 27 = b2i (!sg) ∧ T0 142 2 = nI (if sg then 143 else 144)
def MF (B : Nat → Nat) (n : Nat) (sg : Bool) (T0 T : St) (p : Nat) (L : List Nat) : Prop := MT B n T p ∧ p ≤ n ∧ T 145 (whs sg) = nI L.length ∧ (∀ j, j < L.length → T (sgc sg) (700 + j) = toM (L.getD j 0)) ∧ eFr sg T0 T
def ME (B : Nat → Nat) (n : Nat) (sg : Bool) (T0 T : St) (c q : Nat) : Prop := T 142 24 = nI c ∧ 1 ≤ c ∧ c ≤ 5 ∧ T 142 25 = nI (tS B n q) ∧ q ≤ n ∧ eFr sg T0 T
def MO (B : Nat → Nat) (n : Nat) (sg : Bool) (T0 : St) (L : List Nat) : Oc → St → Prop
  | .inl e, T' => ME B n sg T0 T' e.1 e.2
  | .inr w, T' => MF B n sg T0 T' w.1 (L ++ w.2)
def PG (B : Nat → Nat) (n d p : Nat) : Oc → Prop
  | .inl _ => True
  | .inr w => tS B n p + w.2.length ≤ tS B n w.1 ∧ 1 ≤ w.2.length ∧ Sem d w.2 ∧ ∀ x ∈ w.2, aOk x
theorem ME.bad {B : Nat → Nat} {n c q : Nat} {sg : Bool} {T0 T : St} (h : ME B n sg T0 T c q) : ¬ T 142 24 = 0 := by rw [h.1]; exact nI_ne0 h.2.1 (by have := h.2.2.1; omega)
/-! nothing goes on behind a fault -/
section BAD
variable {T : St} (hb : ¬ T 142 24 = 0)
theorem wrong_bad {c : Int32} (hb : ¬ T 142 24 = 0) : fX10_wrong c T = some T := by unfold fX10_wrong; rw [if_neg hb]
theorem lay_bad {c : Int32} (hb : ¬ T 142 24 = 0) : fX10_lay c T = some T := by unfold fX10_lay; rw [if_neg hb]
theorem mark_bad {c : Int32} (hb : ¬ T 142 24 = 0) : fX10_mark c T = some T := by unfold fX10_mark BX10_mark_20; rw [if_neg hb, if_neg hb]
theorem part_bad {rx : Int32 → St → Option St} {a : Int32} (hb : ¬ T 142 24 = 0) : fX10_readPart rx a T = some T := by unfold fX10_readPart; rw [if_neg hb]
theorem prodL_bad {rx : Int32 → St → Option St} {a : Int32} (hb : ¬ T 142 24 = 0) (k : Nat) : LX10_readProduct_5 rx (k + 1) a T = some T := by
  show KX10_readProduct_5 rx (LX10_readProduct_5 rx k) a T = _
  unfold KX10_readProduct_5
  rw [M_isMarked_bad hb, bd_s, if_pos rfl, M_isMarked_bad hb, bd_s, if_pos rfl]
theorem prod_bad {rx : Int32 → St → Option St} {a : Int32} (hb : ¬ T 142 24 = 0) : fX10_readProduct rx a T = some T := by
  unfold fX10_readProduct
  rw [part_bad hb, bv_s]; exact prodL_bad hb 4999
theorem sumL_bad {rx : Int32 → St → Option St} {a : Int32} (hb : ¬ T 142 24 = 0) (k : Nat) : LX10_readSum_5 rx (k + 1) a T = some T := by
  show KX10_readSum_5 rx (LX10_readSum_5 rx k) a T = _
  unfold KX10_readSum_5
  rw [M_isMarked_bad hb, bd_s, if_pos rfl, M_isMarked_bad hb, bd_s, if_pos rfl]
theorem sum_bad {rx : Int32 → St → Option St} {a : Int32} (hb : ¬ T 142 24 = 0) : fX10_readSum rx a T = some T := by
  unfold fX10_readSum
  rw [prod_bad hb, bv_s]; exact sumL_bad hb 4999
theorem nots_bad {rx : Int32 → St → Option St} (hb : ¬ T 142 24 = 0) {m : Nat} (hm : m ≤ 7) : BX10_readNot_94 rx (nI m) T = some T := by
  unfold BX10_readNot_94
  have : ∀ k i, m - i < k → i ≤ m → LX10_readNot_96 rx k (nI m) (nI i) T = some T := by
    intro k
    induction k with
    | zero => intro i h; omega
    | succ k ih =>
      intro i h1 h2
      show KX10_readNot_96 rx (LX10_readNot_96 rx k) (nI m) (nI i) T = _
      unfold KX10_readNot_96
      by_cases c : m ≤ i
      · rw [if_pos (nI_le c (by omega))]
      · rw [if_neg (nI_ge (by omega) (by omega)), lay_bad hb, bv_s, vl_s, nI_1]
        exact ih (i + 1) (by omega) (by omega)
  exact this FU 0 (by unfold FU; omega) (by omega)
theorem notL_bad {rx : Int32 → St → Option St} {a : Int32} (hb : ¬ T 142 24 = 0) {m : Nat} (hm : m ≤ 7) (k : Nat) : LX10_readNot_2 rx (k + 1) a (nI m) T = some T := by
  show KX10_readNot_2 rx (LX10_readNot_2 rx k) a (nI m) T = _
  unfold KX10_readNot_2
  rw [M_is_bad hb, bd_s, if_pos rfl, sum_bad hb, bv_s, M_isMarked_bad hb, bd_s, if_pos rfl, M_isMarked_bad hb, bd_s, if_pos rfl]
  exact nots_bad hb hm
theorem not_bad {rx : Int32 → St → Option St} {a : Int32} (hb : ¬ T 142 24 = 0) : fX10_readNot rx a T = some T := by
  unfold fX10_readNot
  exact notL_bad (m := 0) hb (by decide) 4999
theorem andL_bad {rx : Int32 → St → Option St} {a : Int32} (hb : ¬ T 142 24 = 0) (k : Nat) : LX10_readAnd_5 rx (k + 1) a T = some T := by
  show KX10_readAnd_5 rx (LX10_readAnd_5 rx k) a T = _
  unfold KX10_readAnd_5
  rw [M_is_bad hb, bd_s, if_pos rfl]
theorem and_bad {rx : Int32 → St → Option St} {a : Int32} (hb : ¬ T 142 24 = 0) : fX10_readAnd rx a T = some T := by
  unfold fX10_readAnd
  rw [not_bad hb, bv_s]; exact andL_bad hb 4999
theorem orL_bad {rx : Int32 → St → Option St} {a : Int32} (hb : ¬ T 142 24 = 0) (k : Nat) : LX10_readExpression_67 rx (k + 1) a T = some T := by
  show KX10_readExpression_67 rx (LX10_readExpression_67 rx k) a T = _
  unfold KX10_readExpression_67
  rw [M_is_bad hb, bd_s, if_pos rfl]
theorem e62_bad {rx : Int32 → St → Option St} {a : Int32} (hb : ¬ T 142 24 = 0) : BX10_readExpression_62 rx a T = some T := by
  unfold BX10_readExpression_62
  rw [and_bad hb, bv_s]; exact orL_bad hb 4999
theorem expr_bad {n : Nat} {a : Int32} (hb : ¬ T 142 24 = 0) : fX10_readExpression (n + 1) a T = some T := by
  show fX10_readExpression_b (fX10_readExpression n) a T = _
  unfold fX10_readExpression_b
  rw [if_neg hb]
end BAD
/-! steps -/
section MS
variable {B : Nat → Nat} {n p : Nat} {sg : Bool} {T0 T : St} {L : List Nat}
theorem MF.tm (hB : BM B n sg T0) (h : MF B n sg T0 T p L) : TM B n T := hB.1.go (h.2.2.2.2.1 157 (by decide) (by decide) (by have := sgc_b sg; omega))
theorem MF.next (hB : BM B n sg T0) (h : MF B n sg T0 T p L) : ∃ T', fX10_stepOn T = some T' ∧ MF B n sg T0 T' (tE B n p) L := by
  have b := sgc_b sg
  obtain ⟨T', e, m1, s1⟩ := M_step (h.tm hB) (tE_le (B := B) h.2.1) h.1.2.2.2.2.2.2 h.1.1 h.1.2.1
  refine ⟨T', e, m1, tE_le h.2.1, by rw [s1.1 145 (by decide)]; exact h.2.2.1, fun j hj => by rw [s1.1 _ (by omega)]; exact h.2.2.2.1 j hj, h.2.2.2.2.s s1⟩
def wrT (B : Nat → Nat) (n p c : Nat) (T : St) : St := up (up T 142 24 (nI c)) 142 25 (nI (tS B n p))
theorem M_wrong {c : Nat} (h : MT B n T p) : fX10_wrong (nI c) T = some (wrT B n p c T) := by
  unfold fX10_wrong wrT
  rw [h.2.2.2.2.2.2, if_pos rfl, pf_s, pf_s, up_off (by decide), h.2.2.2.1]
theorem MF.wr {c : Nat} (h : MF B n sg T0 T p L) (c1 : 1 ≤ c) (c5 : c ≤ 5) : ME B n sg T0 (wrT B n p c T) c p := by
  unfold wrT
  exact ⟨by rw [up_off (by decide), up_at], c1, c5, up_at, h.2.1, (h.2.2.2.2.u (by omega)).u (by omega)⟩
theorem MF.lay {x : Nat} (hB : BM B n sg T0) (h : MF B n sg T0 T p L) (hl : L.length < 700) : ∃ T', fX10_lay (toM x) T = some T' ∧ MF B n sg T0 T' p (L ++ [x]) := by
  have b := sgc_b sg
  obtain ⟨h1, h2, h3, h4, g1, g2, g3, g4⟩ := h
  have e27 : T 142 27 = b2i (!sg) := by rw [g2 27 (by omega)]; exact hB.2.1
  have key : fX10_lay (toM x) T = some (up (up T (sgc sg) (700 + L.length) (toM x)) 145 (whs sg) (nI (L.length + 1))) := by
    unfold fX10_lay
    rw [h1.2.2.2.2.2.2, if_pos rfl, e27]
    cases sg with
    | true =>
      have h3' : T 145 8 = nI L.length := h3
      rw [show b2i (!true) = 0 from rfl, if_pos rfl]
      unfold BX10_lay_21
      rw [vl_s, e27, show b2i (!true) = 0 from rfl, if_pos rfl]
      unfold BX10_lay_41
      rw [show (5 : Int32) + 3 = nI 8 from rfl, rd145 (by decide), h3', la700, wr154 (by omega), rd145 (by decide), up_ne (by decide), h3', nI_1, wr145 (by decide)]
      rfl
    | false =>
      have h3' : T 145 9 = nI L.length := h3
      rw [show b2i (!false) = 1 from rfl, if_neg (by decide)]
      unfold BX10_lay_21
      rw [vl_s, e27, show b2i (!false) = 1 from rfl, if_neg (by decide)]
      unfold BX10_lay_41
      rw [show (5 : Int32) + 4 = nI 9 from rfl, rd145 (by decide), h3', la700, wr155 (by omega), rd145 (by decide), up_ne (by decide), h3', nI_1, wr145 (by decide)]
      rfl
  refine ⟨_, key, h1.go (fun j _ _ => by rw [up_ne (by decide), up_ne (by omega)]), h2, ?_, fun j hj => ?_, fun a q1 q2 q3 => ?_, fun j hj => ?_, fun j hj => ?_, fun j hj => ?_⟩
  · rw [up_at, List.length_append]; rfl
  · rw [List.length_append] at hj
    have hj' : j < L.length + 1 := hj
    rw [up_ne (by omega)]
    by_cases e : j = L.length
    · rw [e, up_at, gdr]
    · rw [up_off (by omega), gdl (by omega)]; exact h4 j (by omega)
  · rw [up_ne q2, up_ne q3]; exact g1 a q1 q2 q3
  · rw [up_ne (by decide), up_ne (by omega)]; exact g2 j hj
  · rw [up_off hj, up_ne (by omega)]; exact g3 j hj
  · rw [up_ne (by omega), up_off (by omega)]; exact g4 j hj
theorem M_nn {lo hi : Nat} (hT : TM B n T) (h : MT B n T p) (hp : p ≤ n) (hlo : lo < 2 ^ 31) (hhi : hi < 2 ^ 31) : fX10_numberNow (nI lo) (nI hi) T = if tK B n p = 2 then (if tL B n p = true ∨ tN B n p < lo ∨ hi < tN B n p then some (0, wrT B n p 2 T) else some (nI (tN B n p), T)) else some (0, wrT B n p 1 T) := by
  have hn := hT.1
  have hE := tE_le (B := B) hp
  have hg := tE_ge (B := B) (n := n) (p := p)
  have k61 := tK_le (B := B) (n := n) (p := p) hT.B
  have e59 : ∀ c, 1 ≤ c → c ≤ 5 → BX10_numberNow_59 (wrT B n p c T) = some (0, wrT B n p c T) := by
    intro c h1 h5
    unfold BX10_numberNow_59
    rw [if_neg]
    · rfl
    · unfold wrT
      rw [up_off (by decide), up_at]; exact nI_ne0 (by omega) (by omega)
  have e54 : BX10_numberNow_54 T = some (0, wrT B n p 2 T) := by
    unfold BX10_numberNow_54
    rw [show (2 : Int32) = nI 2 from rfl, M_wrong h, bv_s]; exact e59 2 (by decide) (by decide)
  unfold fX10_numberNow
  rw [h.2.2.2.2.2.2, if_pos rfl, h.2.2.1]
  by_cases c2 : tK B n p = 2
  · rw [if_pos (by rw [mkT_e.2.2.1 c2]; rfl), if_pos c2, h.2.2.2.2.1, h.2.2.2.1, pk_sub hg]
    by_cases c4 : 4 < tE B n p - tS B n p
    · have : tL B n p = true := by unfold tL; rw [decide_eq_true c2, decide_eq_true c4]; rfl
      rw [if_pos (show (4 : Int32) < _ from nI_lt (a := 4) c4 (by omega)), if_pos (Or.inl this), e54]
    · have nl : ¬ tL B n p = true := by unfold tL; rw [decide_eq_false c4, Bool.and_false]; decide
      have t9 := tN_lt hp hT.B c2 (by omega)
      rw [if_neg (show ¬ (4 : Int32) < _ from nI_nlt (a := 4) (by omega) (by decide)), h.2.2.2.2.2.1 c2 (by omega)]
      by_cases cl : tN B n p < lo
      · rw [if_pos (nI_lt cl hlo), if_pos (Or.inr (Or.inl cl)), e54]
      · rw [if_neg (nI_nlt (by omega) (by omega))]
        by_cases ch : hi < tN B n p
        · rw [if_neg (nI_ge ch (by omega)), if_pos (Or.inr (Or.inr ch)), e54]
        · rw [if_pos (nI_le (by omega) hhi), if_neg (by rintro (z | z | z); exact nl z; exact cl z; exact ch z)]
          unfold BX10_numberNow_59
          rw [h.2.2.2.2.2.2, if_pos rfl, h.2.2.2.2.2.1 c2 (by omega)]; rfl
  · have : mkT (tK B n p) ≠ 2 ∧ mkT (tK B n p) ≤ 61 := by
      unfold mkT
      split
      · omega
      · split <;> omega
    rw [if_neg (show ¬ nI _ = (2 : Int32) from by rw [show (2 : Int32) = nI 2 from rfl, nI_eq (by omega) (by omega)]; exact this.1), if_neg c2, show (1 : Int32) = nI 1 from rfl, M_wrong h, bv_s]
    exact e59 1 (by decide) (by decide)
theorem rt_g {β : Type} {a n : Nat} {k : Nat → Option β} (hn : n < ln a) : rt a (nI n) k = k (stn a n) := by
  have h5 := ln_lt a
  unfold rt
  rw [nI_clamp (by omega), if_neg (by rintro (q | q); exact nI_pos (by omega) q; omega)]
def vxM : Option Nat → Int32
  | none => -1
  | some j => nI j
theorem M_which (hT : TM B n T) (h : MT B n T p) (hp : p ≤ n) : fX10_which (if sg then 143 else 144) T = some (vxM (vx B n sg p), T) := by
  have step : ∀ k i c, (c = 143 ∨ c = 144) → i < 5 → stn c i < 18 → LX10_which_2 (k + 1) c (nI i) T = if wd B n (stn c i) p = true then some (nI i, T) else LX10_which_2 k c (nI (i + 1)) T := by
    intro k i c hc hi hs
    have hl : ln c = 5 := by rcases hc with rfl | rfl <;> rfl
    show KX10_which_2 (LX10_which_2 k) c (nI i) T = _
    unfold KX10_which_2
    rw [hl, if_neg (nI_ge hi (by decide))]
    rw [rt_g (by rw [hl]; exact hi), M_is hT h hp hs, bd_s]
    cases wd B n (stn c i) p with
    | true => rw [b2i_t, if_neg (by decide), if_pos rfl]; rfl
    | false => rw [b2i_f, if_pos rfl, if_neg (by decide), vl_s, nI_1]
  have last : ∀ k c, (c = 143 ∨ c = 144) → LX10_which_2 (k + 1) c (nI 5) T = some (-1, T) := by
    intro k c hc
    have hl : ln c = 5 := by rcases hc with rfl | rfl <;> rfl
    show KX10_which_2 (LX10_which_2 k) c (nI 5) T = _
    unfold KX10_which_2
    rw [hl, if_pos (by decide)]; rfl
  unfold fX10_which
  cases sg with
  | true =>
    show LX10_which_2 (4994 + 6) 143 (nI 0) T = _
    rw [step _ 0 143 (Or.inl rfl) (by decide) (by decide), step _ 1 143 (Or.inl rfl) (by decide) (by decide), step _ 2 143 (Or.inl rfl) (by decide) (by decide), step _ 3 143 (Or.inl rfl) (by decide) (by decide), step _ 4 143 (Or.inl rfl) (by decide) (by decide), last _ 143 (Or.inl rfl)]
    show (if wd B n 9 p = true then _ else if wd B n 3 p = true then _ else if wd B n 1 p = true then _ else if wd B n 13 p = true then _ else if wd B n 8 p = true then _ else _) = some (vxM (vix B n 9 3 1 13 p), T)
    unfold vix
    repeat' split
    all_goals rfl
  | false =>
    show LX10_which_2 (4994 + 6) 144 (nI 0) T = _
    rw [step _ 0 144 (Or.inr rfl) (by decide) (by decide), step _ 1 144 (Or.inr rfl) (by decide) (by decide), step _ 2 144 (Or.inr rfl) (by decide) (by decide), step _ 3 144 (Or.inr rfl) (by decide) (by decide), step _ 4 144 (Or.inr rfl) (by decide) (by decide), last _ 144 (Or.inr rfl)]
    show (if wd B n 10 p = true then _ else if wd B n 11 p = true then _ else if wd B n 12 p = true then _ else if wd B n 14 p = true then _ else if wd B n 8 p = true then _ else _) = some (vxM (vix B n 10 11 12 14 p), T)
    unfold vix
    repeat' split
    all_goals rfl
/-- a sign that stands, gone over; another: a fault -/
theorem MF.mark {c : Nat} (hB : BM B n sg T0) (h : MF B n sg T0 T p L) (hc : c = 40 ∨ c = 41 ∨ c = 42 ∨ c = 43 ∨ c = 45 ∨ c = 47 ∨ c = 59 ∨ c = 60 ∨ c = 61) : ∃ T', fX10_mark (nI c) T = some T' ∧ ((tK B n p = c ∧ MF B n sg T0 T' (tE B n p) L) ∨ (tK B n p ≠ c ∧ ME B n sg T0 T' 1 p)) := by
  unfold fX10_mark
  rw [h.1.2.2.2.2.2.2, if_pos rfl, M_isMarked (h.tm hB) h.1 h.2.1 hc, bd_s]
  by_cases c1 : tK B n p = c
  · obtain ⟨T', e, m⟩ := h.next hB
    refine ⟨T', ?_, Or.inl ⟨c1, m⟩⟩
    rw [decide_eq_true c1, b2i_t, if_neg (by decide)]
    unfold BX10_mark_20
    rw [h.1.2.2.2.2.2.2, if_pos rfl, e, bv_s]
  · have m := h.wr (c := 1) (by decide) (by decide)
    refine ⟨_, ?_, Or.inr ⟨c1, m⟩⟩
    rw [decide_eq_false c1, b2i_f, if_pos rfl, show (1 : Int32) = nI 1 from rfl, M_wrong h.1, bv_s]
    unfold BX10_mark_20
    rw [if_neg m.bad]
end MS
/-! both together: a function of the reference at a level -/
def JR (B : Nat → Nat) (n : Nat) (sg : Bool) (T0 : St) (l a d : Nat) (F : St → Option St) : Prop := ∀ (T : St) (p : Nat) (L : List Nat), MF B n sg T0 T p L → L.length ≤ tS B n p → ∃ o, ok (F T) (MO B n sg T0 L o) ∧ CL B n sg l l a p o ∧ PG B n d p o
theorem opM_v : ∀ j, j < 5 → (-1 : Int32) - nI j = toM (20000 + j) ∧ ¬ nI j = -1 := by decide +kernel
section JJ
variable {B : Nat → Nat} {n : Nat} {sg : Bool} {T0 : St} {a : Nat} {rx : Int32 → St → Option St}
theorem J_part (hB : BM B n sg T0) (ha : a < 6) (hrb : ∀ x T, ¬ T 142 24 = 0 → rx x T = some T) (hrx : JR B n sg T0 1 (a + 1) (5 * (5 - a) + 1) (rx (nI (a + 1)))) : JR B n sg T0 7 a (5 * (5 - a) + 1) (fX10_readPart rx (nI a)) := by
  intro T p L h hL
  have hT := h.tm hB
  have n7 := hT.1
  have hp := h.2.1
  have sn := tS_le (B := B) hp
  have k61 := tK_le (B := B) (n := n) (p := p) hT.B
  have tg := tS_ge (B := B) (n := n) (p := tE B n p)
  unfold fX10_readPart
  rw [h.1.2.2.2.2.2.2, if_pos rfl, h.1.2.2.1]
  by_cases c2 : tK B n p = 2
  · have kp := tK_pos (B := B) (n := n) (p := p) (by omega)
    rw [if_pos (by rw [mkT_e.2.2.1 c2]; rfl)]
    have ern : fX10_readNumber 0 9999 T = bd (if tK B n p = 2 then (if tL B n p = true ∨ tN B n p < 0 ∨ 9999 < tN B n p then some (0, wrT B n p 2 T) else some (nI (tN B n p), T)) else some (0, wrT B n p 1 T)) (fun x1 S => (if (S 142 24) = 0 then bv (fX10_stepOn S) fun S => ri x1 S else ri x1 S)) := by
      unfold fX10_readNumber
      rw [show fX10_numberNow 0 9999 T = _ from M_nn (lo := 0) (hi := 9999) hT h.1 hp (by decide) (by decide)]
    rw [ern, if_pos c2]
    by_cases cL : tL B n p = true
    · have m := h.wr (c := 2) (by decide) (by decide)
      refine ⟨.inl (2, p), ?_, CL.err (by omega) (fun nm nots _ => Or.inr (Or.inl ⟨Or.inl c2, Or.inr cL, rfl⟩)), trivial⟩
      rw [if_pos (Or.inl cL), bd_s, if_neg m.bad, ri_s, bd_s, lay_bad m.bad, bv_s]
      exact ok_some m
    · have hLf : tL B n p = false := Bool.eq_false_iff.mpr cL
      have t9 : tN B n p ≤ 9999 := by
        refine tN_lt hp hT.B c2 ?_
        unfold tL at hLf; rw [decide_eq_true c2, Bool.true_and] at hLf; have := of_decide_eq_false hLf; omega
      obtain ⟨T1, e1, m1⟩ := h.next hB
      obtain ⟨T2, e2, m2⟩ := m1.lay hB (x := tN B n p) (by omega)
      have eM : toM (tN B n p) = nI (tN B n p) := by unfold toM; rw [if_pos (by omega)]
      rw [eM] at e2
      refine ⟨.inr (tE B n p, [tN B n p]), ?_, CL.atom ha (Or.inl ⟨c2, hLf, rfl⟩), ⟨?_, by show 1 ≤ 1; omega, Sem.num (by omega) (by omega), fun x hx => ?_⟩⟩
      · rw [if_neg (by rintro (z | z | z); exact cL z; omega; omega), bd_s, h.1.2.2.2.2.2.2, if_pos rfl, e1, bv_s, ri_s, bd_s, e2, bv_s]
        exact ok_some m2
      · show tS B n p + 1 ≤ tS B n (tE B n p); omega
      · have : x = tN B n p := by simpa using hx
        rw [this]; exact Or.inl t9
  · have ne2 : ¬ nI (mkT (tK B n p)) = (2 : Int32) := by
      have : mkT (tK B n p) ≠ 2 ∧ mkT (tK B n p) ≤ 61 := by
        unfold mkT
        split
        · omega
        · split <;> omega
      rw [show (2 : Int32) = nI 2 from rfl, nI_eq (by omega) (by omega)]; exact this.1
    rw [if_neg ne2]
    by_cases c1 : tK B n p = 1
    · have kp := tK_pos (B := B) (n := n) (p := p) (by omega)
      have e2' : T 142 2 = nI (if sg then 143 else 144) := by rw [h.2.2.2.2.2.1 2 (by omega)]; exact hB.2.2
      rw [if_pos (by rw [mkT_e.2.1 c1]; rfl), gm_g e2' (by cases sg <;> rfl) (by decide), M_which hT h.1 hp, bd_s]
      cases hv : vx B n sg p with
      | none =>
        have m := h.wr (c := 3) (by decide) (by decide)
        refine ⟨.inl (3, p), ?_, CL.err (by omega) (fun nm nots hpr => Or.inr (Or.inr (Or.inr ⟨c1, ha, hpr, hv, rfl⟩))), trivial⟩
        rw [show vxM none = -1 from rfl, if_pos rfl, show (3 : Int32) = nI 3 from rfl, M_wrong h.1, bv_s]
        unfold BX10_readPart_56
        rw [lay_bad m.bad, bv_s, if_neg m.bad]
        exact ok_some m
      | some j =>
        have j5 := vxj_lt hv
        obtain ⟨ov1, ov2⟩ := opM_v j j5
        obtain ⟨T1, e1, m1⟩ := h.lay hB (x := 20000 + j) (by omega)
        obtain ⟨T2, e2, m2⟩ := m1.next hB
        refine ⟨.inr (tE B n p, [20000 + j]), ?_, CL.atom ha (Or.inr ⟨c1, j, hv, rfl⟩), ⟨?_, by show 1 ≤ 1; omega, Sem.val j5 (by omega), fun x hx => ?_⟩⟩
        · rw [show vxM (some j) = nI j from rfl, if_neg ov2]
          unfold BX10_readPart_56
          rw [ov1, e1, bv_s, m1.1.2.2.2.2.2.2, if_pos rfl, e2, bv_s]
          exact ok_some m2
        · show tS B n p + 1 ≤ tS B n (tE B n p); omega
        · have : x = 20000 + j := by simpa using hx
          rw [this]; exact Or.inr (Or.inl ⟨by omega, by omega⟩)
    · have ne1 : ¬ nI (mkT (tK B n p)) = (1 : Int32) := by
        have : mkT (tK B n p) ≠ 1 ∧ mkT (tK B n p) ≤ 61 := by
          unfold mkT
          split
          · omega
          · split <;> omega
        rw [show (1 : Int32) = nI 1 from rfl, nI_eq (by omega) (by omega)]; exact this.1
      rw [if_neg ne1]
      obtain ⟨T1, e1, m1⟩ := h.mark hB (c := 40) (by omega)
      have e1' : fX10_mark 40 T = some T1 := e1
      rw [e1', bv_s]
      rcases m1 with ⟨c40, m1⟩ | ⟨c40, m1⟩
      · have kp := tK_pos (B := B) (n := n) (p := p) (by omega)
        obtain ⟨o1, ⟨T2, e2, q2⟩, q3, q4⟩ := hrx T1 (tE B n p) L m1 (by omega)
        rw [nI_1, e2, bv_s]
        have cl := CL.par ha c40 q3
        cases o1 with
        | inl e =>
          have q2' : ME B n sg T0 T2 e.1 e.2 := q2
          refine ⟨.inl e, ?_, cl, trivial⟩
          rw [mark_bad q2'.bad, bv_s]
          exact ok_some q2'
        | inr w =>
          have q2' : MF B n sg T0 T2 w.1 (L ++ w.2) := q2
          obtain ⟨p1, p2, p3, p4⟩ := q4
          obtain ⟨T3, e3, m3⟩ := q2'.mark hB (c := 41) (by omega)
          have e3' : fX10_mark 41 T2 = some T3 := e3
          rw [e3', bv_s]
          rcases m3 with ⟨c41, m3⟩ | ⟨c41, m3⟩
          · have kp2 := tK_pos (B := B) (n := n) (p := w.1) (by omega)
            have tg2 := tS_ge (B := B) (n := n) (p := tE B n w.1)
            refine ⟨.inr (tE B n w.1, w.2), ok_some m3, ?_, ⟨?_, p2, p3, p4⟩⟩
            · have : parO B n (.inr w) = .inr (tE B n w.1, w.2) := if_pos c41
              rw [← this]; exact cl
            · show tS B n p + w.2.length ≤ tS B n (tE B n w.1); omega
          · refine ⟨.inl (1, w.1), ok_some m3, ?_, trivial⟩
            have : parO B n (.inr w) = .inl (1, w.1) := if_neg c41
            rw [← this]; exact cl
      · refine ⟨.inl (1, p), ?_, CL.err (by omega) (fun nm nots _ => Or.inl ⟨by omega, rfl⟩), trivial⟩
        rw [hrb _ _ m1.bad, bv_s, mark_bad m1.bad, bv_s]
        exact ok_some m1
end JJ
