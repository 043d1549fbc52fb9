/-! a rule's line -/
def rFr (rid cd E : Nat) (S S' : St) : Prop := (∀ a, a ≠ 33 → a ≠ 34 → a ≠ 35 → a ≠ rid → a ≠ cd → S' a = S a) ∧ ∀ j, j < E → S' cd j = S cd j
def RQ (B : Nat → Nat) (n rid cd E : Nat) (S : St) : Oc → Int32 × St → Prop
  | .inl e, r => r.1 = nI e.1 ∧ r.2 33 4 = nI (tS B n e.2) ∧ rFr rid cd E S r.2
  | .inr w, r => (tK B n w.1 = 59 ∧ r.1 = 0 ∧ r.2 rid 0 = 1 ∧ r.2 rid 2 = nI E ∧ CT B n r.2 w.1 ∧ w.1 ≤ n ∧ r.2 rid 3 = nI (E + (cC w.2).length) ∧ Ou r.2 cd E (cC w.2) ∧ E + (cC w.2).length ≤ tS B n w.1 ∧ rFr rid cd E S r.2) ∨ (tK B n w.1 ≠ 59 ∧ r.1 = 1 ∧ r.2 33 4 = nI (tS B n w.1) ∧ rFr rid cd E S r.2)
theorem C_read {B : Nat → Nat} {n rid cd E p : Nat} {sg : Bool} {S : St} {o : Oc} (hI : RuI rid cd) (hT : TC B n S) (hC : CT B n S p) (hp : p ≤ n) (hE : E ≤ tS B n p) (cl : CL B n sg 1 1 0 p o) : ok (fX2_read rid (b2i sg) (nI E) S) (RQ B n rid cd E S o) := by
  have nn := hI.n
  have n7 := hT.1
  have sn := tS_le (B := B) hp
  unfold fX2_read fX3_begin
  rw [pf_s, pf_s, pz_0, pf_s, pf_s, bv_s]
  generalize hS1 : up (up (up (up (up S 34 2 0) 34 3 0) rid 0 0) rid 2 (nI E)) rid 3 (nI E) = S1
  have s1c : ∀ a, a ≠ 34 → a ≠ rid → S1 a = S a := fun a q1 q2 => by rw [← hS1, up_ne q2, up_ne q2, up_ne q2, up_ne q1, up_ne q1]
  unfold fX2_expectPart
  rw [pz_1, pz_1, pf_s, bv_s]
  generalize hS2 : up (up (up S1 34 5 1) 34 6 1) 34 4 0 = S2
  have s2c : ∀ a, a ≠ 34 → S2 a = S1 a := fun a q1 => by rw [← hS2, up_ne q1, up_ne q1, up_ne q1]
  have hT1 : TC B n S1 := hT.go (s1c 1 (by decide) (by omega))
  have h34 : ∀ j, j ≠ 4 → j ≠ 5 → j ≠ 6 → S2 34 j = S1 34 j := fun j q1 q2 q3 => by rw [← hS2, up_off q1, up_off q3, up_off q2]
  have e342 : S1 34 2 = 0 ∧ S1 34 3 = 0 := by
    constructor
    · rw [← hS1, up_ne (by omega), up_ne (by omega), up_ne (by omega), up_off (by decide), up_at]
    · rw [← hS1, up_ne (by omega), up_ne (by omega), up_ne (by omega), up_at]
  have hF : CF B n rid cd E S1 S2 true true 0 0 [] [] p := by
    refine ⟨⟨?_, trivial, ?_, ?_, ?_, ?_, ?_, fun j hj => absurd hj (by show ¬ j < 0; omega), fun a q1 q2 q3 q4 q5 => s2c a q2, fun j hj => by rw [s2c rid (by omega)], fun j hj => by rw [s2c cd (by omega)]⟩, hC.go (by rw [s2c 33 (by decide), s1c 33 (by decide) (by omega)]), hp, ?_⟩
    · rw [h34 2 (by decide) (by decide) (by decide), e342.1]; rfl
    · rw [h34 3 (by decide) (by decide) (by decide), e342.2]; rfl
    · rw [← hS2, up_at]; rfl
    · rw [← hS2, up_off (by decide), up_off (by decide), up_at]; rfl
    · rw [← hS2, up_off (by decide), up_at]; rfl
    · rw [s2c rid (by omega), ← hS1, up_at]; rfl
    · show E + 0 + 0 ≤ tS B n p; omega
  have fr : ∀ S', (∀ a, a ≠ 33 → a ≠ 34 → a ≠ 35 → a ≠ rid → a ≠ cd → S' a = S1 a) → (∀ j, j < E → S' cd j = S1 cd j) → rFr rid cd E S S' := fun S' q1 q2 => ⟨fun a z1 z2 z3 z4 z5 => by rw [q1 a z1 z2 z3 z4 z5, s1c a z2 z4], fun j hj => by rw [q2 j hj, s1c cd (by omega) (by omega)]⟩
  refine cl rid cd E S1 S2 true 0 0 FU [] [] _ hI hT1 hF ⟨rfl, rfl⟩ (fun x t e => by cases e) (by decide) (by omega) (by unfold FU; omega) ?_
  cases o with
  | inl e =>
    intro S' hx
    exact ⟨rfl, hx.1, fr S' hx.2.1 hx.2.2⟩
  | inr w =>
    intro S' nm' nots' i' k' stk' A' c1 c2 c3 c4 c5 c6
    have c2' : rel 1 stk' A' = ([], w.2) := c2
    have sn' := tS_le (B := B) c1.2.2.1
    by_cases c : tK B n w.1 = 59
    · obtain ⟨S4, e4, z4⟩ := C_semi (sg := sg) (i := i') hI hT1 c1 (by omega) c c2' c5
      obtain ⟨k4, rfl⟩ : ∃ k4, k' = k4 + 2 := ⟨k' - 2, by omega⟩
      rw [e4 k4]
      obtain ⟨z1, z2, z3, z5, z6, z7, z8⟩ := z4
      have hcs := rel_cost (r := 1) (by decide) stk' A'
      rw [c2'] at hcs
      have hcs' : (cC w.2).length + 0 = (cC A').length + cost stk' := hcs
      have hb := c1.2.2.2
      refine ok_some (Or.inl ⟨c, rfl, z1, ?_, z2, c1.2.2.1, z3, z5, by omega, fr S4 z6 z8⟩)
      show S4 rid 2 = nI E
      rw [z7 2 (by decide) (by decide), ← hS1, up_off (by decide), up_at]
    · obtain ⟨p6, p5, p4, p2, p1⟩ := c4
      obtain ⟨S4, e4, x4⟩ := C_berr (sg := sg) (i := i') hI hT1 c1 (by omega) (by omega) (fun z => by omega) (fun z => c z.1) (by
        rcases opA_b (B := B) (n := n) (p := w.1) with q | ⟨q1, q2, q3⟩
        · exact Or.inl q
        · refine Or.inr ?_
          have : ∀ o, o < 11 → (2 ≤ o ∧ o ≠ 4 ∧ rk o ≠ 6 ∧ rk o ≠ 5 ∧ rk o ≠ 2 ∧ rk o ≠ 1) → rk o = 4 := by decide +kernel
          have r4 := this _ (by omega) ⟨q1, q3, p6 (by decide), p5 (by decide), p2 (by decide), p1 (by decide)⟩
          exact ⟨r4, p4 (by decide) r4⟩) c5
      obtain ⟨k4, rfl⟩ : ∃ k4, k' = k4 + 2 := ⟨k' - 2, by omega⟩
      rw [e4 k4]
      exact ok_some (Or.inr ⟨c, rfl, x4.1, fr S4 x4.2.1 x4.2.2⟩)
/-- which rules are told -/
def dn (sX fX : Option (List Nat)) : Nat := (if sX.isSome then 1 else 0) + (if fX.isSome then 2 else 0)
def kS (sg : Bool) : Nat := if sg then 1 else 2
def wS (sg : Bool) (sX fX : Option (List Nat)) : Option (List Nat) := if sg then sX else fX
theorem RU.go2 {d rid e E : Nat} {sg : Bool} {S T S' T' : St} {X : Option (List Nat)} (h : RU d rid sg S T X e) (he : e ≤ E) (h1 : S' rid = S rid) (h2 : ∀ j, j < E → S' (d + 10) j = S (d + 10) j) (h3 : T' 145 (whs sg) = T 145 (whs sg)) (h4 : ∀ j, 700 ≤ j → T' (sgc sg) j = T (sgc sg) j) : RU d rid sg S' T' X e := by
  obtain ⟨h0, h⟩ := h
  refine ⟨by rw [h1]; exact h0, ?_⟩
  cases X with
  | none => exact ⟨by rw [h1]; exact h.1, h.2.1, by rw [h3]; exact h.2.2⟩
  | some A =>
    obtain ⟨q1, ⟨f, q2, q3, q4⟩, q5, q6, q7⟩ := h
    exact ⟨by rw [h1]; exact q1, ⟨f, by rw [h1]; exact q2, q3, fun j hj => by rw [h2 _ (by omega)]; exact q4 j hj⟩, by rw [h3]; exact q5, fun j hj => by rw [h4 _ (by omega)]; exact q6 j hj, q7⟩
section RL
variable {B : Nat → Nat} {n d p F P N e1 e2 : Nat} {S T : St} {sX fX : Option (List Nat)}
/-- the reference's line of a rule -/
def mRule (sg : Bool) (dnI : Int32) (T : St) : Option (Int32 × St) := BX10_readLine_29 dnI (nI (kS sg)) T
theorem e56 (sg : Bool) (x : Int32) (T : St) : BX10_readLine_56 x (nI (kS sg)) T = bv (fX10_readExpression 8 0 (up (up T 142 27 (b2i (!sg))) 142 2 (nI (if sg then 143 else 144)))) fun S => BX10_readLine_188 x (nI (kS sg)) S := by
  cases sg with
  | true =>
    show BX10_readLine_56 x (nI 1) T = _
    unfold BX10_readLine_56
    rw [if_neg (by decide)]
    unfold BX10_readLine_67
    rw [pz_0, up_at, if_pos rfl]; rfl
  | false =>
    show BX10_readLine_56 x (nI 2) T = _
    unfold BX10_readLine_56
    rw [if_pos (by decide)]
    unfold BX10_readLine_67
    rw [pz_1, up_at, if_neg (by decide)]; rfl
theorem dn_bit (sg : Bool) (sX fX : Option (List Nat)) : ((nI (kS sg) &&& nI (dn sX fX)) = 0 ↔ wS sg sX fX = none) := by
  cases sg <;> cases sX <;> cases fX <;> unfold kS dn wS <;> simp <;> decide
theorem dn_or (sg : Bool) (sX fX : Option (List Nat)) (A : List Nat) (h : wS sg sX fX = none) : nI (dn sX fX) ||| nI (kS sg) = nI (dn (if sg then some A else sX) (if sg then fX else some A)) := by
  cases sg <;> cases sX <;> cases fX <;> first | (cases h; done) | (unfold dn kS; simp; decide)
def LR2 (B : Nat → Nat) (n d : Nat) (S T : St) (p : Nat) (x : Int32) (S' T' : St) : Prop := cD d S S' ∧ mD T T' ∧ ((∃ c q, JE B n d S' T' c q) ∨ ∃ p' F' P' N' sX' fX' e1' e2', LC B n d S' T' p' F' P' N' sX' fX' e1' e2' ∧ tS B n p < tS B n p' ∧ x = nI (dn sX' fX'))
theorem J_rule (sg : Bool) (h : LC B n d S T p F P N sX fX e1 e2) (hk : tK B n p ≠ 0) : ∃ S' x T', fX6_ruleLine (if sg then d + 11 else d + 13) (b2i sg) S = some S' ∧ mRule sg (nI (dn sX fX)) T = some (x, T') ∧ LR2 B n d S T p x S' T' := by
  have hd := h.hd
  have tk := tK_adv hk
  obtain ⟨⟨hF, hP, hN⟩, ⟨s0, s1, s2⟩, ⟨t5, t6, t7⟩, dF, dP, dS, dO, dR1, dR2⟩ := id h.2.1
  have he1 := h.2.2.1
  have he2 := h.2.2.2
  have n7 := h.1.2.1.1
  have sn := tS_le (B := B) h.1.1.2.2
  have kpos : ¬ nI (kS sg) ≤ (0 : Int32) := by cases sg <;> decide
  have e41 : ∀ T1 : St, BX10_readLine_41 (nI (dn sX fX)) (nI (kS sg)) T1 = if T1 142 24 = 0 then bv (fX10_stepOn T1) fun S => BX10_readLine_56 (nI (dn sX fX)) (nI (kS sg)) S else BX10_readLine_56 (nI (dn sX fX)) (nI (kS sg)) T1 := by
    intro T1
    unfold BX10_readLine_41
    rw [if_neg kpos]
  generalize hrid : (if sg then d + 11 else d + 13) = rid
  have hI : RuI rid (d + 10) := by
    rw [← hrid]; unfold RuI
    cases sg <;> rcases hd with rfl | rfl <;> decide
  have hRU : ∃ e, RU d rid sg S T (wS sg sX fX) e := by
    rw [← hrid]
    cases sg with
    | true => exact ⟨e1, dR1⟩
    | false => exact ⟨e2, dR2⟩
  obtain ⟨e0, hR3, hRX⟩ := hRU
  unfold mRule BX10_readLine_29
  cases hX : wS sg sX fX with
  | some A =>
    rw [hX] at hRX
    obtain ⟨je, lr⟩ := h.flt (p0 := p) (c := 5) (by decide) (by decide) cD.rf mD.rf
    obtain ⟨lc, lm, lo⟩ := lr
    have nz : ¬ (nI (kS sg) &&& nI (dn sX fX)) = 0 := fun z => by rw [(dn_bit sg sX fX).mp z] at hX; cases hX
    unfold fX6_ruleLine
    rw [if_neg (by rw [hRX.1]; decide), show (5 : Int32) = nI 5 from rfl, c_refuse h.1, bd_s, if_neg nz, m_wrong h.1, bv_s, e41, if_neg je.mb, e56]
    have mb2 : ¬ up (up (wrT B n p 5 T) 142 27 (b2i (!sg))) 142 2 (nI (if sg then 143 else 144)) 142 24 = 0 := by rw [up_off (by decide), up_off (by decide)]; exact je.mb
    rw [show fX10_readExpression 8 0 _ = _ from expr_bad (n := 7) (a := 0) mb2, bv_s]
    unfold BX10_readLine_188
    rw [mark_bad mb2, bv_s]
    exact ⟨_, _, _, rfl, rfl, lc, (lm.up (by omega)).up (by omega), Or.inl ⟨5, p, je.go rfl (by rw [up_off (by decide), up_off (by decide)]) (by rw [up_off (by decide), up_off (by decide)])⟩⟩
  | none =>
    rw [hX] at hRX
    obtain ⟨hR0, he0, hRT⟩ := hRX
    obtain ⟨S1, T1, a1, b1, h1, f1, g1⟩ := h.step
    have c1 : cD d S S1 := cD.rf.a f1
    have m1 : mD T T1 := mD.rf.s g1
    unfold fX6_ruleLine
    rw [if_pos hR0, h.pass a1, bv_s, gm_v h1.d32 hd, if_pos ((dn_bit sg sX fX).mpr hX), e41, h.ok24, if_pos rfl, b1, bv_s, e56]
    generalize hT2 : up (up T1 142 27 (b2i (!sg))) 142 2 (nI (if sg then 143 else 144)) = T2
    have t2c : ∀ a, a ≠ 142 → T2 a = T1 a := fun a q => by rw [← hT2, up_ne q, up_ne q]
    have t2j : ∀ j, j ≠ 2 → j ≠ 27 → T2 142 j = T1 142 j := fun j q1 q2 => by rw [← hT2, up_off q1, up_off q2]
    have m2 : mD T T2 := by rw [← hT2]; exact (m1.up (by omega)).up (by omega)
    obtain ⟨-, ⟨s0', s1', s2'⟩, ⟨t5', t6', t7'⟩, dF', dP', dS', dO', dR1', dR2'⟩ := id h1.2.1
    generalize hE : (if e1 < e2 then e2 else e1) = E
    have eE : e1 ≤ E ∧ e2 ≤ E ∧ E ≤ tS B n p := by rw [← hE]; split <;> omega
    have ecd : fX8_codeEnd d S1 = some (nI E, S1) := by
      unfold fX8_codeEnd fX3_end
      rw [srv12 hd, ri_s, bd_s, srv13 hd, ri_s, bd_s, dR1'.1, dR2'.1, vl_s, ← hE]
      by_cases c : e1 < e2
      · rw [if_pos (nI_lt c (by omega)), if_pos c]; rfl
      · rw [if_neg (nI_nlt (by omega) (by omega)), if_neg c]; rfl
    rw [ecd, bd_s]
    have tb : tS B n p ≤ tS B n (tE B n p) := Nat.le_of_lt tk
    have hB : BM B n sg T2 := ⟨h1.1.2.2.1.go (t2c 157 (by decide)), by rw [← hT2, up_off (by decide), up_at], by rw [← hT2, up_at]⟩
    have hMF : MF B n sg T2 T2 (tE B n p) [] := by
      refine ⟨h1.1.1.2.1.go (fun j q1 q2 => t2j j (by omega) (by omega)), h1.1.1.2.2, ?_, fun j hj => absurd hj (by show ¬ j < 0; omega), eFr.rf⟩
      rw [t2c 145 (by decide), g1.1 145 (by decide), hRT]; rfl
    obtain ⟨o, ⟨T3, e3, q1⟩, q2, q3⟩ := J_expr hB 8 0 (by decide) (by decide) 31 (Or.inl (by decide)) T2 (tE B n p) [] hMF (by show 0 ≤ _; omega)
    obtain ⟨⟨x5, S3⟩, e4, r⟩ := C_read (E := E) hI h1.1.2.1 h1.1.1.1 h1.1.1.2.2 (by omega) q2
    have e3' : fX10_readExpression 8 0 T2 = some T3 := e3
    rw [e4, bd_s, e3', bv_s]
    have cfr : ∀ S4, rFr rid (d + 10) E S1 S4 → cD d S S4 := fun S4 q => c1.tr (fun a z1 z2 => q.1 a (by omega) (by omega) (by omega) (by rw [← hrid]; cases sg <;> (simp only [Bool.false_eq_true, if_false, if_true]; omega)) (by omega))
    have nr32 : rid ≠ 32 ∧ rid ≠ 1 := by have q := hI; unfold RuI at q; omega
    -- a fault
    have bad : ∀ (c q : Nat) (T4 : St), 1 ≤ c → c ≤ 5 → q ≤ n → x5 = nI c → S3 33 4 = nI (tS B n q) → rFr rid (d + 10) E S1 S3 → T4 142 24 = nI c → T4 142 25 = nI (tS B n q) → mD T T4 → ∃ S' x T', (if x5 = 0 then BX6_ruleLine_45 S3 else bd (fX6_refuse x5 S3) fun x7 S => BX6_ruleLine_45 S) = some S' ∧ (some (nI (dn sX fX) ||| nI (kS sg), T4) : Option (Int32 × St)) = some (x, T') ∧ LR2 B n d S T p x S' T' := by
      intro c q T4 h1' h5 hq hx h33 hf t24 t25 hm4
      have s32 : S3 32 = S1 32 := hf.1 32 (by decide) (by decide) (by decide) (by omega) (by omega)
      have er : fX6_refuse x5 S3 = some (0, up (up S3 32 3 (nI c)) 32 4 (nI (tS B n q))) := by
        unfold fX6_refuse
        rw [s32, h1.ok3, if_pos rfl, hx, pf_s, pf_s, up_ne (by decide), h33]; rfl
      have je : JE B n d (up (up S3 32 3 (nI c)) 32 4 (nI (tS B n q))) T4 c q := ⟨by rw [up_off (by decide), up_off (by decide), s32]; exact h1.d32, by rw [up_off (by decide), up_at], up_at, t24, t25, h1', h5, hq⟩
      rw [if_neg (by rw [hx]; exact nI_ne0 (by omega) (by omega)), er, bd_s]
      unfold BX6_ruleLine_45
      rw [c_passEnd_bad je.cb, bv_s]
      exact ⟨_, _, _, rfl, rfl, ((cfr S3 hf).up (by omega)).up (by omega), hm4, Or.inl ⟨c, q, je⟩⟩
    have eFm : ∀ T4, eFr sg T2 T4 → mD T T4 := by
      intro T4 ⟨z1, z2, z3, z4⟩
      refine m2.tr ⟨fun a ha => z1 a (by omega) (by omega) (by have := sgc_b sg; omega), fun a ha => z1 a (by omega) (by omega) (by have := sgc_b sg; omega), fun j w1 w2 w3 => z2 j (by omega), fun j hj => z3 j (by cases sg <;> (unfold whs; simp only [Bool.false_eq_true, if_false, if_true]; omega)), fun j hj => ?_, fun j hj => ?_, fun j hj => ?_, fun j hj => ?_, fun j hj => ?_, fun j hj => ?_⟩
      · have b := sgc_b sg
        rw [z1 146 (by decide) (by decide) (by omega), z1 147 (by decide) (by decide) (by omega), z1 153 (by decide) (by decide) (by omega)]; exact ⟨rfl, rfl, rfl⟩
      · have b := sgc_b sg; rw [z1 148 (by decide) (by decide) (by omega)]
      · have b := sgc_b sg; rw [z1 149 (by decide) (by decide) (by omega)]
      · have b := sgc_b sg; rw [z1 150 (by decide) (by decide) (by omega)]
      · have b := sgc_b sg; rw [z1 151 (by decide) (by decide) (by omega), z1 152 (by decide) (by decide) (by omega)]; exact ⟨rfl, rfl⟩
      · cases sg with
        | true => exact ⟨z4 j hj, by rw [z1 155 (by decide) (by decide) (by decide)]⟩
        | false => exact ⟨by rw [z1 154 (by decide) (by decide) (by decide)], z4 j hj⟩
    unfold BX10_readLine_188
    cases o with
    | inl e =>
      have q1' : ME B n sg T2 T3 e.1 e.2 := q1
      obtain ⟨r1, r2, r3⟩ := r
      rw [mark_bad q1'.bad, bv_s, ri_s]
      exact bad e.1 e.2 T3 q1'.2.1 q1'.2.2.1 q1'.2.2.2.2.1 r1 r2 r3 q1'.1 q1'.2.2.2.1 (eFm T3 q1'.2.2.2.2.2)
    | inr w =>
      have q1' : MF B n sg T2 T3 w.1 ([] ++ w.2) := q1
      rw [List.nil_append] at q1'
      obtain ⟨T4, e5, m5⟩ := q1'.mark hB (c := 59) (by omega)
      have e5' : fX10_mark 59 T3 = some T4 := e5
      rw [e5', bv_s, ri_s]
      rcases r with ⟨k59, r1, r2, r3, r4, r5, r6, r7, r8, r9⟩ | ⟨k59, r1, r2, r3⟩
      · rcases m5 with ⟨-, m5⟩ | ⟨k, -⟩
        · have r1' : x5 = 0 := r1
          have r2' : S3 rid 0 = 1 := r2
          have r9 : rFr rid (d + 10) E S1 S3 := r9
          have r4' : CT B n S3 w.1 := r4
          have s32 : S3 32 = S1 32 := r9.1 32 (by decide) (by decide) (by decide) (by omega) (by omega)
          have hT3 : TC B n S3 := h1.1.2.1.go (r9.1 1 (by decide) (by decide) (by decide) (by omega) (by omega))
          have kw := tK_adv (B := B) (n := n) (p := w.1) (by omega)
          obtain ⟨S5, a5, ct5, f5⟩ := C_adv hT3 r4'.1 r4'.2.1 (tE_le (B := B) r5)
          have epE : fX6_passEnd S3 = some S5 := by
            unfold fX6_passEnd BX6_passEnd_25
            rw [s32, h1.ok3, if_pos rfl, r4'.2.2.1, if_pos (by rw [k59]; rfl), c_pass (by rw [s32]; exact h1.ok3) a5, bv_s]
          rw [if_pos r1']
          unfold BX6_ruleLine_45
          rw [epE, bv_s, dn_or sg sX fX w.2 hX]
          obtain ⟨x1, x2, x3, x4⟩ := q3
          have hnr := hI.n
          have s5 : ∀ a, a ≠ 33 → S5 a = S3 a := f5
          refine ⟨_, _, _, rfl, rfl, (cfr S3 r9).a f5, eFm T4 m5.2.2.2.2, Or.inr ⟨tE B n w.1, F, P, N, (if sg then some w.2 else sX), (if sg then fX else some w.2), (if sg then E + (cC w.2).length else e1), (if sg then e2 else E + (cC w.2).length), ⟨⟨⟨ct5, m5.1, tE_le r5⟩, hT3.go (f5 1 (by decide)), m5.tm hB, by rw [f5 32 (by decide), s32]; exact h1.d32, by rw [f5 32 (by decide), s32]; exact h1.ok3, hd, by rw [f5 32 (by decide), s32]; exact h1.1.2.2.2.2.2.2⟩, ?_, ?_, ?_⟩, ?_, rfl⟩⟩
          · have b := sgc_b sg
            have cc : ∀ a, d ≤ a → a ≤ d + 13 → a ≠ rid → a ≠ d + 10 → S5 a = S1 a := fun a z1 z2 z3 z4 => by rw [f5 a (by omega), r9.1 a (by omega) (by omega) (by omega) z3 z4]
            have mm : ∀ a, 145 ≤ a → a ≤ 155 → a ≠ 145 → a ≠ sgc sg → T4 a = T1 a := fun a z1 z2 z3 z4 => by rw [m5.2.2.2.2.1 a (by omega) z3 z4, t2c a (by omega)]
            have t145 : ∀ j, j ≠ whs sg → T4 145 j = T1 145 j := fun j hj => by rw [m5.2.2.2.2.2.2.1 j hj, t2c 145 (by decide)]
            have nw : whs sg = 8 ∨ whs sg = 9 := by cases sg <;> decide
            have nrd : rid = d + 11 ∨ rid = d + 13 := by rw [← hrid]; cases sg <;> simp
            have own : RU d rid sg S5 T4 (some w.2) (E + (cC w.2).length) := by
              have r33 : rid ≠ 33 := by omega
              refine ⟨by rw [s5 rid r33]; exact r6, by rw [s5 rid r33]; exact r2', ⟨E, by rw [s5 rid r33]; exact r3, rfl, r7.go (s5 (d + 10) (by omega))⟩, m5.2.2.1, m5.2.2.2.1, x3, x4, x2, ?_⟩
              have : tS B n (tE B n p) + w.2.length ≤ tS B n w.1 := x1
              have := tS_le (B := B) r5
              omega
            refine ⟨⟨hF, hP, hN⟩, ⟨by rw [cc d (by omega) (by omega) (by omega) (by omega)]; exact s0', by rw [cc d (by omega) (by omega) (by omega) (by omega)]; exact s1', by rw [cc d (by omega) (by omega) (by omega) (by omega)]; exact s2'⟩, ⟨by rw [t145 5 (by omega)]; exact t5', by rw [t145 6 (by omega)]; exact t6', by rw [t145 7 (by omega)]; exact t7'⟩, ?_, ?_, ?_, ?_, ?_, ?_⟩
            · unfold RDf at dF' ⊢
              rw [cc (d + 1) (by omega) (by omega) (by omega) (by omega), cc (d + 2) (by omega) (by omega) (by omega) (by omega), cc (d + 3) (by omega) (by omega) (by omega) (by omega), mm 146 (by omega) (by omega) (by omega) (by omega), mm 147 (by omega) (by omega) (by omega) (by omega), mm 148 (by omega) (by omega) (by omega) (by omega)]
              exact dF'
            · unfold RDp at dP' ⊢
              rw [cc (d + 4) (by omega) (by omega) (by omega) (by omega), cc (d + 5) (by omega) (by omega) (by omega) (by omega), mm 149 (by omega) (by omega) (by omega) (by omega)]
              exact dP'
            · unfold RDs at dS' ⊢
              rw [cc (d + 6) (by omega) (by omega) (by omega) (by omega), cc (d + 7) (by omega) (by omega) (by omega) (by omega), cc (d + 8) (by omega) (by omega) (by omega) (by omega), mm 151 (by omega) (by omega) (by omega) (by omega), mm 150 (by omega) (by omega) (by omega) (by omega), mm 152 (by omega) (by omega) (by omega) (by omega)]
              exact dS'
            · unfold RDo at dO' ⊢
              rw [cc (d + 9) (by omega) (by omega) (by omega) (by omega), mm 153 (by omega) (by omega) (by omega) (by omega)]
              exact dO'
            · cases sg with
              | true => have e : d + 11 = rid := hrid; rw [e]; exact own
              | false =>
                have e : d + 13 = rid := hrid
                exact dR1'.go2 eE.1 (cc _ (by omega) (by omega) (by omega) (by omega)) (fun j hj => by rw [s5 _ (by omega)]; exact r9.2 j hj) (t145 8 (by decide)) (fun j _ => by rw [show sgc true = 154 from rfl, mm 154 (by omega) (by omega) (by omega) (by decide)])
            · cases sg with
              | true =>
                have e : d + 11 = rid := hrid
                exact dR2'.go2 eE.2.1 (cc _ (by omega) (by omega) (by omega) (by omega)) (fun j hj => by rw [s5 _ (by omega)]; exact r9.2 j hj) (t145 9 (by decide)) (fun j _ => by rw [show sgc false = 155 from rfl, mm 155 (by omega) (by omega) (by omega) (by decide)])
              | false => have e : d + 13 = rid := hrid; rw [e]; exact own
          · have x1' : tS B n (tE B n p) + w.2.length ≤ tS B n w.1 := x1
            have r8' : E + (cC w.2).length ≤ tS B n w.1 := r8
            cases sg with
            | true => show E + (cC w.2).length ≤ _; omega
            | false => show e1 ≤ _; omega
          · have x1' : tS B n (tE B n p) + w.2.length ≤ tS B n w.1 := x1
            have r8' : E + (cC w.2).length ≤ tS B n w.1 := r8
            cases sg with
            | true => show e2 ≤ _; omega
            | false => show E + (cC w.2).length ≤ _; omega
          · have x1' : tS B n (tE B n p) + w.2.length ≤ tS B n w.1 := x1
            omega
        · exact absurd k59 k
      · rcases m5 with ⟨k, -⟩ | ⟨-, m5⟩
        · exact absurd k k59
        · exact bad 1 w.1 T4 (by decide) (by decide) m5.2.2.2.2.1 r1 r2 r3 m5.1 m5.2.2.2.1 (eFm T4 m5.2.2.2.2.2)
end RL
