/-! what the text has told so far, in class and reference -/
def RDf (d : Nat) (S T : St) (F : Nat) : Prop := ∀ f, f < F → (∃ a, 1 ≤ a ∧ a ≤ 99 ∧ S (d + 1) f = nI a ∧ T 146 (8 + f) = nI a) ∧ ∃ m, m ≤ 6 ∧ S (d + 2) f = nI m ∧ T 147 (8 + f) = nI m ∧ ∀ i, i < m → S (d + 3) (f * 6 + i) = T 148 (6 * (8 + f) + i)
def RDp (d : Nat) (S T : St) (F : Nat) : Prop := ∃ w : Nat → Nat → Nat, (∀ a b, w a b ≤ 20 ∧ w a b = w b a ∧ (w a b ≠ 0 → a < F ∧ b < F ∧ a ≠ b)) ∧ ∀ a, a < 8 → S (d + 4) a = nI (hbits (fun k => decide (w a k ≠ 0)) 8) ∧ ∀ b, b < 8 → S (d + 5) (a * 8 + b) = nI (if w a b = 0 then 1000000 else w a b) ∧ T 149 (64 + 8 * a + b) = nI (w a b)
def RDs (d : Nat) (S T : St) (F N : Nat) : Prop := ∀ s, s < N → (∃ w, 1 ≤ w ∧ w ≤ 6 ∧ S (d + 6) s = nI w ∧ T 151 (6 + s) = nI w ∧ ∀ i, i < w → ∃ f, f < F ∧ S (d + 7) (s * 6 + i) = nI f ∧ T 150 (6 * (6 + s) + i) = nI f) ∧ ∃ k, k < 2 ^ F ∧ S (d + 8) s = nI k ∧ T 152 (6 + s) = nI k
def RDo (d : Nat) (S T : St) (F N : Nat) : Prop := (∀ f, f < F → (S (d + 9) f = -1 ∧ T 153 (8 + f) = -1) ∨ ∃ s, s < N ∧ S (d + 9) f = nI s ∧ T 153 (8 + f) = nI s) ∧ ∀ f, F ≤ f → f < 8 → S (d + 9) f = -1
def RU (d rid : Nat) (sg : Bool) (S T : St) (X : Option (List Nat)) (e : Nat) : Prop := S rid 3 = nI e ∧ match X with
  | none => S rid 0 = 0 ∧ e = 0 ∧ T 145 (whs sg) = 0
  | some A => S rid 0 = 1 ∧ (∃ f, S rid 2 = nI f ∧ e = f + (cC A).length ∧ Ou S (d + 10) f (cC A)) ∧ T 145 (whs sg) = nI A.length ∧ (∀ j, j < A.length → T (sgc sg) (700 + j) = toM (A.getD j 0)) ∧ Sem 31 A ∧ (∀ x ∈ A, aOk x) ∧ 1 ≤ A.length ∧ A.length ≤ 700
def RD (d : Nat) (S T : St) (F P N : Nat) (sX fX : Option (List Nat)) (e1 e2 : Nat) : Prop := (F ≤ 8 ∧ P ≤ 14 ∧ N ≤ 6) ∧ (S d 0 = nI F ∧ S d 1 = nI P ∧ S d 2 = nI N) ∧ (T 145 5 = nI F ∧ T 145 6 = nI P ∧ T 145 7 = nI N) ∧ RDf d S T F ∧ RDp d S T F ∧ RDs d S T F N ∧ RDo d S T F N ∧ RU d (d + 11) true S T sX e1 ∧ RU d (d + 13) false S T fX e2
/-- places of the data that are told -/
def aC (d F N : Nat) (S S' : St) : Prop := (∀ j, j < 3 → S' d j = S d j) ∧ (∀ f, f < F → S' (d + 1) f = S (d + 1) f ∧ S' (d + 2) f = S (d + 2) f) ∧ (∀ j, j < 6 * F → S' (d + 3) j = S (d + 3) j) ∧ (S' (d + 4) = S (d + 4) ∧ S' (d + 5) = S (d + 5)) ∧ (∀ s, s < N → S' (d + 6) s = S (d + 6) s ∧ S' (d + 8) s = S (d + 8) s) ∧ (∀ j, j < 6 * N → S' (d + 7) j = S (d + 7) j) ∧ S' (d + 9) = S (d + 9) ∧ S' (d + 10) = S (d + 10) ∧ S' (d + 11) = S (d + 11) ∧ S' (d + 13) = S (d + 13)
def aM (F N : Nat) (T T' : St) : Prop := (∀ j, 5 ≤ j → j < 10 → T' 145 j = T 145 j) ∧ (∀ f, f < F → T' 146 (8 + f) = T 146 (8 + f) ∧ T' 147 (8 + f) = T 147 (8 + f) ∧ T' 153 (8 + f) = T 153 (8 + f)) ∧ (∀ j, 48 ≤ j → j < 48 + 6 * F → T' 148 j = T 148 j) ∧ (∀ j, 64 ≤ j → T' 149 j = T 149 j) ∧ (∀ s, s < N → T' 151 (6 + s) = T 151 (6 + s) ∧ T' 152 (6 + s) = T 152 (6 + s)) ∧ (∀ j, 36 ≤ j → j < 36 + 6 * N → T' 150 j = T 150 j) ∧ ∀ j, 700 ≤ j → T' 154 j = T 154 j ∧ T' 155 j = T 155 j
theorem RU.go {d rid e : Nat} {sg : Bool} {S T S' T' : St} {X : Option (List Nat)} (h : RU d rid sg S T X e) (h1 : S' rid = S rid) (h2 : S' (d + 10) = S (d + 10)) (h3 : T' 145 (whs sg) = T 145 (whs sg)) (h4 : ∀ j, 700 ≤ j → T' (sgc sg) j = T (sgc sg) j) : RU d rid sg S' T' X e := by
  obtain ⟨h0, h⟩ := h
  refine ⟨by rw [h1]; exact h0, ?_⟩
  cases X with
  | none => exact ⟨by rw [h1]; exact h.1, h.2.1, by rw [h3]; exact h.2.2⟩
  | some A =>
    obtain ⟨q1, ⟨f, q2, q3, q4⟩, q5, q6, q7⟩ := h
    exact ⟨by rw [h1]; exact q1, ⟨f, by rw [h1]; exact q2, q3, q4.go h2⟩, by rw [h3]; exact q5, fun j hj => by rw [h4 _ (by omega)]; exact q6 j hj, q7⟩
theorem RD.ag {d : Nat} {S T S' T' : St} {F P N e1 e2 : Nat} {sX fX : Option (List Nat)} (h : RD d S T F P N sX fX e1 e2) (hc : aC d F N S S') (hm : aM F N T T') : RD d S' T' F P N sX fX e1 e2 := by
  obtain ⟨hb, ⟨s0, s1, s2⟩, ⟨t5, t6, t7⟩, dF, ⟨w, w1, w2⟩, dS, dO, dR1, dR2⟩ := h
  obtain ⟨c1, c2, c3, ⟨c4, c5⟩, c6, c7, c9, c10, c11, c13⟩ := hc
  obtain ⟨m1, m2, m3, m4, m5, m6, m7⟩ := hm
  have hF := hb.1
  have hN := hb.2.2
  refine ⟨hb, ⟨by rw [c1 0 (by decide)]; exact s0, by rw [c1 1 (by decide)]; exact s1, by rw [c1 2 (by decide)]; exact s2⟩, ⟨by rw [m1 5 (by decide) (by decide)]; exact t5, by rw [m1 6 (by decide) (by decide)]; exact t6, by rw [m1 7 (by decide) (by decide)]; exact t7⟩, fun f hf => ?_, ⟨w, w1, fun a ha => ⟨by rw [c4]; exact (w2 a ha).1, fun b hb => ⟨by rw [c5]; exact ((w2 a ha).2 b hb).1, by rw [m4 _ (by omega)]; exact ((w2 a ha).2 b hb).2⟩⟩⟩, fun s hs => ?_, ⟨fun f hf => ?_, fun f h1 h2 => by rw [c9]; exact dO.2 f h1 h2⟩, dR1.go c11 c10 (m1 8 (by decide) (by decide)) (fun j hj => (m7 j hj).1), dR2.go c13 c10 (m1 9 (by decide) (by decide)) (fun j hj => (m7 j hj).2)⟩
  · obtain ⟨⟨a, a1, a2, a3, a4⟩, m, q1, q2, q3, q4⟩ := dF f hf
    refine ⟨⟨a, a1, a2, by rw [(c2 f hf).1]; exact a3, by rw [(m2 f hf).1]; exact a4⟩, m, q1, by rw [(c2 f hf).2]; exact q2, by rw [(m2 f hf).2.1]; exact q3, fun i hi => ?_⟩
    rw [c3 _ (by omega), m3 _ (by omega) (by omega)]; exact q4 i hi
  · obtain ⟨⟨x, x1, x2, x3, x4, x5⟩, k, k1, k2, k3⟩ := dS s hs
    refine ⟨⟨x, x1, x2, by rw [(c6 s hs).1]; exact x3, by rw [(m5 s hs).1]; exact x4, fun i hi => ?_⟩, k, k1, by rw [(c6 s hs).2]; exact k2, by rw [(m5 s hs).2]; exact k3⟩
    obtain ⟨f, f1, f2, f3⟩ := x5 i hi
    exact ⟨f, f1, by rw [c7 _ (by omega)]; exact f2, by rw [m6 _ (by omega) (by omega)]; exact f3⟩
  · rw [c9, (m2 f hf).2.2]; exact dO.1 f hf
theorem aC.rf {d F N : Nat} {S : St} : aC d F N S S := ⟨fun _ _ => rfl, fun _ _ => ⟨rfl, rfl⟩, fun _ _ => rfl, ⟨rfl, rfl⟩, fun _ _ => ⟨rfl, rfl⟩, fun _ _ => rfl, rfl, rfl, rfl, rfl⟩
theorem aC.eq {d F N : Nat} {S S' : St} (h : ∀ a, d ≤ a → a ≤ d + 13 → S' a = S a) : aC d F N S S' := by
  refine ⟨fun _ _ => by rw [h d (by omega) (by omega)], fun _ _ => ⟨by rw [h _ (by omega) (by omega)], by rw [h _ (by omega) (by omega)]⟩, fun _ _ => by rw [h _ (by omega) (by omega)], ⟨h _ (by omega) (by omega), h _ (by omega) (by omega)⟩, fun _ _ => ⟨by rw [h _ (by omega) (by omega)], by rw [h _ (by omega) (by omega)]⟩, fun _ _ => by rw [h _ (by omega) (by omega)], h _ (by omega) (by omega), h _ (by omega) (by omega), h _ (by omega) (by omega), h _ (by omega) (by omega)⟩
theorem aM.eq {F N : Nat} {T T' : St} (h : ∀ a, 145 ≤ a → a ≤ 155 → T' a = T a) : aM F N T T' := by
  refine ⟨fun _ _ _ => by rw [h 145 (by omega) (by omega)], fun _ _ => ⟨by rw [h 146 (by omega) (by omega)], by rw [h 147 (by omega) (by omega)], by rw [h 153 (by omega) (by omega)]⟩, fun _ _ _ => by rw [h 148 (by omega) (by omega)], fun _ _ => by rw [h 149 (by omega) (by omega)], fun _ _ => ⟨by rw [h 151 (by omega) (by omega)], by rw [h 152 (by omega) (by omega)]⟩, fun _ _ _ => by rw [h 150 (by omega) (by omega)], fun _ _ => ⟨by rw [h 154 (by omega) (by omega)], by rw [h 155 (by omega) (by omega)]⟩⟩
theorem aC.tr {d F N : Nat} {S T U : St} (h : aC d F N S T) (g : aC d F N T U) : aC d F N S U := by
  obtain ⟨a1, a2, a3, ⟨a4, a5⟩, a6, a7, a8, a9, a10, a11⟩ := h
  obtain ⟨b1, b2, b3, ⟨b4, b5⟩, b6, b7, b8, b9, b10, b11⟩ := g
  exact ⟨fun j hj => (b1 j hj).trans (a1 j hj), fun j hj => ⟨(b2 j hj).1.trans (a2 j hj).1, (b2 j hj).2.trans (a2 j hj).2⟩, fun j hj => (b3 j hj).trans (a3 j hj), ⟨b4.trans a4, b5.trans a5⟩, fun j hj => ⟨(b6 j hj).1.trans (a6 j hj).1, (b6 j hj).2.trans (a6 j hj).2⟩, fun j hj => (b7 j hj).trans (a7 j hj), b8.trans a8, b9.trans a9, b10.trans a10, b11.trans a11⟩
theorem aM.tr {F N : Nat} {S T U : St} (h : aM F N S T) (g : aM F N T U) : aM F N S U := by
  obtain ⟨a1, a2, a3, a4, a5, a6, a7⟩ := h
  obtain ⟨b1, b2, b3, b4, b5, b6, b7⟩ := g
  exact ⟨fun j h1 h2 => (b1 j h1 h2).trans (a1 j h1 h2), fun j hj => ⟨(b2 j hj).1.trans (a2 j hj).1, (b2 j hj).2.1.trans (a2 j hj).2.1, (b2 j hj).2.2.trans (a2 j hj).2.2⟩, fun j h1 h2 => (b3 j h1 h2).trans (a3 j h1 h2), fun j hj => (b4 j hj).trans (a4 j hj), fun j hj => ⟨(b5 j hj).1.trans (a5 j hj).1, (b5 j hj).2.trans (a5 j hj).2⟩, fun j h1 h2 => (b6 j h1 h2).trans (a6 j h1 h2), fun j hj => ⟨(b7 j hj).1.trans (a7 j hj).1, (b7 j hj).2.trans (a7 j hj).2⟩⟩
def LC (B : Nat → Nat) (n d : Nat) (S T : St) (p F P N : Nat) (sX fX : Option (List Nat)) (e1 e2 : Nat) : Prop := JW B n d S T p ∧ RD d S T F P N sX fX e1 e2 ∧ e1 ≤ tS B n p ∧ e2 ≤ tS B n p
def LR (B : Nat → Nat) (n d : Nat) (S T : St) (p : Nat) (sX fX : Option (List Nat)) (e1 e2 : Nat) (S' T' : St) : Prop := cD d S S' ∧ mD T T' ∧ ((∃ c q, JE B n d S' T' c q) ∨ ∃ p' F' P' N', LC B n d S' T' p' F' P' N' sX fX e1 e2 ∧ tS B n p < tS B n p')
section LN
variable {B : Nat → Nat} {n d p F P N e1 e2 : Nat} {S T : St} {sX fX : Option (List Nat)}
theorem LC.step (h : LC B n d S T p F P N sX fX e1 e2) : ∃ S' T', fX7_advance S = some S' ∧ fX10_stepOn T = some T' ∧ LC B n d S' T' (tE B n p) F P N sX fX e1 e2 ∧ (∀ a, a ≠ 33 → S' a = S a) ∧ sFr T T' := by
  obtain ⟨hJ, hD, h1, h2⟩ := h
  have hd := hJ.2.2.2.2.2.1
  obtain ⟨S', T', a1, b1, j1, f1, g1⟩ := hJ.step
  have t1 := tE_ge (B := B) (n := n) (p := p)
  have t2 := tS_ge (B := B) (n := n) (p := tE B n p)
  exact ⟨S', T', a1, b1, ⟨j1, hD.ag (aC.eq (fun a q1 q2 => f1 a (by omega))) (aM.eq (fun a q1 q2 => g1.1 a (by omega))), by omega, by omega⟩, f1, g1⟩
theorem LC.pass {S' : St} (h : LC B n d S T p F P N sX fX e1 e2) (e : fX7_advance S = some S') : fX6_pass S = some S' := c_pass h.1.2.2.2.2.1 e
theorem LC.ok24 (h : LC B n d S T p F P N sX fX e1 e2) : T 142 24 = 0 := h.1.1.2.1.2.2.2.2.2.2
theorem LC.ok3 (h : LC B n d S T p F P N sX fX e1 e2) : S 32 3 = 0 := h.1.2.2.2.2.1
theorem LC.d32 (h : LC B n d S T p F P N sX fX e1 e2) : S 32 2 = nI d := h.1.2.2.2.1
theorem LC.hd (h : LC B n d S T p F P N sX fX e1 e2) : d = 2 ∨ d = 17 := h.1.2.2.2.2.2.1
/-- a fault at the token from p -/
theorem LC.flt {S0 T0 : St} {p0 c : Nat} (h : LC B n d S T p F P N sX fX e1 e2) (c1 : 1 ≤ c) (c5 : c ≤ 5) (hc : cD d S0 S) (hm : mD T0 T) : JE B n d (flt B n p c S) (wrT B n p c T) c p ∧ LR B n d S0 T0 p0 sX fX e1 e2 (flt B n p c S) (wrT B n p c T) := by
  have je := h.1.err c1 c5
  exact ⟨je, hc.tr (fun a q1 q2 => flt_c a (by omega)), hm.tr wrT_m, Or.inl ⟨c, p, je⟩⟩
theorem tK_adv (h : tK B n p ≠ 0) : tS B n p < tS B n (tE B n p) := Nat.lt_of_lt_of_le (tK_pos h).2 tS_ge
theorem cD.a {S0 S S' : St} (h : cD d S0 S) (f : ∀ a, a ≠ 33 → S' a = S a) : cD d S0 S' := h.tr (fun a q1 q2 => f a (by omega))
/-- knows -/
theorem J_knows (h : LC B n d S T p F P N sX fX e1 e2) (hk : tK B n p ≠ 0) : ∃ S' T', fX6_knowsLine S = some S' ∧ (bv (fX10_sayKnows T) fun S => fX10_mark 59 S) = some T' ∧ LR B n d S T p sX fX e1 e2 S' T' := by
  have hd := h.hd
  obtain ⟨S1, T1, a1, b1, h1, f1, g1⟩ := h.step
  have c1 : cD d S S1 := cD.rf.a f1
  have m1 : mD T T1 := mD.rf.s g1
  have tk := tK_adv hk
  unfold fX6_knowsLine fX10_sayKnows
  rw [h.pass a1, bv_s, h.ok24, if_pos rfl, b1, bv_s]
  unfold BX10_sayKnows_11 fX10_readOne
  obtain ⟨⟨hF, hP, hN⟩, ⟨s0, s1, s2⟩, ⟨t5, t6, t7⟩, -⟩ := id h1.2.1
  rw [c_sh h1.1 (by omega) s2, show fX10_oneNow 2 T1 = _ from m_one h1.1 (i := 2) rfl (by decide) (show N ≤ 8 by omega) t7]
  cases ho : oE B n N (tE B n p) with
  | some c =>
    obtain ⟨je, lr⟩ := h1.flt (p0 := p) (oE_some ho).1 (oE_some ho).2 c1 m1
    dsimp only
    rw [bd_s, c_pass_bad je.cb, bv_s, c_fh_bad hd je.1 je.cb, bd_s, if_neg je.cb]
    unfold BX6_knowsLine_47
    rw [c_pass_bad je.cb, bv_s, c_passEnd_bad je.cb, bv_s, if_neg je.cb, bd_s, if_neg je.mb, ri_s, bd_s, m_on_bad je.mb, bd_s, if_neg je.mb]
    unfold BX10_sayKnows_51
    rw [if_neg je.mb, bv_s, mark_bad je.mb]
    exact ⟨_, _, rfl, rfl, lr⟩
  | none =>
    obtain ⟨k2, -, sN⟩ := oE_none ho
    have tk1 := tK_adv (B := B) (n := n) (p := tE B n p) (by omega)
    obtain ⟨S2, T2, a2, b2, h2, f2, g2⟩ := h1.step
    have c2 : cD d S S2 := c1.a f2
    have m2 : mD T T2 := m1.s g2
    generalize tN B n (tE B n p) = s at sN
    dsimp only
    rw [bd_s, h1.pass a2, bv_s, bd_s, h1.ok24, if_pos rfl, b2, bv_s, ri_s, bd_s]
    obtain ⟨-, ⟨s0', s1', s2'⟩, ⟨t5', t6', t7'⟩, -, -, dS, -⟩ := id h2.2.1
    rw [c_fh h2.1 hF s0', show fX10_oneNow 0 T2 = _ from m_one h2.1 (i := 0) rfl (by decide) hF t5']
    cases ho2 : oE B n F (tE B n (tE B n p)) with
    | some c =>
      obtain ⟨je, lr⟩ := h2.flt (p0 := p) (oE_some ho2).1 (oE_some ho2).2 c2 m2
      dsimp only
      rw [bd_s, if_neg je.cb]
      unfold BX6_knowsLine_47
      rw [c_pass_bad je.cb, bv_s, c_passEnd_bad je.cb, bv_s, if_neg je.cb, bd_s, if_neg je.mb]
      unfold BX10_sayKnows_51
      rw [if_neg je.mb, bv_s, mark_bad je.mb]
      exact ⟨_, _, rfl, rfl, lr⟩
    | none =>
      obtain ⟨k3, -, fN⟩ := oE_none ho2
      have tk2 := tK_adv (B := B) (n := n) (p := tE B n (tE B n p)) (by omega)
      generalize tN B n (tE B n (tE B n p)) = f at fN
      obtain ⟨-, k, kF, ks, kt⟩ := dS s sN
      have hd2 := h2.d32
      dsimp only
      rw [bd_s, h2.ok3, if_pos rfl, gm_v hd2 hd, srv10 hd, rdv8 hd (by omega), ks, bd_s, h2.ok24, if_pos rfl, show (6 : Int32) = nI 6 from rfl, nI_add, rd152 (by omega), kt, M_isOf, bd_s]
      cases hb : bit (nI k) (nI f) with
      | true =>
        obtain ⟨je, lr⟩ := h2.flt (p0 := p) (c := 4) (by decide) (by decide) c2 m2
        rw [if_neg (fun z => by rw [bit_iff.mp z] at hb; cases hb), show (4 : Int32) = nI 4 from rfl, c_refuse h2.1, bd_s, if_pos rfl, if_neg (by decide), m_wrong h2.1, bv_s]
        unfold BX6_knowsLine_47 BX10_sayKnows_51
        rw [c_pass_bad je.cb, bv_s, c_passEnd_bad je.cb, bv_s, if_neg je.cb, if_neg je.mb, bv_s, mark_bad je.mb]
        exact ⟨_, _, rfl, rfl, lr⟩
      | false =>
        obtain ⟨S3, T3, a3, b3, h3, f3, g3⟩ := h2.step
        have c3 : cD d S S3 := c2.a f3
        have m3 : mD T T3 := m2.s g3
        rw [if_pos (bit_iff.mpr hb), if_pos (show (if false = true then (1 : Int32) else 0) = 0 from rfl)]
        unfold BX6_knowsLine_47 BX10_sayKnows_51
        have kt3 : T3 152 (6 + s) = nI k := by rw [g3.1 152 (by decide)]; exact kt
        have esh : ((1 : Int32) <<< (nI f &&& 31)) = nI (2 ^ f) := sh_N f (by omega)
        rw [h2.pass a3, bv_s, h2.ok24, if_pos rfl, b3, bv_s, vl_s, show (6 : Int32) = nI 6 from rfl, nI_add, rd152 (by omega), kt3, esh, or_N, wr152 (by omega), bv_s]
        have hJ4 : JW B n d S3 (up T3 152 (6 + s) (nI (k ||| 2 ^ f))) (tE B n (tE B n (tE B n p))) := h3.1.mv rfl rfl rfl (up_ne (by decide)) (fun j _ _ => by rw [up_ne (by decide)])
        obtain ⟨S5, T5, a5, b5, f5, m5, g5, -, r5⟩ := J_end hJ4
        rw [a5, bv_s, b5]
        have c5 : cD d S S5 := c3.tr (fun a q1 q2 => f5 a (by omega) (by omega))
        have m5' : mD T T5 := (m3.up (by omega)).tr m5
        rcases r5 with ⟨kE, j5, e32⟩ | je
        · have tk3 := tK_adv (B := B) (n := n) (p := tE B n (tE B n (tE B n p))) (by omega)
          rw [j5.2.2.2.2.1, if_pos rfl, gm_v j5.2.2.2.1 hd, srv10 hd, rdv8 hd (by omega)]
          have ks5 : S5 (d + 8) s = nI k := by rw [f5 _ (by omega) (by omega), f3 _ (by omega)]; exact ks
          rw [ks5, or_N, wrv8 hd (by omega)]
          refine ⟨_, _, rfl, rfl, c5.up (by omega), m5', Or.inr ⟨_, F, P, N, ⟨j5.mv (up_ne (by omega)) (up_ne (by omega)) (up_ne (by omega)) rfl (fun _ _ _ => rfl), ?_, ?_, ?_⟩, by omega⟩⟩
          · obtain ⟨hb', hs', ht', dF', dP', dS', dO', dR1', dR2'⟩ := id h3.2.1
            have cc : ∀ a, d ≤ a → a ≤ d + 13 → a ≠ d + 8 → up S5 (d + 8) s (nI (k ||| 2 ^ f)) a = S3 a := fun a q1 q2 q3 => by rw [up_ne q3]; exact f5 a (by omega) (by omega)
            have mm : ∀ a, 145 ≤ a → a ≤ 155 → a ≠ 152 → T5 a = T3 a := fun a q1 q2 q3 => by rw [g5 a (by omega), up_ne q3]
            refine ⟨hb', by rw [cc d (by omega) (by omega) (by omega)]; exact hs', by rw [mm 145 (by omega) (by omega) (by omega)]; exact ht', ?_, ?_, fun q hq => ?_, ?_, dR1'.go (cc _ (by omega) (by omega) (by omega)) (cc _ (by omega) (by omega) (by omega)) (by rw [mm 145 (by omega) (by omega) (by omega)]) (fun j _ => by rw [mm (sgc true) (by decide) (by decide) (by decide)]), dR2'.go (cc _ (by omega) (by omega) (by omega)) (cc _ (by omega) (by omega) (by omega)) (by rw [mm 145 (by omega) (by omega) (by omega)]) (fun j _ => by rw [mm (sgc false) (by decide) (by decide) (by decide)])⟩
            · unfold RDf at dF' ⊢
              rw [cc (d + 1) (by omega) (by omega) (by omega), cc (d + 2) (by omega) (by omega) (by omega), cc (d + 3) (by omega) (by omega) (by omega), mm 146 (by omega) (by omega) (by omega), mm 147 (by omega) (by omega) (by omega), mm 148 (by omega) (by omega) (by omega)]
              exact dF'
            · unfold RDp at dP' ⊢
              rw [cc (d + 4) (by omega) (by omega) (by omega), cc (d + 5) (by omega) (by omega) (by omega), mm 149 (by omega) (by omega) (by omega)]
              exact dP'
            · obtain ⟨w, kq, kq1, kq2, kq3⟩ := dS' q hq
              rw [cc (d + 6) (by omega) (by omega) (by omega), cc (d + 7) (by omega) (by omega) (by omega), mm 151 (by omega) (by omega) (by omega), mm 150 (by omega) (by omega) (by omega)]
              refine ⟨w, ?_⟩
              by_cases c : q = s
              · subst c
                exact ⟨k ||| 2 ^ f, or_lt kF (pw_lt fN), up_at, by rw [g5 152 (by decide), up_at]⟩
              · refine ⟨kq, kq1, by rw [up_off c, f5 _ (by omega) (by omega)]; exact kq2, by rw [g5 152 (by decide), up_off (by omega)]; exact kq3⟩
            · unfold RDo at dO' ⊢
              rw [cc (d + 9) (by omega) (by omega) (by omega), mm 153 (by omega) (by omega) (by omega)]
              exact dO'
          · have := h3.2.2.1; omega
          · have := h3.2.2.2; omega
        · rw [if_neg je.cb]
          exact ⟨_, _, rfl, rfl, c5, m5', Or.inl ⟨_, _, je⟩⟩
end LN
