/-! all lines of the text -/
section TL
variable {B : Nat → Nat} {n d p F P N e1 e2 : Nat} {S T : St} {sX fX : Option (List Nat)}
theorem LR.two {S' T' : St} (h : LR B n d S T p sX fX e1 e2 S' T') : LR2 B n d S T p (nI (dn sX fX) ||| nI 0) S' T' := by
  obtain ⟨h1, h2, h3⟩ := h
  refine ⟨h1, h2, ?_⟩
  rcases h3 with q | ⟨p', F', P', N', q1, q2⟩
  · exact Or.inl q
  · exact Or.inr ⟨p', F', P', N', sX, fX, e1, e2, q1, q2, by rw [or_N, Nat.or_zero]⟩
theorem m_188 {a b : Int32} {T T' : St} (h : fX10_mark 59 T = some T') : BX10_readLine_188 a b T = some (a ||| b, T') := by
  unfold BX10_readLine_188; rw [h, bv_s]; rfl
theorem m_say {f : St → Option St} {T T' : St} {a b : Int32} (h : (bv (f T) fun S => fX10_mark 59 S) = some T') : (bv (f T) fun S => BX10_readLine_188 a b S) = some (a ||| b, T') := by
  cases hf : f T with
  | none => rw [hf] at h; cases h
  | some T1 => rw [hf, bv_s] at h; rw [bv_s]; exact m_188 h
theorem J_line (h : LC B n d S T p F P N sX fX e1 e2) (hk : tK B n p ≠ 0) {i : Nat} (hi : i ≤ 700) : ∃ S' x T', (∀ r : Int32 → St → Option (Int32 × St), KX6_tell_32 r (nI i) S = r (nI (i + 1)) S') ∧ fX10_readLine (nI (dn sX fX)) T = some (x, T') ∧ LR2 B n d S T p x S' T' := by
  have hd := h.hd
  have hTC := h.1.2.1
  have hTM := h.1.2.2.1
  have hC := h.1.1.1
  have hM := h.1.1.2.1
  have hp := h.1.1.2.2
  have k61 := tK_le (B := B) (n := n) (p := p) hTC.B
  have cis : ∀ q, q < 18 → fX7_is q S = some (b2i (wd B n q p), S) := fun q hq => C_is hTC hC hp hq
  have mis : ∀ q, q < 18 → fX10_is q T = some (b2i (wd B n q p), T) := fun q hq => M_is hTM hM hp hq
  have c0 : ∀ r : Int32 → St → Option (Int32 × St), KX6_tell_32 r (nI i) S = bd (fX7_is 1 S) fun x6 S => (if x6 = 0 then bd (fX7_is 2 S) fun x9 S => (if x9 = 0 then bd (fX7_is 3 S) fun x12 S => (if x12 = 0 then bd (fX7_is 4 S) fun x15 S => (if x15 = 0 then bd (fX7_is 5 S) fun x18 S => (if x18 = 0 then bd (fX7_is 6 S) fun x21 S => (if x21 = 0 then bd (fX7_is 17 S) fun x24 S => (if x24 = 0 then bd (fX6_refuse 1 S) fun x26 S => (BX6_tell_211 r (nI i) S) else gm S 32 2 8 fun q27 => bv (fX6_ruleLine (sr q27 13) 0 S) fun S => (BX6_tell_211 r (nI i) S)) else gm S 32 2 8 fun q29 => bv (fX6_ruleLine (sr q29 12) 1 S) fun S => (BX6_tell_211 r (nI i) S)) else bv (fX6_ownsLine S) fun S => (BX6_tell_211 r (nI i) S)) else bv (fX6_knowsLine S) fun S => (BX6_tell_211 r (nI i) S)) else bv (fX6_singerLine S) fun S => (BX6_tell_211 r (nI i) S)) else bv (fX6_pathLine S) fun S => (BX6_tell_211 r (nI i) S)) else bv (fX6_fieldLine S) fun S => (BX6_tell_211 r (nI i) S)) := by
    intro r
    unfold KX6_tell_32
    rw [if_neg (show ¬ (700 : Int32) < _ from nI_nlt (a := 700) hi (by decide)), h.ok3, if_pos rfl, hC.2.2.1, if_neg (nI_ne0 (by omega) (by omega))]
  have b211 : ∀ (r : Int32 → St → Option (Int32 × St)) (S' : St), BX6_tell_211 r (nI i) S' = r (nI (i + 1)) S' := fun r S' => by unfold BX6_tell_211; rw [vl_s, nI_1]
  have z0 : ((0 : Int32) &&& nI (dn sX fX)) = 0 := by simp
  -- the reference's lines but rules
  have ref : wd B n 6 p = false → wd B n 17 p = false → fX10_readLine (nI (dn sX fX)) T = bd (fX10_is 1 T) fun x2 S => (if x2 = 0 then bd (fX10_is 2 S) fun x4 S => (if x4 = 0 then bd (fX10_is 3 S) fun x6 S => (if x6 = 0 then bd (fX10_is 4 S) fun x8 S => (if x8 = 0 then bd (fX10_is 5 S) fun x10 S => (if x10 = 0 then bv (fX10_wrong 1 S) fun S => (BX10_readLine_188 (nI (dn sX fX)) 0 S) else bv (fX10_sayOwns S) fun S => (BX10_readLine_188 (nI (dn sX fX)) 0 S)) else bv (fX10_sayKnows S) fun S => (BX10_readLine_188 (nI (dn sX fX)) 0 S)) else bv (fX10_saySinger S) fun S => (BX10_readLine_188 (nI (dn sX fX)) 0 S)) else bv (fX10_sayPath S) fun S => (BX10_readLine_188 (nI (dn sX fX)) 0 S)) else bv (fX10_sayField S) fun S => (BX10_readLine_188 (nI (dn sX fX)) 0 S)) := by
    intro h6 h17
    unfold fX10_readLine
    rw [mis 6 (by decide), h6, bd_s, b2i_f, if_pos rfl, mis 17 (by decide), h17, bd_s, b2i_f, if_pos rfl]
    unfold BX10_readLine_29
    rw [z0, if_pos rfl]
    unfold BX10_readLine_41
    rw [if_pos (by decide)]
  cases h1 : wd B n 1 p with
  | true =>
    obtain ⟨S', T', a1, a2, a3⟩ := J_field h hk
    refine ⟨S', _, T', fun r => ?_, ?_, a3.two⟩
    · rw [c0, cis 1 (by decide), h1, bd_s, b2i_t, if_neg (by decide), a1, bv_s, b211]
    · rw [ref (wd_x h1 (by decide +kernel)) (wd_x h1 (by decide +kernel)), mis 1 (by decide), h1, bd_s, b2i_t, if_neg (by decide)]
      exact m_say a2
  | false =>
    cases h2 : wd B n 2 p with
    | true =>
      obtain ⟨S', T', a1, a2, a3⟩ := J_path h hk
      refine ⟨S', _, T', fun r => ?_, ?_, a3.two⟩
      · rw [c0, cis 1 (by decide), h1, bd_s, b2i_f, if_pos rfl, cis 2 (by decide), h2, bd_s, b2i_t, if_neg (by decide), a1, bv_s, b211]
      · rw [ref (wd_x h2 (by decide +kernel)) (wd_x h2 (by decide +kernel)), mis 1 (by decide), h1, bd_s, b2i_f, if_pos rfl, mis 2 (by decide), h2, bd_s, b2i_t, if_neg (by decide)]
        exact m_say a2
    | false =>
      cases h3 : wd B n 3 p with
      | true =>
        obtain ⟨S', T', a1, a2, a3⟩ := J_singer h hk
        refine ⟨S', _, T', fun r => ?_, ?_, a3.two⟩
        · rw [c0, cis 1 (by decide), h1, bd_s, b2i_f, if_pos rfl, cis 2 (by decide), h2, bd_s, b2i_f, if_pos rfl, cis 3 (by decide), h3, bd_s, b2i_t, if_neg (by decide), a1, bv_s, b211]
        · rw [ref (wd_x h3 (by decide +kernel)) (wd_x h3 (by decide +kernel)), mis 1 (by decide), h1, bd_s, b2i_f, if_pos rfl, mis 2 (by decide), h2, bd_s, b2i_f, if_pos rfl, mis 3 (by decide), h3, bd_s, b2i_t, if_neg (by decide)]
          exact m_say a2
      | false =>
        cases h4 : wd B n 4 p with
        | true =>
          obtain ⟨S', T', a1, a2, a3⟩ := J_knows h hk
          refine ⟨S', _, T', fun r => ?_, ?_, a3.two⟩
          · rw [c0, cis 1 (by decide), h1, bd_s, b2i_f, if_pos rfl, cis 2 (by decide), h2, bd_s, b2i_f, if_pos rfl, cis 3 (by decide), h3, bd_s, b2i_f, if_pos rfl, cis 4 (by decide), h4, bd_s, b2i_t, if_neg (by decide), a1, bv_s, b211]
          · rw [ref (wd_x h4 (by decide +kernel)) (wd_x h4 (by decide +kernel)), mis 1 (by decide), h1, bd_s, b2i_f, if_pos rfl, mis 2 (by decide), h2, bd_s, b2i_f, if_pos rfl, mis 3 (by decide), h3, bd_s, b2i_f, if_pos rfl, mis 4 (by decide), h4, bd_s, b2i_t, if_neg (by decide)]
            exact m_say a2
        | false =>
          cases h5 : wd B n 5 p with
          | true =>
            obtain ⟨S', T', a1, a2, a3⟩ := J_owns h hk
            refine ⟨S', _, T', fun r => ?_, ?_, a3.two⟩
            · rw [c0, cis 1 (by decide), h1, bd_s, b2i_f, if_pos rfl, cis 2 (by decide), h2, bd_s, b2i_f, if_pos rfl, cis 3 (by decide), h3, bd_s, b2i_f, if_pos rfl, cis 4 (by decide), h4, bd_s, b2i_f, if_pos rfl, cis 5 (by decide), h5, bd_s, b2i_t, if_neg (by decide), a1, bv_s, b211]
            · rw [ref (wd_x h5 (by decide +kernel)) (wd_x h5 (by decide +kernel)), mis 1 (by decide), h1, bd_s, b2i_f, if_pos rfl, mis 2 (by decide), h2, bd_s, b2i_f, if_pos rfl, mis 3 (by decide), h3, bd_s, b2i_f, if_pos rfl, mis 4 (by decide), h4, bd_s, b2i_f, if_pos rfl, mis 5 (by decide), h5, bd_s, b2i_t, if_neg (by decide)]
              exact m_say a2
          | false =>
            have cpre : ∀ r : Int32 → St → Option (Int32 × St), KX6_tell_32 r (nI i) S = bd (fX7_is 6 S) fun x21 S => (if x21 = 0 then bd (fX7_is 17 S) fun x24 S => (if x24 = 0 then bd (fX6_refuse 1 S) fun x26 S => (BX6_tell_211 r (nI i) S) else gm S 32 2 8 fun q27 => bv (fX6_ruleLine (sr q27 13) 0 S) fun S => (BX6_tell_211 r (nI i) S)) else gm S 32 2 8 fun q29 => bv (fX6_ruleLine (sr q29 12) 1 S) fun S => (BX6_tell_211 r (nI i) S)) := fun r => by
              rw [c0, cis 1 (by decide), h1, bd_s, b2i_f, if_pos rfl, cis 2 (by decide), h2, bd_s, b2i_f, if_pos rfl, cis 3 (by decide), h3, bd_s, b2i_f, if_pos rfl, cis 4 (by decide), h4, bd_s, b2i_f, if_pos rfl, cis 5 (by decide), h5, bd_s, b2i_f, if_pos rfl]
            cases h6 : wd B n 6 p with
            | true =>
              obtain ⟨S', x, T', a1, a2, a3⟩ := J_rule true h hk
              have a1' : fX6_ruleLine (d + 11) 1 S = some S' := a1
              have a2' : BX10_readLine_29 (nI (dn sX fX)) 1 T = some (x, T') := a2
              refine ⟨S', x, T', fun r => ?_, ?_, a3⟩
              · rw [cpre, cis 6 (by decide), h6, bd_s, b2i_t, if_neg (by decide), gm_v h.d32 hd, srv12 hd, a1', bv_s, b211]
              · unfold fX10_readLine
                rw [mis 6 (by decide), h6, bd_s, b2i_t, if_neg (by decide), a2']
            | false =>
              cases h17 : wd B n 17 p with
              | true =>
                obtain ⟨S', x, T', a1, a2, a3⟩ := J_rule false h hk
                have a1' : fX6_ruleLine (d + 13) 0 S = some S' := a1
                have a2' : BX10_readLine_29 (nI (dn sX fX)) 2 T = some (x, T') := a2
                refine ⟨S', x, T', fun r => ?_, ?_, a3⟩
                · rw [cpre, cis 6 (by decide), h6, bd_s, b2i_f, if_pos rfl, cis 17 (by decide), h17, bd_s, b2i_t, if_neg (by decide), gm_v h.d32 hd, srv13 hd, a1', bv_s, b211]
                · unfold fX10_readLine
                  rw [mis 6 (by decide), h6, bd_s, b2i_f, if_pos rfl, mis 17 (by decide), h17, bd_s, b2i_t, if_neg (by decide), a2']
              | false =>
                obtain ⟨je, lr⟩ := h.flt (p0 := p) (c := 1) (by decide) (by decide) cD.rf mD.rf
                refine ⟨_, _, _, fun r => ?_, ?_, lr.two⟩
                · rw [cpre, cis 6 (by decide), h6, bd_s, b2i_f, if_pos rfl, cis 17 (by decide), h17, bd_s, b2i_f, if_pos rfl, show (1 : Int32) = nI 1 from rfl, c_refuse h.1, bd_s, b211]
                · rw [ref h6 h17, mis 1 (by decide), h1, bd_s, b2i_f, if_pos rfl, mis 2 (by decide), h2, bd_s, b2i_f, if_pos rfl, mis 3 (by decide), h3, bd_s, b2i_f, if_pos rfl, mis 4 (by decide), h4, bd_s, b2i_f, if_pos rfl, mis 5 (by decide), h5, bd_s, b2i_f, if_pos rfl, show (1 : Int32) = nI 1 from rfl, m_wrong h.1, bv_s]
                  exact m_188 (mark_bad je.mb)
theorem J_lines {S0 T0 : St} : ∀ (k i : Nat) (S T : St) (p F P N : Nat) (sX fX : Option (List Nat)) (e1 e2 : Nat), n + 3 ≤ k + tS B n p → i ≤ tS B n p → LC B n d S T p F P N sX fX e1 e2 → cD d S0 S → mD T0 T → ∃ S' T', LX6_tell_32 k (nI i) S = BX6_tell_217 S' ∧ LX10_valley_100 k (nI (dn sX fX)) T = BX10_valley_123 T' ∧ cD d S0 S' ∧ mD T0 T' ∧ ((∃ c q, JE B n d S' T' c q) ∨ ∃ p' F' P' N' sX' fX' e1' e2', LC B n d S' T' p' F' P' N' sX' fX' e1' e2' ∧ tK B n p' = 0) := by
  intro k
  induction k with
  | zero =>
    intro i S T p F P N sX fX e1 e2 hk hi h
    have := tS_le (B := B) h.1.1.2.2
    omega
  | succ k ih =>
    intro i S T p F P N sX fX e1 e2 hk hi h hc hm
    have sn := tS_le (B := B) h.1.1.2.2
    have n7 := h.1.2.1.1
    have k61 := tK_le (B := B) (n := n) (p := p) h.1.2.1.B
    have i7 : ¬ (700 : Int32) < nI i := nI_nlt (a := 700) (by omega) (by decide)
    by_cases c : tK B n p = 0
    · refine ⟨S, T, ?_, ?_, hc, hm, Or.inr ⟨p, F, P, N, sX, fX, e1, e2, h, c⟩⟩
      · show KX6_tell_32 (LX6_tell_32 k) (nI i) S = _
        unfold KX6_tell_32
        rw [if_neg i7, h.ok3, if_pos rfl, h.1.1.1.2.2.1, if_pos (by rw [c]; rfl)]
      · show KX10_valley_100 (LX10_valley_100 k) (nI (dn sX fX)) T = _
        unfold KX10_valley_100
        rw [h.ok24, if_pos rfl, h.1.1.2.1.2.2.1, if_pos (by rw [mkT_e.1 c]; rfl)]
    · obtain ⟨S1, x, T1, a1, a2, a3, a4, a5⟩ := J_line h c (i := i) (by omega)
      have kp := (tK_pos c).1
      have mk0 : ¬ nI (mkT (tK B n p)) = (0 : Int32) := by
        have : mkT (tK B n p) ≠ 0 ∧ mkT (tK B n p) ≤ 61 := by
          unfold mkT
          split
          · omega
          · split <;> omega
        exact nI_ne0 (by omega) (by omega)
      have l1 : LX6_tell_32 (k + 1) (nI i) S = LX6_tell_32 k (nI (i + 1)) S1 := a1 (LX6_tell_32 k)
      have l2 : LX10_valley_100 (k + 1) (nI (dn sX fX)) T = LX10_valley_100 k x T1 := by
        show KX10_valley_100 (LX10_valley_100 k) (nI (dn sX fX)) T = _
        unfold KX10_valley_100
        rw [h.ok24, if_pos rfl, h.1.1.2.1.2.2.1, if_neg mk0, a2, bd_s]
      rw [l1, l2]
      rcases a5 with ⟨c5, q5, je⟩ | ⟨p', F', P', N', sX', fX', e1', e2', h', tp, hx⟩
      · obtain ⟨k', rfl⟩ : ∃ k', k = k' + 1 := ⟨k - 1, by omega⟩
        refine ⟨S1, T1, ?_, ?_, hc.tr a3, hm.tr a4, Or.inl ⟨c5, q5, je⟩⟩
        · show KX6_tell_32 (LX6_tell_32 k') (nI (i + 1)) S1 = _
          unfold KX6_tell_32
          split
          · rfl
          · first | rfl | rw [if_neg je.cb]
        · show KX10_valley_100 (LX10_valley_100 k') x T1 = _
          unfold KX10_valley_100
          rw [if_neg je.mb]
      · subst hx
        exact ih (i + 1) S1 T1 p' F' P' N' sX' fX' e1' e2' (by omega) (by omega) h' (hc.tr a3) (hm.tr a4)
end TL
