/-! field; singer -/
section LF
variable {B : Nat → Nat} {n d p F P N e1 e2 : Nat} {S T : St} {sX fX : Option (List Nat)}
theorem m_109 {T : St} {f m : Nat} {x : Int32} (hf : f < 16) (h5 : T 145 5 = x) : BX10_sayField_109 (nI f) (nI m) T = some (up (up (up T 147 f (nI m)) 153 f (-1)) 145 5 (x + 1)) := by
  unfold BX10_sayField_109
  rw [wr147 hf, wr153 hf, rd145_5, up_ne (by decide), up_ne (by decide), h5, wr145_5]
theorem J_noteL {S0 T0 : St} {p0 : Nat} (F8 : F < 8) {ac : Nat} (ac1 : 1 ≤ ac ∧ ac ≤ 99) : ∀ (k i : Nat) (S T : St) (p : Nat), 8 < k + i → i ≤ 6 → LC B n d S T p F P N sX fX e1 e2 → cD d S0 S → mD T0 T → tS B n p0 < tS B n p → S (d + 1) F = nI ac → T 146 (8 + F) = nI ac → (∀ j, j < i → S (d + 3) (F * 6 + j) = T 148 (6 * (8 + F) + j)) → ∃ S' T', LX6_fieldLine_50 k (nI F) (nI i) (nI i) S = some S' ∧ (bv (LX10_sayField_36 k (nI (8 + F)) (nI i) T) fun S => fX10_mark 59 S) = some T' ∧ LR B n d S0 T0 p0 sX fX e1 e2 S' T' := by
  intro k
  induction k with
  | zero => intro i S T p hk hi; omega
  | succ k ih =>
    intro i S T p hk hi h hc hm hp0 ha1 ha2 hnt
    have hd := h.hd
    obtain ⟨⟨hF, hP, hN⟩, ⟨s0, s1, s2⟩, ⟨t5, t6, t7⟩, -⟩ := id h.2.1
    have hMT := h.1.1.2.1
    have k61 := tK_le (B := B) (n := n) (p := p) h.1.2.1.B
    show ∃ S' T', KX6_fieldLine_50 (LX6_fieldLine_50 k) (nI F) (nI i) (nI i) S = some S' ∧ (bv (KX10_sayField_36 (LX10_sayField_36 k) (nI (8 + F)) (nI i) T) fun S => fX10_mark 59 S) = some T' ∧ _
    unfold KX6_fieldLine_50 KX10_sayField_36
    rw [if_neg (show ¬ (6 : Int32) < _ from nI_nlt (a := 6) hi (by decide)), h.ok3, if_pos rfl, h.ok24, if_pos rfl]
    -- the end of the line
    have fin : ∃ S' T', BX6_fieldLine_127 (nI F) (nI i) S = some S' ∧ (bv (BX10_sayField_109 (nI (8 + F)) (nI i) T) fun S => fX10_mark 59 S) = some T' ∧ LR B n d S0 T0 p0 sX fX e1 e2 S' T' := by
      rw [m_109 (by omega) t5, nI_1, bv_s]
      generalize hT2 : up (up (up T 147 (8 + F) (nI i)) 153 (8 + F) (-1)) 145 5 (nI (F + 1)) = T2
      have tc : ∀ a, a ≠ 147 → a ≠ 153 → a ≠ 145 → T2 a = T a := fun a q1 q2 q3 => by rw [← hT2, up_ne q3, up_ne q2, up_ne q1]
      have hJ2 : JW B n d S T2 p := h.1.mv rfl rfl rfl (tc _ (by decide) (by decide) (by decide)) (fun j _ _ => by rw [tc _ (by decide) (by decide) (by decide)])
      have m2 : mD T0 T2 := by rw [← hT2]; exact ((hm.up (by omega)).up (by omega)).up (by omega)
      obtain ⟨S3, T3, a3, b3, f3, m3, g3, -, r3⟩ := J_end hJ2
      unfold BX6_fieldLine_127
      rw [a3, bv_s, b3]
      have c3 : cD d S0 S3 := hc.tr (fun a q1 q2 => f3 a (by omega) (by omega))
      rcases r3 with ⟨kE, j3, e32⟩ | je
      · have tk3 := tK_adv (B := B) (n := n) (p := p) (by omega)
        have s03 : S3 d 0 = nI F := by rw [f3 d (by omega) (by omega)]; exact s0
        rw [j3.2.2.2.2.1, if_pos rfl, gm_v j3.2.2.2.1 hd, srv4 hd, wrv2 hd (by omega)]
        have g32 : up S3 (d + 2) F (nI i) 32 2 = nI d := by rw [up_ne (by omega)]; exact j3.2.2.2.1
        rw [gm_v g32 hd, pf_s, up_ne (by omega), s03, nI_1]
        generalize hS4 : up (up S3 (d + 2) F (nI i)) d 0 (nI (F + 1)) = S4
        have s4c : ∀ a, a ≠ d → a ≠ d + 2 → S4 a = S3 a := fun a q1 q2 => by rw [← hS4, up_ne q1, up_ne q2]
        refine ⟨_, _, rfl, rfl, c3.tr (fun a q1 q2 => s4c a (by omega) (by omega)), m2.tr m3, Or.inr ⟨_, F + 1, P, N, ⟨j3.mv (s4c _ (by omega) (by omega)) (s4c _ (by omega) (by omega)) (s4c _ (by omega) (by omega)) rfl (fun _ _ _ => rfl), ?_, ?_, ?_⟩, by omega⟩⟩
        · obtain ⟨hb', hs', ht', dF', dP', dS', dO', dR1', dR2'⟩ := id h.2.1
          have cc : ∀ a, d ≤ a → a ≤ d + 13 → a ≠ d → a ≠ d + 2 → S4 a = S a := fun a q1 q2 q3 q4 => by rw [s4c a q3 q4]; exact f3 a (by omega) (by omega)
          have mm : ∀ a, 145 ≤ a → a ≤ 155 → a ≠ 145 → a ≠ 147 → a ≠ 153 → T3 a = T a := fun a q1 q2 q3 q4 q5 => by rw [g3 a (by omega)]; exact tc a q4 q5 q3
          have t145 : ∀ j, j ≠ 5 → T3 145 j = T 145 j := fun j hj => by rw [g3 145 (by decide), ← hT2, up_off hj, up_ne (by decide), up_ne (by decide)]
          have s4d : ∀ j, j ≠ 0 → S4 d j = S d j := fun j hj => by rw [← hS4, up_off hj, up_ne (by omega), f3 d (by omega) (by omega)]
          have e2 : ∀ q, S4 (d + 2) q = if q = F then nI i else S (d + 2) q := fun q => by
            rw [← hS4, up_ne (by omega)]
            by_cases c : q = F
            · rw [if_pos c, c, up_at]
            · rw [if_neg c, up_off c, f3 _ (by omega) (by omega)]
          have e147 : ∀ q, T3 147 q = if q = 8 + F then nI i else T 147 q := fun q => by
            rw [g3 147 (by decide), ← hT2, up_ne (by decide), up_ne (by decide)]
            by_cases c : q = 8 + F
            · rw [if_pos c, c, up_at]
            · rw [if_neg c, up_off c]
          have e153 : ∀ q, T3 153 q = if q = 8 + F then -1 else T 153 q := fun q => by
            rw [g3 153 (by decide), ← hT2, up_ne (by decide)]
            by_cases c : q = 8 + F
            · rw [if_pos c, c, up_at]
            · rw [if_neg c, up_off c, up_ne (by decide)]
          refine ⟨⟨by omega, hP, hN⟩, ⟨by rw [← hS4, up_at], by rw [s4d 1 (by decide)]; exact s1, by rw [s4d 2 (by decide)]; exact s2⟩, ⟨by rw [g3 145 (by decide), ← hT2, up_at], by rw [t145 6 (by decide)]; exact t6, by rw [t145 7 (by decide)]; exact t7⟩, fun f hf => ?_, ?_, fun s hs => ?_, ⟨fun f hf => ?_, fun f q1 q2 => ?_⟩, dR1'.go (cc _ (by omega) (by omega) (by omega) (by omega)) (cc _ (by omega) (by omega) (by omega) (by omega)) (t145 _ (by decide)) (fun j _ => by rw [mm (sgc true) (by decide) (by decide) (by decide) (by decide) (by decide)]), dR2'.go (cc _ (by omega) (by omega) (by omega) (by omega)) (cc _ (by omega) (by omega) (by omega) (by omega)) (t145 _ (by decide)) (fun j _ => by rw [mm (sgc false) (by decide) (by decide) (by decide) (by decide) (by decide)])⟩
          · rw [cc (d + 1) (by omega) (by omega) (by omega) (by omega), cc (d + 3) (by omega) (by omega) (by omega) (by omega), mm 146 (by omega) (by omega) (by omega) (by omega) (by omega), mm 148 (by omega) (by omega) (by omega) (by omega) (by omega), e2, e147]
            by_cases c : f = F
            · rw [c, if_pos rfl, if_pos rfl]
              exact ⟨⟨ac, ac1.1, ac1.2, ha1, ha2⟩, i, hi, rfl, rfl, hnt⟩
            · rw [if_neg c, if_neg (by omega)]
              exact dF' f (by omega)
          · obtain ⟨w, w1, w2⟩ := dP'
            refine ⟨w, fun a b => ⟨(w1 a b).1, (w1 a b).2.1, fun z => by have := (w1 a b).2.2 z; omega⟩, fun a ha => ?_⟩
            rw [cc (d + 4) (by omega) (by omega) (by omega) (by omega), cc (d + 5) (by omega) (by omega) (by omega) (by omega), mm 149 (by omega) (by omega) (by omega) (by omega) (by omega)]
            exact w2 a ha
          · rw [cc (d + 6) (by omega) (by omega) (by omega) (by omega), cc (d + 7) (by omega) (by omega) (by omega) (by omega), cc (d + 8) (by omega) (by omega) (by omega) (by omega), mm 151 (by omega) (by omega) (by omega) (by omega) (by omega), mm 150 (by omega) (by omega) (by omega) (by omega) (by omega), mm 152 (by omega) (by omega) (by omega) (by omega) (by omega)]
            obtain ⟨⟨w, x1, x2, x3, x4, x5⟩, q, q1, q2, q3⟩ := dS' s hs
            refine ⟨⟨w, x1, x2, x3, x4, fun j hj => ?_⟩, q, Nat.lt_of_lt_of_le q1 (Nat.pow_le_pow_right (by decide) (by omega)), q2, q3⟩
            obtain ⟨f, f1, f2⟩ := x5 j hj
            exact ⟨f, by omega, f2⟩
          · rw [cc (d + 9) (by omega) (by omega) (by omega) (by omega), e153]
            by_cases c : f = F
            · rw [if_pos (by omega)]
              refine Or.inl ⟨?_, rfl⟩
              rw [c]; exact dO'.2 F (Nat.le_refl _) F8
            · rw [if_neg (by omega)]; exact dO'.1 f (by omega)
          · rw [cc (d + 9) (by omega) (by omega) (by omega) (by omega)]; exact dO'.2 f (by omega) q2
        · have := h.2.2.1; omega
        · have := h.2.2.2; omega
      · rw [if_neg je.cb]
        exact ⟨_, _, rfl, rfl, c3, m2.tr m3, Or.inl ⟨_, _, je⟩⟩
    -- one more note
    have on : (i < 2 ∨ tK B n p = 2) → ∃ S' T', BX6_fieldLine_79 (LX6_fieldLine_50 k) (nI F) (nI i) (nI i) S = some S' ∧ (bv (BX10_sayField_56 (LX10_sayField_36 k) (nI (8 + F)) (nI i) T) fun S => fX10_mark 59 S) = some T' ∧ LR B n d S0 T0 p0 sX fX e1 e2 S' T' := by
      intro ht
      unfold BX6_fieldLine_79 BX10_sayField_56
      by_cases c6 : i = 6
      · have k2 : tK B n p = 2 := by omega
        obtain ⟨je, lr⟩ := h.flt (p0 := p0) (c := 2) (by decide) (by decide) hc hm
        rw [if_pos (by rw [c6]; rfl), hMT.2.2.1, if_pos (by rw [mkT_e.2.2.1 k2]; rfl), if_pos (by rw [c6]; rfl), show (2 : Int32) = nI 2 from rfl, c_refuse h.1, bd_s, m_wrong h.1, bv_s]
        unfold BX10_sayField_75
        rw [m_rn_bad je.mb, bd_s, if_neg je.mb, bv_s, mark_bad je.mb]
        exact ⟨_, _, rfl, rfl, lr⟩
      · have n6 : ¬ nI i = (6 : Int32) := fun z => c6 ((nI_eq (b := 6) (by omega) (by decide)).mp z)
        have e75 : (if (T 142 20) = 2 then (if nI i = 6 then bv (fX10_wrong 2 T) fun S => (BX10_sayField_75 (LX10_sayField_36 k) (nI (8 + F)) (nI i) S) else (BX10_sayField_75 (LX10_sayField_36 k) (nI (8 + F)) (nI i) T)) else (BX10_sayField_75 (LX10_sayField_36 k) (nI (8 + F)) (nI i) T)) = BX10_sayField_75 (LX10_sayField_36 k) (nI (8 + F)) (nI i) T := by
          rw [if_neg n6]; split <;> rfl
        rw [if_neg n6, e75, gm_v h.d32 hd]
        unfold BX10_sayField_75 fX10_readNumber
        rw [show fX6_numberHere 0 9 2 S = _ from c_nh (lo := 0) (hi := 9) (fo := 2) h.1 (by decide) 9 (fun m hm => nI_leI (b := 9) (by omega) (by decide)), show fX10_numberNow 0 9 T = _ from m_nn (lo := 0) (hi := 9) h.1 (by decide) (by decide)]
        cases hn : nE B n 0 9 2 p with
        | some c =>
          obtain ⟨c15, c15'⟩ := nE_some hn (by decide)
          obtain ⟨je, lr⟩ := h.flt (p0 := p0) c15 c15' hc hm
          obtain ⟨lc, lm, lo⟩ := lr
          dsimp only
          rw [bd_s, srv5 hd, rm6, nI_add, wrv3 hd (by omega)]
          have cb' : ¬ up (flt B n p c S) (d + 3) (F * 6 + i) 0 32 3 = 0 := by rw [up_ne (by omega)]; exact je.cb
          rw [c_pass_bad cb', bv_s, vl_s, nI_1, vl_s]
          obtain ⟨k', rfl⟩ : ∃ k', k = k' + 1 := ⟨k - 1, by omega⟩
          rw [bd_s, if_neg je.mb, ri_s, bd_s, if_neg je.mb, bv_s, mark_bad je.mb]
          have el : LX6_fieldLine_50 (k' + 1) (nI F) (nI (i + 1)) (nI (i + 1)) (up (flt B n p c S) (d + 3) (F * 6 + i) 0) = some (up (flt B n p c S) (d + 3) (F * 6 + i) 0) := by
            show KX6_fieldLine_50 (LX6_fieldLine_50 k') (nI F) (nI (i + 1)) (nI (i + 1)) _ = _
            unfold KX6_fieldLine_50 BX6_fieldLine_127
            rw [if_neg (show ¬ (6 : Int32) < _ from nI_nlt (a := 6) (by omega) (by decide)), if_neg cb', c_passEnd_bad cb', bv_s, if_neg cb']
          rw [el]
          exact ⟨_, _, rfl, rfl, lc.up (by omega), lm, Or.inl ⟨c, p, je.go (up_ne (by omega)) rfl rfl⟩⟩
        | none =>
          obtain ⟨k2, -, -, z9⟩ := nE_none hn
          have tk := tK_adv (B := B) (n := n) (p := p) (by omega)
          generalize tN B n p = z at z9
          dsimp only
          rw [bd_s, srv5 hd, rm6, nI_add, wrv3 hd (by omega), bd_s, h.ok24, if_pos rfl]
          have hS1 : LC B n d (up S (d + 3) (F * 6 + i) (nI z)) T p F P N sX fX e1 e2 := by
            refine ⟨h.1.mv (up_ne (by omega)) (up_ne (by omega)) (up_ne (by omega)) rfl (fun _ _ _ => rfl), h.2.1.ag ⟨fun j hj => by rw [up_ne (by omega)], fun f hf => ⟨by rw [up_ne (by omega)], by rw [up_ne (by omega)]⟩, fun j hj => by rw [up_off (by omega)], ⟨up_ne (by omega), up_ne (by omega)⟩, fun s hs => ⟨by rw [up_ne (by omega)], by rw [up_ne (by omega)]⟩, fun j hj => by rw [up_ne (by omega)], up_ne (by omega), up_ne (by omega), up_ne (by omega), up_ne (by omega)⟩ (aM.eq (fun _ _ _ => rfl)), h.2.2.1, h.2.2.2⟩
          obtain ⟨S2, T2, a2, b2, h2, f2, g2⟩ := hS1.step
          rw [hS1.pass a2, bv_s, vl_s, nI_1, vl_s, b2, bv_s, ri_s, bd_s, h2.ok24, if_pos rfl, lm6, nI_add, wr148 (by omega), vl_s]
          refine ih (i + 1) S2 (up T2 148 (6 * (8 + F) + i) (nI z)) (tE B n p) (by omega) (by omega) ?_ ((hc.up (by omega)).a f2) ((hm.s g2).up (by omega)) (by omega) ?_ ?_ (fun j hj => ?_)
          · refine ⟨h2.1.mv rfl rfl rfl (up_ne (by decide)) (fun j _ _ => by rw [up_ne (by decide)]), h2.2.1.ag aC.rf ⟨fun j _ _ => by rw [up_ne (by decide)], fun f hf => ⟨by rw [up_ne (by decide)], by rw [up_ne (by decide)], by rw [up_ne (by decide)]⟩, fun j q1 q2 => by rw [up_off (by omega)], fun j _ => by rw [up_ne (by decide)], fun s hs => ⟨by rw [up_ne (by decide)], by rw [up_ne (by decide)]⟩, fun j _ _ => by rw [up_ne (by decide)], fun j _ => ⟨by rw [up_ne (by decide)], by rw [up_ne (by decide)]⟩⟩, h2.2.2.1, h2.2.2.2⟩
          · rw [f2 _ (by omega), up_ne (by omega)]; exact ha1
          · rw [up_ne (by decide), g2.1 146 (by decide)]; exact ha2
          · rw [f2 _ (by omega)]
            by_cases c : j = i
            · subst c; rw [up_at, up_at]
            · rw [up_off (by omega), up_off (by omega), g2.1 148 (by decide)]; exact hnt j (by omega)
    by_cases c2 : i < 2
    · rw [if_pos (show _ < (2 : Int32) from nI_lt (b := 2) c2 (by decide)), if_pos (show _ < (2 : Int32) from nI_lt (b := 2) c2 (by decide))]
      exact on (Or.inl c2)
    · rw [if_neg (show ¬ _ < (2 : Int32) from nI_nlt (b := 2) (by omega) (by omega)), if_neg (show ¬ _ < (2 : Int32) from nI_nlt (b := 2) (by omega) (by omega)), h.1.1.1.2.2.1, hMT.2.2.1]
      by_cases k2 : tK B n p = 2
      · rw [if_pos (by rw [k2]; rfl), if_pos (by rw [mkT_e.2.2.1 k2]; rfl)]
        exact on (Or.inr k2)
      · have mk2 : mkT (tK B n p) ≠ 2 ∧ mkT (tK B n p) ≤ 61 := by
          unfold mkT
          split
          · omega
          · split <;> omega
        rw [if_neg (show ¬ nI (tK B n p) = (2 : Int32) from by rw [show (2 : Int32) = nI 2 from rfl, nI_eq (by omega) (by omega)]; exact k2), if_neg (show ¬ nI (mkT (tK B n p)) = (2 : Int32) from by rw [show (2 : Int32) = nI 2 from rfl, nI_eq (by omega) (by omega)]; exact mk2.1)]
        exact fin
theorem J_field (h : LC B n d S T p F P N sX fX e1 e2) (hk : tK B n p ≠ 0) : ∃ S' T', fX6_fieldLine S = some S' ∧ (bv (fX10_sayField T) fun S => fX10_mark 59 S) = some T' ∧ LR B n d S T p sX fX e1 e2 S' T' := by
  have hd := h.hd
  have tk := tK_adv hk
  obtain ⟨⟨hF, hP, hN⟩, ⟨s0, s1, s2⟩, ⟨t5, t6, t7⟩, -⟩ := id h.2.1
  unfold fX6_fieldLine fX10_sayField fX10_another
  rw [gm_v h.d32 hd, vl_s, s0, show (5 : Int32) + 0 = nI 5 from rfl, rd145 (by decide), t5]
  by_cases c8 : F = 8
  · obtain ⟨je, lr⟩ := h.flt (p0 := p) (c := 2) (by decide) (by decide) cD.rf mD.rf
    rw [if_neg (show ¬ _ < (8 : Int32) from nI_nlt (b := 8) (by omega) (by omega)), show (2 : Int32) = nI 2 from rfl, c_refuse h.1, bd_s, if_pos (by rw [c8]; rfl), m_wrong h.1, bv_s]
    unfold BX10_another_17
    rw [if_neg je.mb, rz_0, bd_s, if_pos rfl, bv_s, mark_bad je.mb]
    exact ⟨_, _, rfl, rfl, lr⟩
  · obtain ⟨S1, T1, a1, b1, h1, f1, g1⟩ := h.step
    have c1 : cD d S S1 := cD.rf.a f1
    have m1 : mD T T1 := mD.rf.s g1
    rw [if_pos (show _ < (8 : Int32) from nI_lt (b := 8) (by omega) (by decide)), if_neg (show ¬ nI F = (8 : Int32) from fun z => c8 ((nI_eq (b := 8) (by omega) (by decide)).mp z)), h.pass a1, bv_s]
    unfold BX10_another_17
    obtain ⟨-, ⟨s0', s1', s2'⟩, ⟨t5', t6', t7'⟩, -⟩ := id h1.2.1
    rw [h.ok24, if_pos rfl, b1, bv_s, rz_1, bd_s, if_neg (by decide), rd145_5, t5', vl_s, la8, gm_v h1.d32 hd]
    unfold fX10_readNumber
    rw [show fX6_numberHere 1 99 2 S1 = _ from c_nh (lo := 1) (hi := 99) (fo := 2) h1.1 (by decide) 99 (fun m hm => nI_leI (b := 99) (by omega) (by decide)), show fX10_numberNow 1 99 T1 = _ from m_nn (lo := 1) (hi := 99) h1.1 (by decide) (by decide)]
    cases hn : nE B n 1 99 2 (tE B n p) with
    | some c =>
      obtain ⟨c15, c15'⟩ := nE_some hn (by decide)
      obtain ⟨je, lr⟩ := h1.flt (p0 := p) c15 c15' c1 m1
      obtain ⟨lc, lm, lo⟩ := lr
      dsimp only
      rw [bd_s, srv3 hd, wrv1 hd (by omega)]
      have cb' : ¬ up (flt B n (tE B n p) c S1) (d + 1) F 0 32 3 = 0 := by rw [up_ne (by omega)]; exact je.cb
      have mb' : ¬ up (wrT B n (tE B n p) c T1) 146 (8 + F) 0 142 24 = 0 := by rw [up_ne (by decide)]; exact je.mb
      rw [c_pass_bad cb', bv_s, bd_s, if_neg je.mb, ri_s, bd_s, wr146 (by omega)]
      have el : LX6_fieldLine_50 FU (nI F) 0 0 (up (flt B n (tE B n p) c S1) (d + 1) F 0) = some (up (flt B n (tE B n p) c S1) (d + 1) F 0) := by
        show KX6_fieldLine_50 (LX6_fieldLine_50 4999) (nI F) 0 0 _ = _
        unfold KX6_fieldLine_50 BX6_fieldLine_127
        rw [if_neg (by decide), if_neg cb', c_passEnd_bad cb', bv_s, if_neg cb']
      have er : LX10_sayField_36 FU (nI (8 + F)) 0 (up (wrT B n (tE B n p) c T1) 146 (8 + F) 0) = BX10_sayField_109 (nI (8 + F)) (nI 0) (up (wrT B n (tE B n p) c T1) 146 (8 + F) 0) := by
        show KX10_sayField_36 (LX10_sayField_36 4999) (nI (8 + F)) 0 _ = _
        unfold KX10_sayField_36
        rw [if_neg mb']; rfl
      have mb2 : ¬ up (up (up (up (wrT B n (tE B n p) c T1) 146 (8 + F) 0) 147 (8 + F) (nI 0)) 153 (8 + F) (-1)) 145 5 (up (wrT B n (tE B n p) c T1) 146 (8 + F) 0 145 5 + 1) 142 24 = 0 := by rw [up_ne (by decide), up_ne (by decide), up_ne (by decide)]; exact mb'
      rw [el, er, m_109 (by omega) rfl, bv_s, mark_bad mb2]
      exact ⟨_, _, rfl, rfl, lc.up (by omega), (((lm.up (by omega)).up (by omega)).up (by omega)).up (by omega), Or.inl ⟨c, _, je.go (up_ne (by omega)) (by rw [up_ne (by decide), up_ne (by decide), up_ne (by decide), up_ne (by decide)]) (by rw [up_ne (by decide), up_ne (by decide), up_ne (by decide), up_ne (by decide)])⟩⟩
    | none =>
      obtain ⟨k2, -, z1, z99⟩ := nE_none hn
      have tk1 := tK_adv (B := B) (n := n) (p := tE B n p) (by omega)
      generalize tN B n (tE B n p) = z at z1 z99
      dsimp only
      rw [bd_s, srv3 hd, wrv1 hd (by omega), bd_s, h1.ok24, if_pos rfl]
      have hS2 : LC B n d (up S1 (d + 1) F (nI z)) T1 (tE B n p) F P N sX fX e1 e2 := by
        refine ⟨h1.1.mv (up_ne (by omega)) (up_ne (by omega)) (up_ne (by omega)) rfl (fun _ _ _ => rfl), h1.2.1.ag ⟨fun j hj => by rw [up_ne (by omega)], fun f hf => ⟨by rw [up_off (by omega)], by rw [up_ne (by omega)]⟩, fun j hj => by rw [up_ne (by omega)], ⟨up_ne (by omega), up_ne (by omega)⟩, fun s hs => ⟨by rw [up_ne (by omega)], by rw [up_ne (by omega)]⟩, fun j hj => by rw [up_ne (by omega)], up_ne (by omega), up_ne (by omega), up_ne (by omega), up_ne (by omega)⟩ (aM.eq (fun _ _ _ => rfl)), h1.2.2.1, h1.2.2.2⟩
      obtain ⟨S3, T3, a3, b3, h3, f3, g3⟩ := hS2.step
      rw [hS2.pass a3, bv_s, b3, bv_s, ri_s, bd_s, wr146 (by omega)]
      refine J_noteL (P := P) (N := N) (ac := z) (by omega) ⟨z1, z99⟩ FU 0 S3 (up T3 146 (8 + F) (nI z)) (tE B n (tE B n p)) (by unfold FU; omega) (by omega) ?_ ((c1.up (by omega)).a f3) ((m1.s g3).up (by omega)) (by omega) ?_ up_at (fun j hj => absurd hj (by omega))
      · refine ⟨h3.1.mv rfl rfl rfl (up_ne (by decide)) (fun j _ _ => by rw [up_ne (by decide)]), h3.2.1.ag aC.rf ⟨fun j _ _ => by rw [up_ne (by decide)], fun f hf => ⟨by rw [up_off (by omega)], by rw [up_ne (by decide)], by rw [up_ne (by decide)]⟩, fun j q1 q2 => by rw [up_ne (by decide)], fun j _ => by rw [up_ne (by decide)], fun s hs => ⟨by rw [up_ne (by decide)], by rw [up_ne (by decide)]⟩, fun j _ _ => by rw [up_ne (by decide)], fun j _ => ⟨by rw [up_ne (by decide)], by rw [up_ne (by decide)]⟩⟩, h3.2.2.1, h3.2.2.2⟩
      · rw [f3 _ (by omega), up_at]
end LF
