/-! singer -/
section LS
variable {B : Nat → Nat} {n d p F P N e1 e2 : Nat} {S T : St} {sX fX : Option (List Nat)}
theorem J_placeL {S0 T0 : St} {p0 : Nat} (N6 : N < 6) : ∀ (k i : Nat) (S T : St) (p : Nat), 8 < k + i → i ≤ 6 → LC B n d S T p F P N sX fX e1 e2 → cD d S0 S → mD T0 T → tS B n p0 < tS B n p → (∀ j, j < i → ∃ f, f < F ∧ S (d + 7) (N * 6 + j) = nI f ∧ T 150 (6 * (6 + N) + j) = nI f) → ∃ S' T', LX6_singerLine_29 k (nI N) (nI i) (nI i) S = some S' ∧ (bv (LX10_saySinger_24 k (nI (6 + N)) (nI i) T) fun S => fX10_mark 59 S) = some T' ∧ LR B n d S0 T0 p0 sX fX e1 e2 S' T' := by
  intro k
  induction k with
  | zero => intro i S T p hk hi; omega
  | succ k ih =>
    intro i S T p hk hi h hc hm hp0 hw
    have hd := h.hd
    obtain ⟨⟨hF, hP, hN⟩, ⟨s0, s1, s2⟩, ⟨t5, t6, t7⟩, -⟩ := id h.2.1
    have hMT := h.1.1.2.1
    have k61 := tK_le (B := B) (n := n) (p := p) h.1.2.1.B
    show ∃ S' T', KX6_singerLine_29 (LX6_singerLine_29 k) (nI N) (nI i) (nI i) S = some S' ∧ (bv (KX10_saySinger_24 (LX10_saySinger_24 k) (nI (6 + N)) (nI i) T) fun S => fX10_mark 59 S) = some T' ∧ _
    unfold KX6_singerLine_29 KX10_saySinger_24
    rw [if_neg (show ¬ (6 : Int32) < _ from nI_nlt (a := 6) hi (by decide)), h.ok3, if_pos rfl, h.ok24, if_pos rfl]
    -- the end of the line
    have fin : 1 ≤ i → ∃ S' T', BX6_singerLine_102 (nI N) (nI i) S = some S' ∧ (bv (BX10_saySinger_94 (nI (6 + N)) (nI i) T) fun S => fX10_mark 59 S) = some T' ∧ LR B n d S0 T0 p0 sX fX e1 e2 S' T' := by
      intro i1
      obtain ⟨g, gF, gS, gT⟩ := hw 0 (by omega)
      rw [Nat.add_zero] at gS gT
      have eg : ((1 : Int32) <<< (nI g &&& 31)) = nI (2 ^ g) := sh_N g (by omega)
      unfold BX10_saySinger_94
      rw [h.ok24, if_pos rfl, wr151 (by omega), lm6, rd150 (by omega), up_ne (by decide), gT, eg, wr152 (by omega), rd145_7, up_ne (by decide), up_ne (by decide), t7, nI_1, wr145_7, bv_s]
      generalize hT2 : up (up (up T 151 (6 + N) (nI i)) 152 (6 + N) (nI (2 ^ g))) 145 7 (nI (N + 1)) = T2
      have tc : ∀ a, a ≠ 151 → a ≠ 152 → a ≠ 145 → T2 a = T a := fun a q1 q2 q3 => by rw [← hT2, up_ne q3, up_ne q2, up_ne q1]
      have hJ2 : JW B n d S T2 p := h.1.mv rfl rfl rfl (tc _ (by decide) (by decide) (by decide)) (fun j _ _ => by rw [tc _ (by decide) (by decide) (by decide)])
      have m2 : mD T0 T2 := by rw [← hT2]; exact ((hm.up (by omega)).up (by omega)).up (by omega)
      obtain ⟨S3, T3, a3, b3, f3, m3, g3, -, r3⟩ := J_end hJ2
      unfold BX6_singerLine_102
      rw [a3, bv_s, b3]
      have c3 : cD d S0 S3 := hc.tr (fun a q1 q2 => f3 a (by omega) (by omega))
      rcases r3 with ⟨kE, j3, e32⟩ | je
      · have tk3 := tK_adv (B := B) (n := n) (p := p) (by omega)
        have s23 : S3 d 2 = nI N := by rw [f3 d (by omega) (by omega)]; exact s2
        have gS3 : S3 (d + 7) (N * 6) = nI g := by rw [f3 _ (by omega) (by omega)]; exact gS
        rw [j3.2.2.2.2.1, if_pos rfl, gm_v j3.2.2.2.1 hd, srv8 hd, wrv6 hd (by omega)]
        have g32 : up S3 (d + 6) N (nI i) 32 2 = nI d := by rw [up_ne (by omega)]; exact j3.2.2.2.1
        rw [gm_v g32 hd, gm_v g32 hd, srv9 hd, rm6, rdv7 hd (by omega), up_ne (by omega), gS3, srv10 hd, eg, wrv8 hd (by omega)]
        have g33 : up (up S3 (d + 6) N (nI i)) (d + 8) N (nI (2 ^ g)) 32 2 = nI d := by rw [up_ne (by omega)]; exact g32
        rw [gm_v g33 hd, pf_s, up_ne (by omega), up_ne (by omega), s23, nI_1]
        generalize hS4 : up (up (up S3 (d + 6) N (nI i)) (d + 8) N (nI (2 ^ g))) d 2 (nI (N + 1)) = S4
        have s4c : ∀ a, a ≠ d → a ≠ d + 6 → a ≠ d + 8 → S4 a = S3 a := fun a q1 q2 q3 => by rw [← hS4, up_ne q1, up_ne q3, up_ne q2]
        refine ⟨_, _, rfl, rfl, c3.tr (fun a q1 q2 => s4c a (by omega) (by omega) (by omega)), m2.tr m3, Or.inr ⟨_, F, P, N + 1, ⟨j3.mv (s4c _ (by omega) (by omega) (by omega)) (s4c _ (by omega) (by omega) (by omega)) (s4c _ (by omega) (by omega) (by omega)) rfl (fun _ _ _ => rfl), ?_, ?_, ?_⟩, by omega⟩⟩
        · obtain ⟨hb', hs', ht', dF', dP', dS', dO', dR1', dR2'⟩ := id h.2.1
          have cc : ∀ a, d ≤ a → a ≤ d + 13 → a ≠ d → a ≠ d + 6 → a ≠ d + 8 → S4 a = S a := fun a q1 q2 q3 q4 q5 => by rw [s4c a q3 q4 q5]; exact f3 a (by omega) (by omega)
          have mm : ∀ a, 145 ≤ a → a ≤ 155 → a ≠ 145 → a ≠ 151 → a ≠ 152 → T3 a = T a := fun a q1 q2 q3 q4 q5 => by rw [g3 a (by omega)]; exact tc a q4 q5 q3
          have t145 : ∀ j, j ≠ 7 → T3 145 j = T 145 j := fun j hj => by rw [g3 145 (by decide), ← hT2, up_off hj, up_ne (by decide), up_ne (by decide)]
          have s4d : ∀ j, j ≠ 2 → S4 d j = S d j := fun j hj => by rw [← hS4, up_off hj, up_ne (by omega), up_ne (by omega), f3 d (by omega) (by omega)]
          have e6 : ∀ q, S4 (d + 6) q = if q = N then nI i else S (d + 6) q := fun q => by
            rw [← hS4, up_ne (by omega), up_ne (by omega)]
            by_cases c : q = N
            · rw [if_pos c, c, up_at]
            · rw [if_neg c, up_off c, f3 _ (by omega) (by omega)]
          have e8 : ∀ q, S4 (d + 8) q = if q = N then nI (2 ^ g) else S (d + 8) q := fun q => by
            rw [← hS4, up_ne (by omega)]
            by_cases c : q = N
            · rw [if_pos c, c, up_at]
            · rw [if_neg c, up_off c, up_ne (by omega), f3 _ (by omega) (by omega)]
          have e151 : ∀ q, T3 151 q = if q = 6 + N then nI i else T 151 q := fun q => by
            rw [g3 151 (by decide), ← hT2, up_ne (by decide), up_ne (by decide)]
            by_cases c : q = 6 + N
            · rw [if_pos c, c, up_at]
            · rw [if_neg c, up_off c]
          have e152 : ∀ q, T3 152 q = if q = 6 + N then nI (2 ^ g) else T 152 q := fun q => by
            rw [g3 152 (by decide), ← hT2, up_ne (by decide)]
            by_cases c : q = 6 + N
            · rw [if_pos c, c, up_at]
            · rw [if_neg c, up_off c, up_ne (by decide)]
          refine ⟨⟨hF, hP, by omega⟩, ⟨by rw [s4d 0 (by decide)]; exact s0, by rw [s4d 1 (by decide)]; exact s1, by rw [← hS4, up_at]⟩, ⟨by rw [t145 5 (by decide)]; exact t5, by rw [t145 6 (by decide)]; exact t6, by rw [g3 145 (by decide), ← hT2, up_at]⟩, ?_, ?_, fun s hs => ?_, ⟨fun f hf => ?_, fun f q1 q2 => ?_⟩, dR1'.go (cc _ (by omega) (by omega) (by omega) (by omega) (by omega)) (cc _ (by omega) (by omega) (by omega) (by omega) (by omega)) (t145 _ (by decide)) (fun j _ => by rw [mm (sgc true) (by decide) (by decide) (by decide) (by decide) (by decide)]), dR2'.go (cc _ (by omega) (by omega) (by omega) (by omega) (by omega)) (cc _ (by omega) (by omega) (by omega) (by omega) (by omega)) (t145 _ (by decide)) (fun j _ => by rw [mm (sgc false) (by decide) (by decide) (by decide) (by decide) (by decide)])⟩
          · unfold RDf at dF' ⊢
            rw [cc (d + 1) (by omega) (by omega) (by omega) (by omega) (by omega), cc (d + 2) (by omega) (by omega) (by omega) (by omega) (by omega), cc (d + 3) (by omega) (by omega) (by omega) (by omega) (by omega), mm 146 (by omega) (by omega) (by omega) (by omega) (by omega), mm 147 (by omega) (by omega) (by omega) (by omega) (by omega), mm 148 (by omega) (by omega) (by omega) (by omega) (by omega)]
            exact dF'
          · unfold RDp at dP' ⊢
            rw [cc (d + 4) (by omega) (by omega) (by omega) (by omega) (by omega), cc (d + 5) (by omega) (by omega) (by omega) (by omega) (by omega), mm 149 (by omega) (by omega) (by omega) (by omega) (by omega)]
            exact dP'
          · rw [cc (d + 7) (by omega) (by omega) (by omega) (by omega) (by omega), mm 150 (by omega) (by omega) (by omega) (by omega) (by omega), e6, e8, e151, e152]
            by_cases c : s = N
            · rw [c, if_pos rfl, if_pos rfl, if_pos rfl, if_pos rfl]
              exact ⟨⟨i, i1, hi, rfl, rfl, hw⟩, 2 ^ g, pw_lt gF, rfl, rfl⟩
            · rw [if_neg c, if_neg c, if_neg (by omega), if_neg (by omega)]
              exact dS' s (by omega)
          · rw [cc (d + 9) (by omega) (by omega) (by omega) (by omega) (by omega), mm 153 (by omega) (by omega) (by omega) (by omega) (by omega)]
            rcases dO'.1 f hf with q | ⟨o, o1, o2⟩
            · exact Or.inl q
            · exact Or.inr ⟨o, by omega, o2⟩
          · rw [cc (d + 9) (by omega) (by omega) (by omega) (by omega) (by omega)]; exact dO'.2 f q1 q2
        · have := h.2.2.1; omega
        · have := h.2.2.2; omega
      · rw [if_neg je.cb]
        exact ⟨_, _, rfl, rfl, c3, m2.tr m3, Or.inl ⟨_, _, je⟩⟩
    -- one more place
    have on : (i < 1 ∨ tK B n p = 2) → ∃ S' T', BX6_singerLine_58 (LX6_singerLine_29 k) (nI N) (nI i) (nI i) S = some S' ∧ (bv (BX10_saySinger_43 (LX10_saySinger_24 k) (nI (6 + N)) (nI i) T) fun S => fX10_mark 59 S) = some T' ∧ LR B n d S0 T0 p0 sX fX e1 e2 S' T' := by
      intro ht
      unfold BX6_singerLine_58 BX10_saySinger_43
      by_cases c6 : i = 6
      · have k2 : tK B n p = 2 := by omega
        obtain ⟨je, lr⟩ := h.flt (p0 := p0) (c := 2) (by decide) (by decide) hc hm
        rw [if_pos (by rw [c6]; rfl), hMT.2.2.1, if_pos (by rw [mkT_e.2.2.1 k2]; rfl), if_pos (by rw [c6]; rfl), show (2 : Int32) = nI 2 from rfl, c_refuse h.1, bd_s, m_wrong h.1, bv_s]
        unfold BX10_saySinger_62
        rw [m_ro_bad je.mb, bd_s, if_neg je.mb, bv_s, mark_bad je.mb]
        exact ⟨_, _, rfl, rfl, lr⟩
      · have n6 : ¬ nI i = (6 : Int32) := fun z => c6 ((nI_eq (b := 6) (by omega) (by decide)).mp z)
        have e75 : (if (T 142 20) = 2 then (if nI i = 6 then bv (fX10_wrong 2 T) fun S => (BX10_saySinger_62 (LX10_saySinger_24 k) (nI (6 + N)) (nI i) S) else (BX10_saySinger_62 (LX10_saySinger_24 k) (nI (6 + N)) (nI i) T)) else (BX10_saySinger_62 (LX10_saySinger_24 k) (nI (6 + N)) (nI i) T)) = BX10_saySinger_62 (LX10_saySinger_24 k) (nI (6 + N)) (nI i) T := by
          rw [if_neg n6]; split <;> rfl
        rw [if_neg n6, e75, gm_v h.d32 hd]
        unfold BX10_saySinger_62 fX10_readOne
        rw [c_fh h.1 hF s0, show fX10_oneNow 0 T = _ from m_one h.1 (i := 0) rfl (by decide) hF t5]
        cases hn : oE B n F p with
        | some c =>
          obtain ⟨c15, c15'⟩ := oE_some hn
          obtain ⟨je, lr⟩ := h.flt (p0 := p0) c15 c15' hc hm
          obtain ⟨lc, lm, lo⟩ := lr
          dsimp only
          rw [bd_s, srv9 hd, rm6, nI_add, wrv7 hd (by omega)]
          have cb' : ¬ up (flt B n p c S) (d + 7) (N * 6 + i) 0 32 3 = 0 := by rw [up_ne (by omega)]; exact je.cb
          rw [c_pass_bad cb', bv_s, vl_s, nI_1, vl_s]
          obtain ⟨k', rfl⟩ : ∃ k', k = k' + 1 := ⟨k - 1, by omega⟩
          rw [bd_s, if_neg je.mb, ri_s, bd_s, if_neg je.mb, bv_s, mark_bad je.mb]
          have el : LX6_singerLine_29 (k' + 1) (nI N) (nI (i + 1)) (nI (i + 1)) (up (flt B n p c S) (d + 7) (N * 6 + i) 0) = some (up (flt B n p c S) (d + 7) (N * 6 + i) 0) := by
            show KX6_singerLine_29 (LX6_singerLine_29 k') (nI N) (nI (i + 1)) (nI (i + 1)) _ = _
            unfold KX6_singerLine_29 BX6_singerLine_102
            rw [if_neg (show ¬ (6 : Int32) < _ from nI_nlt (a := 6) (by omega) (by decide)), if_neg cb', c_passEnd_bad cb', bv_s, if_neg cb']
          rw [el]
          exact ⟨_, _, rfl, rfl, lc.up (by omega), lm, Or.inl ⟨c, p, je.go (up_ne (by omega)) rfl rfl⟩⟩
        | none =>
          obtain ⟨k2, -, zF⟩ := oE_none hn
          have tk := tK_adv (B := B) (n := n) (p := p) (by omega)
          generalize tN B n p = z at zF
          dsimp only
          rw [bd_s, srv9 hd, rm6, nI_add, wrv7 hd (by omega), bd_s, h.ok24, if_pos rfl]
          have hS1 : LC B n d (up S (d + 7) (N * 6 + i) (nI z)) T p F P N sX fX e1 e2 := by
            refine ⟨h.1.mv (up_ne (by omega)) (up_ne (by omega)) (up_ne (by omega)) rfl (fun _ _ _ => rfl), h.2.1.ag ⟨fun j hj => by rw [up_ne (by omega)], fun f hf => ⟨by rw [up_ne (by omega)], by rw [up_ne (by omega)]⟩, fun j hj => by rw [up_ne (by omega)], ⟨up_ne (by omega), up_ne (by omega)⟩, fun s hs => ⟨by rw [up_ne (by omega)], by rw [up_ne (by omega)]⟩, fun j hj => by rw [up_off (by omega)], up_ne (by omega), up_ne (by omega), up_ne (by omega), up_ne (by omega)⟩ (aM.eq (fun _ _ _ => rfl)), h.2.2.1, h.2.2.2⟩
          obtain ⟨S2, T2, a2, b2, h2, f2, g2⟩ := hS1.step
          rw [hS1.pass a2, bv_s, vl_s, nI_1, vl_s, b2, bv_s, ri_s, bd_s, h2.ok24, if_pos rfl, lm6, nI_add, wr150 (by omega), vl_s]
          refine ih (i + 1) S2 (up T2 150 (6 * (6 + N) + i) (nI z)) (tE B n p) (by omega) (by omega) ?_ ((hc.up (by omega)).a f2) ((hm.s g2).up (by omega)) (by omega) (fun j hj => ?_)
          · refine ⟨h2.1.mv rfl rfl rfl (up_ne (by decide)) (fun j _ _ => by rw [up_ne (by decide)]), h2.2.1.ag aC.rf ⟨fun j _ _ => by rw [up_ne (by decide)], fun f hf => ⟨by rw [up_ne (by decide)], by rw [up_ne (by decide)], by rw [up_ne (by decide)]⟩, fun j q1 q2 => by rw [up_ne (by decide)], fun j _ => by rw [up_ne (by decide)], fun s hs => ⟨by rw [up_ne (by decide)], by rw [up_ne (by decide)]⟩, fun j _ _ => by rw [up_off (by omega)], fun j _ => ⟨by rw [up_ne (by decide)], by rw [up_ne (by decide)]⟩⟩, h2.2.2.1, h2.2.2.2⟩
          · rw [f2 _ (by omega)]
            by_cases c : j = i
            · subst c; exact ⟨z, zF, up_at, up_at⟩
            · rw [up_off (by omega), up_off (by omega), g2.1 150 (by decide)]; exact hw j (by omega)
    by_cases c2 : i < 1
    · rw [if_pos (show _ < (1 : Int32) from nI_lt (b := 1) c2 (by decide)), if_pos (show nI i = (0 : Int32) from by rw [show i = 0 by omega]; rfl)]
      exact on (Or.inl c2)
    · rw [if_neg (show ¬ _ < (1 : Int32) from nI_nlt (b := 1) (by omega) (by omega)), if_neg (show ¬ nI i = (0 : Int32) from nI_ne0 (by omega) (by omega)), h.1.1.1.2.2.1, hMT.2.2.1]
      by_cases k2 : tK B n p = 2
      · rw [if_pos (by rw [k2]; rfl), if_pos (by rw [mkT_e.2.2.1 k2]; rfl)]
        exact on (Or.inr k2)
      · have mk2 : mkT (tK B n p) ≠ 2 ∧ mkT (tK B n p) ≤ 61 := by
          unfold mkT
          split
          · omega
          · split <;> omega
        rw [if_neg (show ¬ nI (tK B n p) = (2 : Int32) from by rw [show (2 : Int32) = nI 2 from rfl, nI_eq (by omega) (by omega)]; exact k2), if_neg (show ¬ nI (mkT (tK B n p)) = (2 : Int32) from by rw [show (2 : Int32) = nI 2 from rfl, nI_eq (by omega) (by omega)]; exact mk2.1)]
        exact fin (by omega)
theorem J_singer (h : LC B n d S T p F P N sX fX e1 e2) (hk : tK B n p ≠ 0) : ∃ S' T', fX6_singerLine S = some S' ∧ (bv (fX10_saySinger T) fun S => fX10_mark 59 S) = some T' ∧ LR B n d S T p sX fX e1 e2 S' T' := by
  have hd := h.hd
  have tk := tK_adv hk
  obtain ⟨⟨hF, hP, hN⟩, ⟨s0, s1, s2⟩, ⟨t5, t6, t7⟩, -⟩ := id h.2.1
  unfold fX6_singerLine fX10_saySinger fX10_another
  rw [gm_v h.d32 hd, vl_s, s2, show (5 : Int32) + 2 = nI 7 from rfl, rd145 (by decide), t7]
  by_cases c6 : N = 6
  · obtain ⟨je, lr⟩ := h.flt (p0 := p) (c := 2) (by decide) (by decide) cD.rf mD.rf
    rw [if_neg (show ¬ _ < (6 : Int32) from nI_nlt (b := 6) (by omega) (by omega)), show (2 : Int32) = nI 2 from rfl, c_refuse h.1, bd_s, if_pos (by rw [c6]; rfl), m_wrong h.1, bv_s]
    unfold BX10_another_17
    rw [if_neg je.mb, rz_0, bd_s, if_pos rfl, bv_s, mark_bad je.mb]
    exact ⟨_, _, rfl, rfl, lr⟩
  · obtain ⟨S1, T1, a1, b1, h1, f1, g1⟩ := h.step
    have c1 : cD d S S1 := cD.rf.a f1
    have m1 : mD T T1 := mD.rf.s g1
    rw [if_pos (show _ < (6 : Int32) from nI_lt (b := 6) (by omega) (by decide)), if_neg (show ¬ nI N = (6 : Int32) from fun z => c6 ((nI_eq (b := 6) (by omega) (by decide)).mp z)), h.pass a1, bv_s]
    unfold BX10_another_17
    obtain ⟨-, -, ⟨t5', t6', t7'⟩, -⟩ := id h1.2.1
    rw [h.ok24, if_pos rfl, b1, bv_s, rz_1, bd_s, if_neg (by decide), rd145_7, t7', vl_s, la6]
    exact J_placeL (P := P) (F := F) (by omega) FU 0 S1 T1 (tE B n p) (by unfold FU; omega) (by omega) h1 c1 m1 (by omega) (fun j hj => absurd hj (by omega))
end LS
