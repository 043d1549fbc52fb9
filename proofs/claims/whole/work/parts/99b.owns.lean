/-! owns; path -/
section LO
variable {B : Nat → Nat} {n d p F P N e1 e2 : Nat} {S T : St} {sX fX : Option (List Nat)}
theorem J_owns (h : LC B n d S T p F P N sX fX e1 e2) (hk : tK B n p ≠ 0) : ∃ S' T', fX6_ownsLine S = some S' ∧ (bv (fX10_sayOwns T) fun S => fX10_mark 59 S) = some T' ∧ LR B n d S T p sX fX e1 e2 S' T' := by
  have hd := h.hd
  obtain ⟨S1, T1, a1, b1, h1, f1, g1⟩ := h.step
  have c1 : cD d S S1 := cD.rf.a f1
  have m1 : mD T T1 := mD.rf.s g1
  have tk := tK_adv hk
  unfold fX6_ownsLine fX10_sayOwns
  rw [h.pass a1, bv_s, h.ok24, if_pos rfl, b1, bv_s]
  unfold BX10_sayOwns_11 fX10_readOne
  obtain ⟨⟨hF, hP, hN⟩, ⟨s0, s1, s2⟩, ⟨t5, t6, t7⟩, -⟩ := id h1.2.1
  rw [c_sh h1.1 (by omega) s2, show fX10_oneNow 2 T1 = _ from m_one h1.1 (i := 2) rfl (by decide) (show N ≤ 8 by omega) t7]
  cases ho : oE B n N (tE B n p) with
  | some c =>
    obtain ⟨je, lr⟩ := h1.flt (p0 := p) (oE_some ho).1 (oE_some ho).2 c1 m1
    dsimp only
    rw [bd_s, c_pass_bad je.cb, bv_s, c_fh_bad hd je.1 je.cb, bd_s, if_neg je.cb]
    unfold BX6_ownsLine_44
    rw [c_pass_bad je.cb, bv_s, c_passEnd_bad je.cb, bv_s, if_neg je.cb, bd_s, if_neg je.mb, ri_s, bd_s, m_on_bad je.mb, bd_s, if_neg je.mb]
    unfold BX10_sayOwns_48
    rw [if_neg je.mb, bv_s, mark_bad je.mb]
    exact ⟨_, _, rfl, rfl, lr⟩
  | none =>
    obtain ⟨k2, -, sN⟩ := oE_none ho
    have tk1 := tK_adv (B := B) (n := n) (p := tE B n p) (by omega)
    obtain ⟨S2, T2, a2, b2, h2, f2, g2⟩ := h1.step
    have c2 : cD d S S2 := c1.a f2
    have m2 : mD T T2 := m1.s g2
    generalize tN B n (tE B n p) = s at sN
    dsimp only
    rw [bd_s, h1.pass a2, bv_s, bd_s, h1.ok24, if_pos rfl, b2, bv_s, ri_s, bd_s]
    obtain ⟨-, ⟨s0', s1', s2'⟩, ⟨t5', t6', t7'⟩, -, -, -, dO, -⟩ := id h2.2.1
    rw [c_fh h2.1 hF s0', show fX10_oneNow 0 T2 = _ from m_one h2.1 (i := 0) rfl (by decide) hF t5']
    cases ho2 : oE B n F (tE B n (tE B n p)) with
    | some c =>
      obtain ⟨je, lr⟩ := h2.flt (p0 := p) (oE_some ho2).1 (oE_some ho2).2 c2 m2
      dsimp only
      rw [bd_s, if_neg je.cb]
      unfold BX6_ownsLine_44
      rw [c_pass_bad je.cb, bv_s, c_passEnd_bad je.cb, bv_s, if_neg je.cb, bd_s, if_neg je.mb]
      unfold BX10_sayOwns_48
      rw [if_neg je.mb, bv_s, mark_bad je.mb]
      exact ⟨_, _, rfl, rfl, lr⟩
    | none =>
      obtain ⟨k3, -, fN⟩ := oE_none ho2
      have tk2 := tK_adv (B := B) (n := n) (p := tE B n (tE B n p)) (by omega)
      generalize tN B n (tE B n (tE B n p)) = f at fN
      have hd2 := h2.d32
      have eq : S2 (d + 9) f = T2 153 (8 + f) := by
        rcases dO.1 f fN with ⟨q1, q2⟩ | ⟨o, -, q1, q2⟩
        · rw [q1, q2]
        · rw [q1, q2]
      dsimp only
      rw [bd_s, h2.ok3, if_pos rfl, gm_v hd2 hd, srv11 hd, rdv9 hd (by omega), eq, bd_s, h2.ok24, if_pos rfl, show (8 : Int32) = nI 8 from rfl, nI_add, rd153 (by omega)]
      by_cases hb : T2 153 (8 + f) = -1
      · obtain ⟨S3, T3, a3, b3, h3, f3, g3⟩ := h2.step
        have c3 : cD d S S3 := c2.a f3
        have m3 : mD T T3 := m2.s g3
        rw [if_pos hb, if_pos hb]
        unfold BX6_ownsLine_44 BX10_sayOwns_48
        rw [h2.pass a3, bv_s, h2.ok24, if_pos rfl, b3, bv_s, show (8 : Int32) = nI 8 from rfl, nI_add, wr153 (by omega), bv_s]
        have hJ4 : JW B n d S3 (up T3 153 (8 + f) (nI s)) (tE B n (tE B n (tE B n p))) := h3.1.mv rfl rfl rfl (up_ne (by decide)) (fun j _ _ => by rw [up_ne (by decide)])
        obtain ⟨S5, T5, a5, b5, f5, m5, g5, -, r5⟩ := J_end hJ4
        rw [a5, bv_s, b5]
        have c5 : cD d S S5 := c3.tr (fun a q1 q2 => f5 a (by omega) (by omega))
        have m5' : mD T T5 := (m3.up (by omega)).tr m5
        rcases r5 with ⟨kE, j5, e32⟩ | je
        · have tk3 := tK_adv (B := B) (n := n) (p := tE B n (tE B n (tE B n p))) (by omega)
          rw [j5.2.2.2.2.1, if_pos rfl, gm_v j5.2.2.2.1 hd, srv11 hd, wrv9 hd (by omega)]
          refine ⟨_, _, rfl, rfl, c5.up (by omega), m5', Or.inr ⟨_, F, P, N, ⟨j5.mv (up_ne (by omega)) (up_ne (by omega)) (up_ne (by omega)) rfl (fun _ _ _ => rfl), ?_, ?_, ?_⟩, by omega⟩⟩
          · obtain ⟨hb', hs', ht', dF', dP', dS', dO', dR1', dR2'⟩ := id h3.2.1
            have cc : ∀ a, d ≤ a → a ≤ d + 13 → a ≠ d + 9 → up S5 (d + 9) f (nI s) a = S3 a := fun a q1 q2 q3 => by rw [up_ne q3]; exact f5 a (by omega) (by omega)
            have mm : ∀ a, 145 ≤ a → a ≤ 155 → a ≠ 153 → T5 a = T3 a := fun a q1 q2 q3 => by rw [g5 a (by omega), up_ne q3]
            refine ⟨hb', by rw [cc d (by omega) (by omega) (by omega)]; exact hs', by rw [mm 145 (by omega) (by omega) (by omega)]; exact ht', ?_, ?_, ?_, ⟨fun q hq => ?_, fun q q1 q2 => ?_⟩, dR1'.go (cc _ (by omega) (by omega) (by omega)) (cc _ (by omega) (by omega) (by omega)) (by rw [mm 145 (by omega) (by omega) (by omega)]) (fun j _ => by rw [mm (sgc true) (by decide) (by decide) (by decide)]), dR2'.go (cc _ (by omega) (by omega) (by omega)) (cc _ (by omega) (by omega) (by omega)) (by rw [mm 145 (by omega) (by omega) (by omega)]) (fun j _ => by rw [mm (sgc false) (by decide) (by decide) (by decide)])⟩
            · unfold RDf at dF' ⊢
              rw [cc (d + 1) (by omega) (by omega) (by omega), cc (d + 2) (by omega) (by omega) (by omega), cc (d + 3) (by omega) (by omega) (by omega), mm 146 (by omega) (by omega) (by omega), mm 147 (by omega) (by omega) (by omega), mm 148 (by omega) (by omega) (by omega)]
              exact dF'
            · unfold RDp at dP' ⊢
              rw [cc (d + 4) (by omega) (by omega) (by omega), cc (d + 5) (by omega) (by omega) (by omega), mm 149 (by omega) (by omega) (by omega)]
              exact dP'
            · unfold RDs at dS' ⊢
              rw [cc (d + 6) (by omega) (by omega) (by omega), cc (d + 7) (by omega) (by omega) (by omega), cc (d + 8) (by omega) (by omega) (by omega), mm 151 (by omega) (by omega) (by omega), mm 150 (by omega) (by omega) (by omega), mm 152 (by omega) (by omega) (by omega)]
              exact dS'
            · by_cases c : q = f
              · subst c
                exact Or.inr ⟨s, sN, up_at, by rw [g5 153 (by decide), up_at]⟩
              · rw [up_off c, f5 _ (by omega) (by omega), g5 153 (by decide), up_off (by omega)]
                exact dO'.1 q hq
            · rw [up_off (by omega), f5 _ (by omega) (by omega)]; exact dO'.2 q q1 q2
          · have := h3.2.2.1; omega
          · have := h3.2.2.2; omega
        · rw [if_neg je.cb]
          exact ⟨_, _, rfl, rfl, c5, m5', Or.inl ⟨_, _, je⟩⟩
      · obtain ⟨je, lr⟩ := h2.flt (p0 := p) (c := 4) (by decide) (by decide) c2 m2
        rw [if_neg hb, if_neg hb, show (4 : Int32) = nI 4 from rfl, c_refuse h2.1, bd_s, m_wrong h2.1, bv_s]
        unfold BX6_ownsLine_44 BX10_sayOwns_48
        rw [c_pass_bad je.cb, bv_s, c_passEnd_bad je.cb, bv_s, if_neg je.cb, if_neg je.mb, bv_s, mark_bad je.mb]
        exact ⟨_, _, rfl, rfl, lr⟩
theorem J_path (h : LC B n d S T p F P N sX fX e1 e2) (hk : tK B n p ≠ 0) : ∃ S' T', fX6_pathLine S = some S' ∧ (bv (fX10_sayPath T) fun S => fX10_mark 59 S) = some T' ∧ LR B n d S T p sX fX e1 e2 S' T' := by
  have hd := h.hd
  have tk := tK_adv hk
  obtain ⟨⟨hF, hP, hN⟩, ⟨s0, s1, s2⟩, ⟨t5, t6, t7⟩, -⟩ := id h.2.1
  unfold fX6_pathLine fX10_sayPath fX10_another
  rw [gm_v h.d32 hd, s1, show (5 : Int32) + 1 = nI 6 from rfl, rd145 (by decide), t6]
  by_cases c14 : P = 14
  · obtain ⟨je, lr⟩ := h.flt (p0 := p) (c := 2) (by decide) (by decide) cD.rf mD.rf
    rw [if_neg (show ¬ _ < (14 : Int32) from nI_nlt (b := 14) (by omega) (by omega)), show (2 : Int32) = nI 2 from rfl, c_refuse h.1, bd_s, if_pos (by rw [c14]; rfl), m_wrong h.1, bv_s]
    unfold BX10_another_17
    rw [if_neg je.mb, rz_0, bd_s, if_pos rfl, bv_s, mark_bad je.mb]
    exact ⟨_, _, rfl, rfl, lr⟩
  · obtain ⟨S1, T1, a1, b1, h1, f1, g1⟩ := h.step
    have c1 : cD d S S1 := cD.rf.a f1
    have m1 : mD T T1 := mD.rf.s g1
    rw [if_pos (show _ < (14 : Int32) from nI_lt (b := 14) (by omega) (by decide)), if_neg (show ¬ nI P = (14 : Int32) from fun z => c14 ((nI_eq (b := 14) (by omega) (by decide)).mp z)), h.pass a1, bv_s]
    unfold BX10_another_17
    rw [h.ok24, if_pos rfl, b1, bv_s, rz_1, bd_s, if_neg (by decide)]
    unfold fX10_readOne
    obtain ⟨-, ⟨s0', s1', s2'⟩, ⟨t5', t6', t7'⟩, -⟩ := id h1.2.1
    rw [c_fh h1.1 hF s0', show fX10_oneNow 0 T1 = _ from m_one h1.1 (i := 0) rfl (by decide) hF t5']
    cases ho : oE B n F (tE B n p) with
    | some c =>
      obtain ⟨je, lr⟩ := h1.flt (p0 := p) (oE_some ho).1 (oE_some ho).2 c1 m1
      dsimp only
      rw [bd_s, c_pass_bad je.cb, bv_s, c_fh_bad hd je.1 je.cb, bd_s, if_neg je.cb]
      unfold BX6_pathLine_71
      rw [c_pass_bad je.cb, bv_s, c_nh_bad je.cb, bd_s, c_pass_bad je.cb, bv_s, c_passEnd_bad je.cb, bv_s, if_neg je.cb, bd_s, if_neg je.mb, ri_s, bd_s, m_on_bad je.mb, bd_s, if_neg je.mb]
      unfold BX10_sayPath_59 BX10_sayPath_70
      rw [if_neg je.mb, m_rn_bad je.mb, bd_s, if_neg je.mb, bv_s, mark_bad je.mb]
      exact ⟨_, _, rfl, rfl, lr⟩
    | none =>
      obtain ⟨k2, -, aF⟩ := oE_none ho
      have tk1 := tK_adv (B := B) (n := n) (p := tE B n p) (by omega)
      obtain ⟨S2, T2, a2, b2, h2, f2, g2⟩ := h1.step
      have c2 : cD d S S2 := c1.a f2
      have m2 : mD T T2 := m1.s g2
      generalize tN B n (tE B n p) = x at aF
      dsimp only
      rw [bd_s, h1.pass a2, bv_s, bd_s, h1.ok24, if_pos rfl, b2, bv_s, ri_s, bd_s]
      obtain ⟨-, ⟨s0'', s1'', s2''⟩, ⟨t5'', t6'', t7''⟩, -, ⟨w, w1, w2⟩, -⟩ := id h2.2.1
      rw [c_fh h2.1 hF s0'', show fX10_oneNow 0 T2 = _ from m_one h2.1 (i := 0) rfl (by decide) hF t5'']
      cases ho2 : oE B n F (tE B n (tE B n p)) with
      | some c =>
        obtain ⟨je, lr⟩ := h2.flt (p0 := p) (oE_some ho2).1 (oE_some ho2).2 c2 m2
        dsimp only
        rw [bd_s, if_neg je.cb]
        unfold BX6_pathLine_71
        rw [c_pass_bad je.cb, bv_s, c_nh_bad je.cb, bd_s, c_pass_bad je.cb, bv_s, c_passEnd_bad je.cb, bv_s, if_neg je.cb, bd_s, if_neg je.mb]
        unfold BX10_sayPath_59 BX10_sayPath_70
        rw [if_neg je.mb, m_rn_bad je.mb, bd_s, if_neg je.mb, bv_s, mark_bad je.mb]
        exact ⟨_, _, rfl, rfl, lr⟩
      | none =>
        obtain ⟨k3, -, bF⟩ := oE_none ho2
        have tk2 := tK_adv (B := B) (n := n) (p := tE B n (tE B n p)) (by omega)
        generalize tN B n (tE B n (tE B n p)) = y at bF
        dsimp only
        rw [bd_s, h2.ok3, if_pos rfl, bd_s, h2.ok24, if_pos rfl]
        have four : ∃ S' T', BX6_pathLine_65 (nI x) (nI y) S2 = some S' ∧ (bv (BX10_sayPath_54 (nI x) (nI y) 64 T2) fun S => fX10_mark 59 S) = some T' ∧ LR B n d S T p sX fX e1 e2 S' T' := by
          obtain ⟨je, lr⟩ := h2.flt (p0 := p) (c := 4) (by decide) (by decide) c2 m2
          unfold BX6_pathLine_65 BX10_sayPath_54
          rw [show (4 : Int32) = nI 4 from rfl, c_refuse h2.1, bd_s, m_wrong h2.1, bv_s]
          unfold BX6_pathLine_71 BX10_sayPath_59 BX10_sayPath_70
          rw [c_pass_bad je.cb, bv_s, c_nh_bad je.cb, bd_s, c_pass_bad je.cb, bv_s, c_passEnd_bad je.cb, bv_s, if_neg je.cb, if_neg je.mb, m_rn_bad je.mb, bd_s, if_neg je.mb, bv_s, mark_bad je.mb]
          exact ⟨_, _, rfl, rfl, lr⟩
        by_cases cxy : x = y
        · rw [if_pos (by rw [cxy]), if_pos (by rw [cxy])]; exact four
        · have nxy : ¬ nI x = nI y := by rw [nI_eq (by omega) (by omega)]; exact cxy
          obtain ⟨w4, w5⟩ := w2 x (by omega)
          obtain ⟨w51, w52⟩ := w5 y (by omega)
          rw [if_neg nxy, if_neg nxy, gm_v h2.d32 hd, srv6 hd, rdv4 hd (by omega), w4, show (64 : Int32) + 8 * nI x + nI y = nI (64 + 8 * x + y) from by rw [lm8, la64, nI_add], rd149 (by omega), w52]
          by_cases hb : w x y = 0
          · have hbit : bit (nI (hbits (fun k => decide (w x k ≠ 0)) 8)) (nI y) = false := by rw [hb_bit (by omega)]; exact decide_eq_false (fun z => z hb)
            rw [if_pos (bit_iff.mpr hbit), if_pos (by rw [hb]; rfl)]
            obtain ⟨S3, T3, a3, b3, h3, f3, g3⟩ := h2.step
            have c3 : cD d S S3 := c2.a f3
            have m3 : mD T T3 := m2.s g3
            unfold BX6_pathLine_71 BX10_sayPath_59
            rw [h2.pass a3, bv_s, h2.ok24, if_pos rfl, b3, bv_s]
            unfold BX10_sayPath_70 fX10_readNumber
            rw [show fX6_numberHere 1 20 2 S3 = _ from c_nh (lo := 1) (hi := 20) (fo := 2) h3.1 (by decide) 20 (fun m hm => nI_leI (b := 20) (by omega) (by decide)), show fX10_numberNow 1 20 T3 = _ from m_nn (lo := 1) (hi := 20) h3.1 (by decide) (by decide)]
            cases hn : nE B n 1 20 2 (tE B n (tE B n (tE B n p))) with
            | some c =>
              obtain ⟨c15, c15'⟩ := nE_some hn (by decide)
              obtain ⟨je, lr⟩ := h3.flt (p0 := p) c15 c15' c3 m3
              dsimp only
              rw [bd_s, c_pass_bad je.cb, bv_s, c_passEnd_bad je.cb, bv_s, if_neg je.cb, bd_s, if_neg je.mb, ri_s, bd_s, if_neg je.mb, bv_s, mark_bad je.mb]
              exact ⟨_, _, rfl, rfl, lr⟩
            | none =>
              obtain ⟨k4, -, z1, z20⟩ := nE_none hn
              have tk3 := tK_adv (B := B) (n := n) (p := tE B n (tE B n (tE B n p))) (by omega)
              generalize tN B n (tE B n (tE B n (tE B n p))) = z at z1 z20
              obtain ⟨S4, T4, a4, b4, h4, f4, g4⟩ := h3.step
              have c4 : cD d S S4 := c3.a f4
              have m4 : mD T T4 := m3.s g4
              dsimp only
              obtain ⟨-, ⟨s0q, s1q, s2q⟩, ⟨t5q, t6q, t7q⟩, -⟩ := id h4.2.1
              rw [bd_s, h3.pass a4, bv_s, bd_s, h3.ok24, if_pos rfl, b4, bv_s, ri_s, bd_s, h4.ok24, if_pos rfl, show (64 : Int32) + 8 * nI x + nI y = nI (64 + 8 * x + y) from by rw [lm8, la64, nI_add], wr149 (by omega), show (64 : Int32) + 8 * nI y + nI x = nI (64 + 8 * y + x) from by rw [lm8, la64, nI_add], wr149 (by omega), rd145_6, up_ne (by decide), up_ne (by decide), t6q, nI_1, wr145_6, bv_s]
              generalize hT5 : up (up (up T4 149 (64 + 8 * x + y) (nI z)) 149 (64 + 8 * y + x) (nI z)) 145 6 (nI (P + 1)) = T5
              have t5c : ∀ a, a ≠ 145 → a ≠ 149 → T5 a = T4 a := fun a q1 q2 => by rw [← hT5, up_ne q1, up_ne q2, up_ne q2]
              have hJ5 : JW B n d S4 T5 (tE B n (tE B n (tE B n (tE B n p)))) := h4.1.mv rfl rfl rfl (t5c _ (by decide) (by decide)) (fun j _ _ => by rw [t5c _ (by decide) (by decide)])
              have m5 : mD T T5 := by rw [← hT5]; exact ((m4.up (by omega)).up (by omega)).up (by omega)
              obtain ⟨S6, T6, a6, b6, f6, m6, g6, -, r6⟩ := J_end hJ5
              rw [a6, bv_s, b6]
              have c6 : cD d S S6 := c4.tr (fun a q1 q2 => f6 a (by omega) (by omega))
              rcases r6 with ⟨kE, j6, e32⟩ | je
              · have tk4 := tK_adv (B := B) (n := n) (p := tE B n (tE B n (tE B n (tE B n p)))) (by omega)
                have ex : ((1 : Int32) <<< (nI x &&& 31)) = nI (2 ^ x) := sh_N x (by omega)
                have ey : ((1 : Int32) <<< (nI y &&& 31)) = nI (2 ^ y) := sh_N y (by omega)
                have b4' : ∀ q, q < 8 → S6 (d + 4) q = nI (hbits (fun k => decide (w q k ≠ 0)) 8) := fun q hq => by rw [f6 _ (by omega) (by omega), f4 _ (by omega), f3 _ (by omega)]; exact (w2 q hq).1
                have s1w : S6 d 1 = nI P := by rw [f6 d (by omega) (by omega)]; exact s1q
                rw [j6.2.2.2.2.1, if_pos rfl, gm_v j6.2.2.2.1 hd]
                unfold fX8_addPath
                rw [srv6 hd, srv7 hd, rdv4 hd (by omega), b4' x (by omega), ey, or_N, wrv4 hd (by omega), rdv4 hd (by omega), up_off (fun q => cxy q.symm), b4' y (by omega), ex, or_N, wrv4 hd (by omega), ix_8, wrv5 hd (by omega), ix_8, wrv5 hd (by omega), pf_s, up_ne (by omega), up_ne (by omega), up_ne (by omega), up_ne (by omega), s1w, nI_1, bv_s]
                generalize hS7 : up (up (up (up (up S6 (d + 4) x (nI (hbits (fun k => decide (w x k ≠ 0)) 8 ||| 2 ^ y))) (d + 4) y (nI (hbits (fun k => decide (w y k ≠ 0)) 8 ||| 2 ^ x))) (d + 5) (x * 8 + y) (nI z)) (d + 5) (y * 8 + x) (nI z)) d 1 (nI (P + 1)) = S7
                have s7c : ∀ a, a ≠ d → a ≠ d + 4 → a ≠ d + 5 → S7 a = S6 a := fun a q1 q2 q3 => by rw [← hS7, up_ne q1, up_ne q3, up_ne q3, up_ne q2, up_ne q2]
                refine ⟨_, _, rfl, rfl, ?_, m5.tr m6, Or.inr ⟨_, F, P + 1, N, ⟨j6.mv (s7c _ (by omega) (by omega) (by omega)) (s7c _ (by omega) (by omega) (by omega)) (s7c _ (by omega) (by omega) (by omega)) rfl (fun _ _ _ => rfl), ?_, ?_, ?_⟩, by omega⟩⟩
                · exact c6.tr (fun a q1 q2 => s7c a (by omega) (by omega) (by omega))
                · obtain ⟨hb', hs', ht', dF', dP', dS', dO', dR1', dR2'⟩ := id h4.2.1
                  have cc : ∀ a, d ≤ a → a ≤ d + 13 → a ≠ d → a ≠ d + 4 → a ≠ d + 5 → S7 a = S4 a := fun a q1 q2 q3 q4 q5 => by rw [s7c a q3 q4 q5]; exact f6 a (by omega) (by omega)
                  have mm : ∀ a, 145 ≤ a → a ≤ 155 → a ≠ 145 → a ≠ 149 → T6 a = T4 a := fun a q1 q2 q3 q4 => by rw [g6 a (by omega)]; exact t5c a q3 q4
                  have t145 : ∀ j, j ≠ 6 → T6 145 j = T4 145 j := fun j hj => by rw [g6 145 (by decide), ← hT5, up_off hj, up_ne (by decide), up_ne (by decide)]
                  have s7d : ∀ j, j ≠ 1 → S7 d j = S4 d j := fun j hj => by rw [← hS7, up_off hj, up_ne (by omega), up_ne (by omega), up_ne (by omega), up_ne (by omega), f6 d (by omega) (by omega)]
                  refine ⟨⟨hF, by omega, hN⟩, ⟨by rw [s7d 0 (by decide)]; exact hs'.1, by rw [← hS7, up_at], by rw [s7d 2 (by decide)]; exact hs'.2.2⟩, ⟨by rw [t145 5 (by decide)]; exact ht'.1, by rw [g6 145 (by decide), ← hT5, up_at], by rw [t145 7 (by decide)]; exact ht'.2.2⟩, ?_, ?_, ?_, ?_, dR1'.go (cc _ (by omega) (by omega) (by omega) (by omega) (by omega)) (cc _ (by omega) (by omega) (by omega) (by omega) (by omega)) (t145 _ (by decide)) (fun j _ => by rw [mm (sgc true) (by decide) (by decide) (by decide) (by decide)]), dR2'.go (cc _ (by omega) (by omega) (by omega) (by omega) (by omega)) (cc _ (by omega) (by omega) (by omega) (by omega) (by omega)) (t145 _ (by decide)) (fun j _ => by rw [mm (sgc false) (by decide) (by decide) (by decide) (by decide)])⟩
                  · unfold RDf at dF' ⊢
                    rw [cc (d + 1) (by omega) (by omega) (by omega) (by omega) (by omega), cc (d + 2) (by omega) (by omega) (by omega) (by omega) (by omega), cc (d + 3) (by omega) (by omega) (by omega) (by omega) (by omega), mm 146 (by omega) (by omega) (by omega) (by omega), mm 147 (by omega) (by omega) (by omega) (by omega), mm 148 (by omega) (by omega) (by omega) (by omega)]
                    exact dF'
                  · have w0 : ∀ q r, (if (q = x ∧ r = y) ∨ (q = y ∧ r = x) then z else w q r) = (if (r = x ∧ q = y) ∨ (r = y ∧ q = x) then z else w r q) := fun q r => by
                      by_cases c : (q = x ∧ r = y) ∨ (q = y ∧ r = x)
                      · rw [if_pos c, if_pos (by omega)]
                      · rw [if_neg c, if_neg (by omega)]; exact (w1 q r).2.1
                    refine ⟨fun q r => if (q = x ∧ r = y) ∨ (q = y ∧ r = x) then z else w q r, fun q r => ⟨?_, w0 q r, fun hne => ?_⟩, fun q hq => ⟨?_, fun r hr => ⟨?_, ?_⟩⟩⟩
                    · show (if (q = x ∧ r = y) ∨ (q = y ∧ r = x) then z else w q r) ≤ 20
                      split
                      · exact z20
                      · exact (w1 q r).1
                    · by_cases c : (q = x ∧ r = y) ∨ (q = y ∧ r = x)
                      · omega
                      · have hne' : (if (q = x ∧ r = y) ∨ (q = y ∧ r = x) then z else w q r) ≠ 0 := hne
                        rw [if_neg c] at hne'
                        exact (w1 q r).2.2 hne'
                    · have base : S6 (d + 4) q = nI (hbits (fun k => decide (w q k ≠ 0)) 8) := b4' q hq
                      rw [← hS7, up_ne (by omega), up_ne (by omega), up_ne (by omega)]
                      by_cases cy : q = y
                      · subst cy
                        rw [up_at]
                        refine congrArg nI (hb_or (by omega) (fun k hk => ?_)).symm
                        show decide ((if (q = x ∧ k = q) ∨ (q = q ∧ k = x) then z else w q k) ≠ 0) = (decide (w q k ≠ 0) || decide (x = k))
                        by_cases ck : x = k
                        · rw [if_pos (by omega), decide_eq_true ck, Bool.or_true]; exact decide_eq_true (by omega)
                        · rw [if_neg (by omega), decide_eq_false ck, Bool.or_false]
                      · rw [up_off cy]
                        by_cases cx : q = x
                        · subst cx
                          rw [up_at]
                          refine congrArg nI (hb_or (by omega) (fun k hk => ?_)).symm
                          show decide ((if (q = q ∧ k = y) ∨ (q = y ∧ k = q) then z else w q k) ≠ 0) = (decide (w q k ≠ 0) || decide (y = k))
                          by_cases ck : y = k
                          · rw [if_pos (by omega), decide_eq_true ck, Bool.or_true]; exact decide_eq_true (by omega)
                          · rw [if_neg (by omega), decide_eq_false ck, Bool.or_false]
                        · rw [up_off cx, base]
                          refine congrArg nI (hbits_congr 8 (fun k hk => ?_))
                          show decide (w q k ≠ 0) = decide ((if (q = x ∧ k = y) ∨ (q = y ∧ k = x) then z else w q k) ≠ 0)
                          rw [if_neg (by omega)]
                    · show S7 (d + 5) (q * 8 + r) = nI (if (if (q = x ∧ r = y) ∨ (q = y ∧ r = x) then z else w q r) = 0 then 1000000 else (if (q = x ∧ r = y) ∨ (q = y ∧ r = x) then z else w q r))
                      rw [← hS7, up_ne (by omega)]
                      by_cases cyx : q = y ∧ r = x
                      · obtain ⟨rfl, rfl⟩ := cyx
                        rw [up_at, if_pos (Or.inr ⟨rfl, rfl⟩), if_neg (by omega)]
                      · rw [up_off (by omega)]
                        by_cases cxy' : q = x ∧ r = y
                        · obtain ⟨rfl, rfl⟩ := cxy'
                          rw [up_at, if_pos (Or.inl ⟨rfl, rfl⟩), if_neg (by omega)]
                        · rw [up_off (by omega), up_ne (by omega), up_ne (by omega), if_neg (show ¬ ((q = x ∧ r = y) ∨ (q = y ∧ r = x)) by omega), f6 _ (by omega) (by omega), f4 _ (by omega), f3 _ (by omega)]
                          exact ((w2 q hq).2 r hr).1
                    · show T6 149 (64 + 8 * q + r) = nI (if (q = x ∧ r = y) ∨ (q = y ∧ r = x) then z else w q r)
                      rw [g6 149 (by decide), ← hT5, up_ne (by decide)]
                      by_cases cyx : q = y ∧ r = x
                      · obtain ⟨rfl, rfl⟩ := cyx
                        rw [up_at, if_pos (Or.inr ⟨rfl, rfl⟩)]
                      · rw [up_off (by omega)]
                        by_cases cxy' : q = x ∧ r = y
                        · obtain ⟨rfl, rfl⟩ := cxy'
                          rw [up_at, if_pos (Or.inl ⟨rfl, rfl⟩)]
                        · rw [up_off (by omega), if_neg (by omega), g4.1 149 (by decide), g3.1 149 (by decide)]
                          exact ((w2 q hq).2 r hr).2
                  · unfold RDs at dS' ⊢
                    rw [cc (d + 6) (by omega) (by omega) (by omega) (by omega) (by omega), cc (d + 7) (by omega) (by omega) (by omega) (by omega) (by omega), cc (d + 8) (by omega) (by omega) (by omega) (by omega) (by omega), mm 151 (by omega) (by omega) (by omega) (by omega), mm 150 (by omega) (by omega) (by omega) (by omega), mm 152 (by omega) (by omega) (by omega) (by omega)]
                    exact dS'
                  · unfold RDo at dO' ⊢
                    rw [cc (d + 9) (by omega) (by omega) (by omega) (by omega) (by omega), mm 153 (by omega) (by omega) (by omega) (by omega)]
                    exact dO'
                · have := h4.2.2.1; omega
                · have := h4.2.2.2; omega
              · rw [if_neg je.cb]
                exact ⟨_, _, rfl, rfl, c6, m5.tr m6, Or.inl ⟨_, _, je⟩⟩
          · have hbit : bit (nI (hbits (fun k => decide (w x k ≠ 0)) 8)) (nI y) = true := by rw [hb_bit (by omega)]; exact decide_eq_true hb
            have := (w1 x y).1
            rw [if_neg (fun z => by rw [bit_iff.mp z] at hbit; cases hbit), if_neg (nI_ne0 (by omega) (by omega))]
            exact four
end LO
