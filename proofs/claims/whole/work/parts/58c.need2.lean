theorem A_needed (a1 a2 a3 : Int32) : Agr 2 (fX9_needed a1 a2 a3) (fX10_needed a1 a2 a3) := by
  refine look (fun S V v d hR => ?_)
  have hV := hR.vk
  have hS6 := hV.2.1
  have hF8 := hV.1
  rcases arg a1 (n := vS' V) (by omega) with ⟨s, hs, rfl⟩ | h1
  · rcases arg a2 (n := vF V) (by omega) with ⟨f, hf, rfl⟩ | h2
    · rcases arg2 a3 (lo := 1) (hi := 60) (by decide) (by decide) with ⟨n, n1, hn, rfl⟩ | h3
      · have ref : ∀ U, U ≤ 60 → (∀ e, e < U → ∃ i, i < n ∧ trI V (hrs V (upd (S 37) (14 + s * 8 + f) (nI e)) i) s = nI f) → (∀ i, i < n → ¬ trI V (hrs V (upd (S 37) (14 + s * 8 + f) (nI U)) i) s = nI f) → ∀ T, cK S T → ok (fX10_needed (nI s) (nI f) (nI n) T) (fun q => mK T q.2 ∧ q.2 142 3 = 0 ∧ q.1 = nI U) := by
          intro U hU hlo hhi T hT
          have hT' := hR.c hT
          have hM0 : VM V (up T 142 3 0) := hT'.M.go (fun a ha => up_ne (by omega))
          have e37 := hT.at 37 (by decide) (by decide) (by decide) (by decide) (by decide)
          obtain ⟨T1, e1, ⟨y, T2⟩, e2, q1, q2, q3⟩ := M_need hT' hs hf hn hU (by rw [e37]; exact hlo) (by rw [e37]; exact hhi)
          unfold fX10_needed
          rw [pf_s, M_isS_t hM0 hs, bd_s, if_neg (by decide), M_isF_t hM0 hf, bd_s, if_neg (by decide), show (1 : Int64) = (nI 1).toInt64 from rfl, show (60 : Int64) = (nI 60).toInt64 from rfl, M_in_t n1 hn (by decide), bd_s, if_neg (by decide), e1, bv_s, e2]
          exact ok_some ⟨q2, q3, q1⟩
        by_cases co : S 37 (98 + f) = -1 ∨ S 37 (98 + f) = nI s
        · refine ⟨.inl (nI 0), ?_, ref 0 (by omega) (fun e he => absurd he (by omega)) (fun i hi => ?_)⟩
          · unfold fX9_needed
            rw [C_nS_t hR hs, bt_s, C_nF_t hR hf, bt_s, show fX9_needHours (nI n) 1 S = some (.inl 0, S) from C_nH_t n1 hn, bt_s]
            simp (disch := omega) only [bd_s, bv_s, bt_s, bt_x, vl_s, pf_s, ri_s, rz_0, rz_1, tri_s, trz_0, trz_1, trx_s, pz_0, pz_1, nI_add, pk_mul, up_at, la2, la5, la6, la8, la14, la62, la64, la98, la700, ra1, ra2, ra6, ra8, ra12, ra20, ra36, ra48, lm6, lm8, lm10, lm100, lm106, rm6, rm8, rm10, rm100, rm106, rd37]
            by_cases c1 : S 37 (98 + f) = -1
            · rw [if_pos c1]; exact ok_some ⟨rfl, cK.rf⟩
            · rcases co with c2 | c2
              · exact absurd c2 c1
              · rw [if_neg c1, if_pos c2]; exact ok_some ⟨rfl, cK.rf⟩
          · have ry := ROk_e hV hR.rok (s := s) (f := f) (e := 0) (by omega) (by omega) (by omega)
            obtain ⟨r1, r2, -⟩ := hrs_ok ry hV i (by omega)
            obtain ⟨r3, r4⟩ := sns_ok r1 hV (by omega) s (by omega)
            intro z
            unfold trI at z
            have fm : ¬ (-1 : Int32) = nI f := fun z => nI_ne_m1 (n := f) (by omega) z.symm
            split at z
            · exact fm z
            · split at z
              · rename_i c1 c2
                rw [z, nI_clamp (by omega)] at c2
                unfold tre at c2
                rw [r4 (98 + f) (by omega), r2 (98 + f) (by omega), upd_ne (by omega)] at c2
                rcases co with c3 | c3
                · simp [c3] at c2
                · simp [c3] at c2
              · exact fm z
        · have o1 : ¬ S 37 (98 + f) = -1 := fun z => co (Or.inl z)
          have o2 : ¬ S 37 (98 + f) = nI s := fun z => co (Or.inr z)
          have r99 := ROk_e hV hR.rok (s := s) (f := f) (e := 99) (by omega) (by omega) (by omega)
          obtain ⟨U, hU, xU, all⟩ := oe_hrs (x := upd (S 37) (14 + s * 8 + f) (nI 99)) hV r99 hs hf (by rw [upd_ne (by omega)]; exact o1) (by rw [upd_ne (by omega)]; exact o2) upd_at n hn (by omega)
          have dif : ∀ e, oe (14 + s * 8 + f) (upd (S 37) (14 + s * 8 + f) (nI 99)) (upd (S 37) (14 + s * 8 + f) (nI e)) := fun e i hi => by rw [upd_ne hi, upd_ne hi]
          refine ⟨.inl (nI U), ?_, ref U (by omega) (fun e he => ?_) ?_⟩
          · obtain ⟨S1, e1, b1, b2, b3, b4, b5⟩ := C_begin (a2 := 37) hR.C rfl (by decide) hR.rok (by decide)
            generalize hS2 : up S1 131 (14 + s * 8 + f) 99 = S2
            have a2 : ag (S2 131) (upd (S 37) (14 + s * 8 + f) (nI 99)) := by rw [← hS2, up_row]; exact ag_upd b1
            have hC2 : VC V v S2 := b2.1.go (fun a h1 h2 h3 => by have := hR.hv; rw [← hS2, up_ne (by omega)])
            have e130 : S2 130 0 = nI v := by rw [← hS2, up_ne (by decide)]; exact b2.2.1
            have rS2 : ROk V 10000 (S2 131) := ag_ROk hV a2.sm r99
            obtain ⟨S3, e3, g1, g2, g3, g4, g5, g6⟩ := C_go (n := n) hC2 e130 rS2 hn (by omega)
            have e13 : S3 131 (14 + s * 8 + f) = nI (99 - U) := by rw [g1, ag_hrs hV a2 rS2 n (by omega) _ (by omega), xU]
            unfold fX9_needed
            rw [C_nS_t hR hs, bt_s, C_nF_t hR hf, bt_s, show fX9_needHours (nI n) 1 S = some (.inl 0, S) from C_nH_t n1 hn, bt_s]
            simp (disch := omega) only [bd_s, bv_s, bt_s, bt_x, vl_s, pf_s, ri_s, rz_0, rz_1, tri_s, trz_0, trz_1, trx_s, pz_0, pz_1, nI_add, pk_mul, up_at, la2, la5, la6, la8, la14, la62, la64, la98, la700, ra1, ra2, ra6, ra8, ra12, ra20, ra36, ra48, lm6, lm8, lm10, lm100, lm106, rm6, rm8, rm10, rm100, rm106, rd37]
            rw [if_neg o1, if_neg o2, gm_v hR.2.1 hR.hv, e1, bv_s]
            simp (disch := omega) only [bd_s, bv_s, bt_s, bt_x, vl_s, pf_s, ri_s, rz_0, rz_1, tri_s, trz_0, trz_1, trx_s, pz_0, pz_1, nI_add, pk_mul, up_at, la2, la5, la6, la8, la14, la62, la64, la98, la700, ra1, ra2, ra6, ra8, ra12, ra20, ra36, ra48, lm6, lm8, lm10, lm100, lm106, rm6, rm8, rm10, rm100, rm106, wr131, wr132, wr133, wr134, wr135, wr136, wr131_0, wr131_1, wr136_0, wr136_1, wr136_2, wr136_3, wr136_4, hS2, e3, rd131, rd132, rd133, rd134, rd135, rd136, rd131_0, rd131_1, rd131_8, e13]
            refine ok_some ⟨?_, cFr.k (fun a h1 h2 h3 h4 h5 => by show S3 a = S a; rw [g6 a h1 h2 h3 h4 h5, ← hS2, up_ne (by omega)]; exact b5 a h1 h2 h3 h4 h5)⟩
            show Sum.inl (99 - nI (99 - U)) = Sum.inl (nI U)
            rw [show (99 : Int32) = nI 99 from rfl, pk_sub (by omega)]
            exact congrArg (fun z => Sum.inl (nI z)) (by omega)
          · exact (all e _ (by omega) (ROk_e hV hR.rok (by omega) (by omega) (by omega)) (dif e) upd_at).2 he
          · exact ((all U _ (by omega) (ROk_e hV hR.rok (by omega) (by omega) (by omega)) (dif U) upd_at).1 (Nat.le_refl _)).2.2
      · refine ⟨.inr 2, ?_, fun T hT => ?_⟩
        · unfold fX9_needed
          rw [C_nS_t hR hs, bt_s, C_nF_t hR hf, bt_s, show (1 : Int32) = nI 1 from rfl, C_nH_f h3, bt_x]
          exact ok_some ⟨rfl, cK.rf⟩
        · have hM0 : VM V (up T 142 3 0) := (hR.c hT).M.go (fun a ha => up_ne (by omega))
          unfold fX10_needed
          rw [pf_s, M_isS_t hM0 hs, bd_s, if_neg (by decide), M_isF_t hM0 hf, bd_s, if_neg (by decide), show (1 : Int64) = (nI 1).toInt64 from rfl, show (60 : Int64) = (nI 60).toInt64 from rfl, M_in_f (by decide) h3 (by decide), bd_s, if_pos rfl, m_fail]
          exact ok_some ⟨mKx, Or.inr ⟨rfl, rfl⟩⟩
    · refine ⟨.inr 1, ?_, fun T hT => ?_⟩
      · unfold fX9_needed
        rw [C_nS_t hR hs, bt_s, C_nF_f hR h2, bt_x]
        exact ok_some ⟨rfl, cK.rf⟩
      · have hM0 : VM V (up T 142 3 0) := (hR.c hT).M.go (fun a ha => up_ne (by omega))
        unfold fX10_needed BX10_needed_21
        rw [pf_s, M_isS_t hM0 hs, bd_s, if_neg (by decide), M_isF_f hM0 h2, bd_s, if_pos rfl, m_fail]
        exact ok_some ⟨mKx, Or.inl ⟨rfl, rfl⟩⟩
  · refine ⟨.inr 1, ?_, fun T hT => ?_⟩
    · unfold fX9_needed
      rw [C_nS_f hR h1, bt_x]
      exact ok_some ⟨rfl, cK.rf⟩
    · unfold fX10_needed BX10_needed_21
      rw [pf_s, M_isS_f ((hR.c hT).M.go (fun a ha => up_ne (by omega))) h1, bd_s, if_pos rfl, m_fail]
      exact ok_some ⟨mKx, Or.inl ⟨rfl, rfl⟩⟩
